section WALK
variable {p : Program} {l : Launch} {e : Env} {s : State} {m : MethodId} {args : Array Value} {below : List Frame} {meth : Method} {c : Code} {G : Gp} {DA : Nat → Prop}
abbrev rmX9_isBeaten : Room := { frames := 2, cells := 0, slots := 0, locals := 42 }
set_option maxRecDepth 100000 in
set_option maxHeartbeats 4000000 in
theorem ww_f9_isBeaten_b28  (C0 : Cx cX9_isBeaten 8 (some .boolean) RX9 p s m args meth c G DA) {h0 : Nat} {a0 : Nat → Nat} {wk : Option Nat} {a1 : Nat → Nat} {f0 : Nat → Int32} {A0 : Nat → Nat → Int32} {f1 : Nat → Int32} {A1 : Nat → Nat → Int32} {p1 : Int32} {p2 : Int32}  {k28 : Int32 → Int32 → Int32 → Option (Int32)} {res : Int32}  (hk28 : ∀ (l3 : Int32) (l4 : Int32) (l5 : Int32), k28 l3 l4 l5 = some res → ∀ (H : Heap) (locs : List Loc) (ls : Array Slot), WD G DA (wX9 G h0 a0 wk f0 A0 ++ (wX7 G (a0 0) a1 f1 A1)) H → va_S DA s.heap H locs → lv_has ls 8 [(0, .ref h0), (1, .int p1), (2, .int p2), (3, .int l3), (4, .int l4), (5, .int l5)] → W p l e rmX9_isBeaten s m args below meth c H locs 0 0 (MQ below (QI G DA res (wX9 G h0 a0 wk f0 A0 ++ (wX7 G (a0 0) a1 f1 A1))) args s 0 0 DA) (F0 m 28 ls [])) : ∀ (l3 : Int32) (l4 : Int32) (l5 : Int32), f9_isBeaten_b28 f0 A0 f1 A1 p1 p2  k28 l3 l4 l5 = some res → ∀ (H : Heap) (locs : List Loc) (ls : Array Slot), WD G DA (wX9 G h0 a0 wk f0 A0 ++ (wX7 G (a0 0) a1 f1 A1)) H → va_S DA s.heap H locs → lv_has ls 8 [(0, .ref h0), (1, .int p1), (2, .int p2), (3, .int l3), (4, .int l4), (5, .int l5)] → W p l e rmX9_isBeaten s m args below meth c H locs 0 0 (MQ below (QI G DA res (wX9 G h0 a0 wk f0 A0 ++ (wX7 G (a0 0) a1 f1 A1))) args s 0 0 DA) (F0 m 28 ls []) := by
  obtain ⟨hx, hb, hml, hown, hts⟩ := C0.1
  have hK := C0.2.2.2.1
  intro l3 l4 l5 h _ _ _ hPD hS hl
  unfold f9_isBeaten_b28 at h
  refine lv_iload hx hb dX9_isBeaten_28 (lv_at hl 5 rfl) ?_
  refine lv_iload_n hx hb dX9_isBeaten_30 rfl (lv_at hl 2 rfl) ?_
  refine lv_icmp_ge (tgt := 93) hx hb dX9_isBeaten_31 (by decide) (fun cc1 => ?_) (fun cc1 => ?_)
  · have h := (if_pos cc1).symm.trans h
    refine lv_iconst (v := 0) hx hb dX9_isBeaten_93 (by decide) ?_
    obtain rfl := Option.some.inj h
    exact eZ C0 hPD.1 hPD.2 hS rfl rfl dX9_isBeaten_94
  · have h := (if_neg cc1).symm.trans h
    refine lv_aload_n hx hb dX9_isBeaten_34 rfl (lv_at hl 0 rfl) ?_
    refine va_get (D := G.1) (ci := 9) (v := .ref (a0 0)) (C := RX9) (T := TX9) (N := 15) hx hb hts inlX9 hown hK hPD.1 0 rfl rfl 0 (by decide) (hts _ gw_363) (fun _ h9 => h9) rfl dX9_isBeaten_35 ?_
    refine lv_iconst (v := 2) hx hb dX9_isBeaten_38 (by decide) ?_
    refine lv_iload hx hb dX9_isBeaten_39 (lv_at hl 5 rfl) ?_
    refine lv_imul hx hb dX9_isBeaten_41 ?_
    refine kVI (As := [.int (2 * l5)]) (rest := []) C0 (kt_X7_byteAt l G (a0 0) a1 f1 A1 (2 * l5)) gi_V_X9_224_X7_byteAt (n := 1) rfl (by decide +kernel) rfl ⟨rfl, rfl, Nat.le_of_ble_eq_true rfl, Nat.le_of_ble_eq_true rfl⟩ hPD hS 2 7 rfl rfl rfl [2, 3] [0, 1] [0, 1, 2, 3] (wr := (wX9 G h0 a0 wk f0 A0)) (wN := (wX9 G h0 a0 wk f0 A0 ++ (wX7 G (a0 0) a1 f1 A1))) rfl rfl rfl rfl rfl hl.1 (Nat.le_of_ble_eq_true rfl) dX9_isBeaten_42 (fun H locs hPD hS => ?_)
    refine lv_iload_n hx hb dX9_isBeaten_45 rfl (lv_at hl 3 rfl) ?_
    refine lv_isub hx hb dX9_isBeaten_46 ?_
    refine lv_istore (lv' := [(6, .int ((f7_byteAt f1 A1 (2 * l5)) - l3)), (0, .ref h0), (1, .int p1), (2, .int p2), (3, .int l3), (4, .int l4), (5, .int l5)]) hx hb dX9_isBeaten_47 hl (by decide) rfl (fun ls hl => ?_)
    refine lv_aload_n hx hb dX9_isBeaten_49 rfl (lv_at hl 1 rfl) ?_
    refine va_get (D := G.1) (ci := 9) (v := .ref (a0 0)) (C := RX9) (T := TX9) (N := 15) hx hb hts inlX9 hown hK hPD.1 0 rfl rfl 0 (by decide) (hts _ gw_363) (fun _ h9 => h9) rfl dX9_isBeaten_50 ?_
    refine lv_iconst (v := 2) hx hb dX9_isBeaten_53 (by decide) ?_
    refine lv_iload hx hb dX9_isBeaten_54 (lv_at hl 6 rfl) ?_
    refine lv_imul hx hb dX9_isBeaten_56 ?_
    refine lv_iconst (v := 1) hx hb dX9_isBeaten_57 (by decide) ?_
    refine lv_iadd hx hb dX9_isBeaten_58 ?_
    refine kVI (As := [.int ((2 * l5) + 1)]) (rest := []) C0 (kt_X7_byteAt l G (a0 0) a1 f1 A1 ((2 * l5) + 1)) gi_V_X9_224_X7_byteAt (n := 1) rfl (by decide +kernel) rfl ⟨rfl, rfl, Nat.le_of_ble_eq_true rfl, Nat.le_of_ble_eq_true rfl⟩ hPD hS 2 7 rfl rfl rfl [2, 3] [0, 1] [0, 1, 2, 3] (wr := (wX9 G h0 a0 wk f0 A0)) (wN := (wX9 G h0 a0 wk f0 A0 ++ (wX7 G (a0 0) a1 f1 A1))) rfl rfl rfl rfl rfl hl.1 (Nat.le_of_ble_eq_true rfl) dX9_isBeaten_59 (fun H locs hPD hS => ?_)
    refine lv_iload hx hb dX9_isBeaten_62 (lv_at hl 5 rfl) ?_
    refine lv_isub hx hb dX9_isBeaten_64 ?_
    refine lv_istore (lv' := [(7, .int ((f7_byteAt f1 A1 ((2 * l5) + 1)) - l4)), (6, .int ((f7_byteAt f1 A1 (2 * l5)) - l3)), (0, .ref h0), (1, .int p1), (2, .int p2), (3, .int l3), (4, .int l4), (5, .int l5)]) hx hb dX9_isBeaten_65 hl (by decide) rfl (fun ls hl => ?_)
    refine lv_iload hx hb dX9_isBeaten_67 (lv_at hl 1 rfl) ?_
    refine lv_if_lt (tgt := 87) hx hb dX9_isBeaten_69 (by decide) (fun cc1 => ?_) (fun cc1 => ?_)
    · have h := (if_pos cc1).symm.trans h
      refine lv_iinc (v := l5 + 1) (lv' := [(5, .int (l5 + 1)), (7, .int ((f7_byteAt f1 A1 ((2 * l5) + 1)) - l4)), (6, .int ((f7_byteAt f1 A1 (2 * l5)) - l3)), (0, .ref h0), (1, .int p1), (2, .int p2), (3, .int l3), (4, .int l4)]) hx hb dX9_isBeaten_87 hl (k := 7) rfl rfl (by decide) rfl (fun ls hl => ?_)
      refine lv_goto (tgt := 28) hx hb dX9_isBeaten_90 (by decide) ?_
      exact hk28 l3 l4 (l5 + 1) h _ _ _ hPD hS (lv_sub hl [3, 4, 5, 6, 7, 0] rfl)
    · have h := (if_neg cc1).symm.trans h
      refine lv_iload hx hb dX9_isBeaten_72 (lv_at hl 0 rfl) ?_
      refine lv_if_lt (tgt := 87) hx hb dX9_isBeaten_74 (by decide) (fun cc1 => ?_) (fun cc1 => ?_)
      · have h := (if_pos cc1).symm.trans h
        refine lv_iinc (v := l5 + 1) (lv' := [(5, .int (l5 + 1)), (7, .int ((f7_byteAt f1 A1 ((2 * l5) + 1)) - l4)), (6, .int ((f7_byteAt f1 A1 (2 * l5)) - l3)), (0, .ref h0), (1, .int p1), (2, .int p2), (3, .int l3), (4, .int l4)]) hx hb dX9_isBeaten_87 hl (k := 7) rfl rfl (by decide) rfl (fun ls hl => ?_)
        refine lv_goto (tgt := 28) hx hb dX9_isBeaten_90 (by decide) ?_
        exact hk28 l3 l4 (l5 + 1) h _ _ _ hPD hS (lv_sub hl [3, 4, 5, 6, 7, 0] rfl)
      · have h := (if_neg cc1).symm.trans h
        refine lv_iload hx hb dX9_isBeaten_77 (lv_at hl 1 rfl) ?_
        refine lv_iload hx hb dX9_isBeaten_79 (lv_at hl 0 rfl) ?_
        refine lv_iadd hx hb dX9_isBeaten_81 ?_
        refine lv_if_le (tgt := 87) hx hb dX9_isBeaten_82 (by decide) (fun cc1 => ?_) (fun cc1 => ?_)
        · have h := (if_pos cc1).symm.trans h
          refine lv_iinc (v := l5 + 1) (lv' := [(5, .int (l5 + 1)), (7, .int ((f7_byteAt f1 A1 ((2 * l5) + 1)) - l4)), (6, .int ((f7_byteAt f1 A1 (2 * l5)) - l3)), (0, .ref h0), (1, .int p1), (2, .int p2), (3, .int l3), (4, .int l4)]) hx hb dX9_isBeaten_87 hl (k := 7) rfl rfl (by decide) rfl (fun ls hl => ?_)
          refine lv_goto (tgt := 28) hx hb dX9_isBeaten_90 (by decide) ?_
          exact hk28 l3 l4 (l5 + 1) h _ _ _ hPD hS (lv_sub hl [3, 4, 5, 6, 7, 0] rfl)
        · have h := (if_neg cc1).symm.trans h
          refine lv_iconst (v := 1) hx hb dX9_isBeaten_85 (by decide) ?_
          obtain rfl := Option.some.inj h
          exact eZ C0 hPD.1 hPD.2 hS rfl rfl dX9_isBeaten_86
set_option maxRecDepth 100000 in
set_option maxHeartbeats 4000000 in
theorem ww_f9_isBeaten_l28  (C0 : Cx cX9_isBeaten 8 (some .boolean) RX9 p s m args meth c G DA) {h0 : Nat} {a0 : Nat → Nat} {wk : Option Nat} {a1 : Nat → Nat} {f0 : Nat → Int32} {A0 : Nat → Nat → Int32} {f1 : Nat → Int32} {A1 : Nat → Nat → Int32} {p1 : Int32} {p2 : Int32}   {res : Int32}  : ∀ (n : Nat) (l3 : Int32) (l4 : Int32) (l5 : Int32), f9_isBeaten_l28 f0 A0 f1 A1 p1 p2  n l3 l4 l5 = some res → ∀ (H : Heap) (locs : List Loc) (ls : Array Slot), WD G DA (wX9 G h0 a0 wk f0 A0 ++ (wX7 G (a0 0) a1 f1 A1)) H → va_S DA s.heap H locs → lv_has ls 8 [(0, .ref h0), (1, .int p1), (2, .int p2), (3, .int l3), (4, .int l4), (5, .int l5)] → W p l e rmX9_isBeaten s m args below meth c H locs 0 0 (MQ below (QI G DA res (wX9 G h0 a0 wk f0 A0 ++ (wX7 G (a0 0) a1 f1 A1))) args s 0 0 DA) (F0 m 28 ls []) := by
  intro n
  induction n with
  | zero => intro l3 l4 l5 h; cases h
  | succ n ih => intro l3 l4 l5 h; exact ww_f9_isBeaten_b28 C0  ih l3 l4 l5 h
set_option maxRecDepth 100000 in
set_option maxHeartbeats 4000000 in
theorem kt_X9_isBeaten (l : Launch) (G : Gp) (h0 : Nat) (a0 : Nat → Nat) (wk : Option Nat) (a1 : Nat → Nat) (f0 : Nat → Int32) (A0 : Nat → Nat → Int32) (f1 : Nat → Int32) (A1 : Nat → Nat → Int32) (p1 : Int32) (p2 : Int32) : ∀ {r : Int32}, f9_isBeaten f0 A0 f1 A1 p1 p2 = some r → CtrI l yX9_isBeaten cX9_isBeaten 8 (some .boolean) rmX9_isBeaten G [.ref h0, .int p1, .int p2] (wX9 G h0 a0 wk f0 A0 ++ (wX7 G (a0 0) a1 f1 A1)) r (wX9 G h0 a0 wk f0 A0 ++ (wX7 G (a0 0) a1 f1 A1)) := by
  intro res h
  refine ctrI_of (cc := cX9_isBeaten) (maxL := 8) (ret := (some .boolean)) (by decide +kernel) rfl (Nat.le_of_ble_eq_true rfl) (fun p e s m below meth c DA C0 hP hD ls hl => ?_)
  have hPD : WD G DA (wX9 G h0 a0 wk f0 A0 ++ (wX7 G (a0 0) a1 f1 A1)) s.heap := ⟨hP, hD⟩
  have hS : va_S DA s.heap s.heap [] := va_S.rf
  have hl : lv_has ls 8 [(0, .ref h0), (1, .int p1), (2, .int p2)] := hl
  obtain ⟨hx, hb, hml, hown, hts⟩ := C0.1
  have hK := C0.2.2.2.1
  unfold f9_isBeaten at h
  refine lv_aload_n hx hb dX9_isBeaten_0 rfl (lv_at hl 0 rfl) ?_
  refine va_get (D := G.1) (ci := 9) (v := .ref (a0 0)) (C := RX9) (T := TX9) (N := 15) hx hb hts inlX9 hown hK hPD.1 0 rfl rfl 0 (by decide) (hts _ gw_363) (fun _ h9 => h9) rfl dX9_isBeaten_1 ?_
  refine lv_iconst (v := 2) hx hb dX9_isBeaten_4 (by decide) ?_
  refine lv_iload_n hx hb dX9_isBeaten_5 rfl (lv_at hl 1 rfl) ?_
  refine lv_imul hx hb dX9_isBeaten_6 ?_
  refine kVI (As := [.int (2 * p1)]) (rest := []) C0 (kt_X7_byteAt l G (a0 0) a1 f1 A1 (2 * p1)) gi_V_X9_224_X7_byteAt (n := 1) rfl (by decide +kernel) rfl ⟨rfl, rfl, Nat.le_of_ble_eq_true rfl, Nat.le_of_ble_eq_true rfl⟩ hPD hS 2 7 rfl rfl rfl [2, 3] [0, 1] [0, 1, 2, 3] (wr := (wX9 G h0 a0 wk f0 A0)) (wN := (wX9 G h0 a0 wk f0 A0 ++ (wX7 G (a0 0) a1 f1 A1))) rfl rfl rfl rfl rfl hl.1 (Nat.le_of_ble_eq_true rfl) dX9_isBeaten_7 (fun H locs hPD hS => ?_)
  refine lv_istore_n (lv' := [(3, .int (f7_byteAt f1 A1 (2 * p1))), (0, .ref h0), (1, .int p1), (2, .int p2)]) hx hb dX9_isBeaten_10 rfl hl (by decide) rfl (fun ls hl => ?_)
  refine lv_aload_n hx hb dX9_isBeaten_11 rfl (lv_at hl 1 rfl) ?_
  refine va_get (D := G.1) (ci := 9) (v := .ref (a0 0)) (C := RX9) (T := TX9) (N := 15) hx hb hts inlX9 hown hK hPD.1 0 rfl rfl 0 (by decide) (hts _ gw_363) (fun _ h9 => h9) rfl dX9_isBeaten_12 ?_
  refine lv_iconst (v := 2) hx hb dX9_isBeaten_15 (by decide) ?_
  refine lv_iload_n hx hb dX9_isBeaten_16 rfl (lv_at hl 2 rfl) ?_
  refine lv_imul hx hb dX9_isBeaten_17 ?_
  refine lv_iconst (v := 1) hx hb dX9_isBeaten_18 (by decide) ?_
  refine lv_iadd hx hb dX9_isBeaten_19 ?_
  refine kVI (As := [.int ((2 * p1) + 1)]) (rest := []) C0 (kt_X7_byteAt l G (a0 0) a1 f1 A1 ((2 * p1) + 1)) gi_V_X9_224_X7_byteAt (n := 1) rfl (by decide +kernel) rfl ⟨rfl, rfl, Nat.le_of_ble_eq_true rfl, Nat.le_of_ble_eq_true rfl⟩ hPD hS 2 7 rfl rfl rfl [2, 3] [0, 1] [0, 1, 2, 3] (wr := (wX9 G h0 a0 wk f0 A0)) (wN := (wX9 G h0 a0 wk f0 A0 ++ (wX7 G (a0 0) a1 f1 A1))) rfl rfl rfl rfl rfl hl.1 (Nat.le_of_ble_eq_true rfl) dX9_isBeaten_20 (fun H locs hPD hS => ?_)
  refine lv_istore (lv' := [(4, .int (f7_byteAt f1 A1 ((2 * p1) + 1))), (3, .int (f7_byteAt f1 A1 (2 * p1))), (0, .ref h0), (1, .int p1), (2, .int p2)]) hx hb dX9_isBeaten_23 hl (by decide) rfl (fun ls hl => ?_)
  refine lv_iconst (v := 0) hx hb dX9_isBeaten_25 (by decide) ?_
  refine lv_istore (lv' := [(5, .int 0), (4, .int (f7_byteAt f1 A1 ((2 * p1) + 1))), (3, .int (f7_byteAt f1 A1 (2 * p1))), (0, .ref h0), (1, .int p1), (2, .int p2)]) hx hb dX9_isBeaten_26 hl (by decide) rfl (fun ls hl => ?_)
  exact ww_f9_isBeaten_l28 C0 NF (f7_byteAt f1 A1 (2 * p1)) (f7_byteAt f1 A1 ((2 * p1) + 1)) 0 h _ _ _ hPD hS (lv_sub hl [3, 4, 5, 2, 1, 0] rfl)
abbrev rmX9_likely : Room := { frames := 3, cells := 0, slots := 0, locals := 69 }
set_option maxRecDepth 100000 in
set_option maxHeartbeats 4000000 in
theorem ww_f9_likely_b103  (C0 : Cx cX9_likely 8 (some .int) RX9 p s m args meth c G DA) {h0 : Nat} {a0 : Nat → Nat} {wk : Option Nat} {a1 : Nat → Nat} {f0 : Nat → Int32} {A0 : Nat → Nat → Int32} {A1 : Nat → Nat → Int32} {p1 : Int32} {p2 : Int32}  {k55 : (Nat → Int32) → Int32 → Int32 → Int32 → Int32 → Option (Int32 × (Nat → Int32))} {res : Int32 × (Nat → Int32)} (hk55 : ∀ (f1 : Nat → Int32) (l3 : Int32) (l4 : Int32) (l5 : Int32) (l6 : Int32), k55 f1 l3 l4 l5 l6 = some res → ∀ (H : Heap) (locs : List Loc) (ls : Array Slot), WD G DA (wX9 G h0 a0 wk f0 A0 ++ (wX7 G (a0 0) a1 f1 A1)) H → va_S DA s.heap H locs → lv_has ls 8 [(0, .ref h0), (1, .int p1), (2, .int p2), (3, .int l3), (4, .int l4), (5, .int l5), (6, .int l6)] → W p l e rmX9_likely s m args below meth c H locs 0 0 (MQ below (QI G DA res.1 (wX9 G h0 a0 wk f0 A0 ++ (wX7 G (a0 0) a1 res.2 A1))) args s 0 0 DA) (F0 m 55 ls [])) : ∀ (f1 : Nat → Int32) (l3 : Int32) (l4 : Int32) (l5 : Int32) (l6 : Int32), f9_likely_b103 f0 A0 A1 p1 p2 k55 f1 l3 l4 l5 l6 = some res → ∀ (H : Heap) (locs : List Loc) (ls : Array Slot), WD G DA (wX9 G h0 a0 wk f0 A0 ++ (wX7 G (a0 0) a1 f1 A1)) H → va_S DA s.heap H locs → lv_has ls 8 [(0, .ref h0), (1, .int p1), (2, .int p2), (3, .int l3), (4, .int l4), (5, .int l5), (6, .int l6)] → W p l e rmX9_likely s m args below meth c H locs 0 0 (MQ below (QI G DA res.1 (wX9 G h0 a0 wk f0 A0 ++ (wX7 G (a0 0) a1 res.2 A1))) args s 0 0 DA) (F0 m 103 ls []) := by
  obtain ⟨hx, hb, hml, hown, hts⟩ := C0.1
  have hK := C0.2.2.2.1
  intro f1 l3 l4 l5 l6 h _ _ _ hPD hS hl
  unfold f9_likely_b103 at h
  refine lv_aload_n hx hb dX9_likely_103 rfl (lv_at hl 0 rfl) ?_
  refine lv_iload hx hb dX9_likely_104 (lv_at hl 6 rfl) ?_
  refine lv_iload_n hx hb dX9_likely_106 rfl (lv_at hl 1 rfl) ?_
  obtain ⟨q_3, hq_3, h⟩ := ob2 h
  refine kVI (As := [.int l6, .int p1]) (rest := []) C0 (kt_X9_isBeaten l G h0 a0 wk a1 f0 A0 f1 A1 l6 p1 hq_3) gi_V_X9_297_X9_isBeaten (n := 2) rfl (by decide +kernel) rfl ⟨rfl, rfl, Nat.le_of_ble_eq_true rfl, Nat.le_of_ble_eq_true rfl⟩ hPD hS 0 9 rfl rfl rfl [0, 1, 2, 3] [] [0, 1, 2, 3] (wr := ([] : va_W)) (wN := (wX9 G h0 a0 wk f0 A0 ++ (wX7 G (a0 0) a1 f1 A1))) rfl rfl rfl rfl rfl hl.1 (Nat.le_of_ble_eq_true rfl) dX9_likely_107 (fun H locs hPD hS => ?_)
  refine lv_if_ne (tgt := 120) hx hb dX9_likely_110 (by decide) (fun cc1 => ?_) (fun cc1 => ?_)
  · have h := (if_neg cc1).symm.trans h
    refine lv_iinc (v := l6 + 1) (lv' := [(6, .int (l6 + 1)), (0, .ref h0), (1, .int p1), (2, .int p2), (3, .int l3), (4, .int l4), (5, .int l5)]) hx hb dX9_likely_120 hl (k := 6) rfl rfl (by decide) rfl (fun ls hl => ?_)
    refine lv_goto (tgt := 55) hx hb dX9_likely_123 (by decide) ?_
    exact hk55 f1 l3 l4 l5 (l6 + 1) h _ _ _ hPD hS (lv_sub hl [1, 2, 3, 4, 5, 6, 0] rfl)
  · have h := (if_pos cc1).symm.trans h
    refine lv_iload_n hx hb dX9_likely_113 rfl (lv_at hl 3 rfl) ?_
    refine lv_iconst (v := 1) hx hb dX9_likely_114 (by decide) ?_
    refine lv_iload hx hb dX9_likely_115 (lv_at hl 6 rfl) ?_
    refine lv_ishl hx hb dX9_likely_117 ?_
    refine lv_ior hx hb dX9_likely_118 ?_
    refine lv_istore_n (lv' := [(3, .int (l3 ||| (shl 1 l6))), (0, .ref h0), (1, .int p1), (2, .int p2), (4, .int l4), (5, .int l5), (6, .int l6)]) hx hb dX9_likely_119 rfl hl (by decide) rfl (fun ls hl => ?_)
    refine lv_iinc (v := l6 + 1) (lv' := [(6, .int (l6 + 1)), (3, .int (l3 ||| (shl 1 l6))), (0, .ref h0), (1, .int p1), (2, .int p2), (4, .int l4), (5, .int l5)]) hx hb dX9_likely_120 hl (k := 6) rfl rfl (by decide) rfl (fun ls hl => ?_)
    refine lv_goto (tgt := 55) hx hb dX9_likely_123 (by decide) ?_
    exact hk55 f1 (l3 ||| (shl 1 l6)) l4 l5 (l6 + 1) h _ _ _ hPD hS (lv_sub hl [2, 3, 4, 1, 5, 6, 0] rfl)
set_option maxRecDepth 100000 in
set_option maxHeartbeats 4000000 in
theorem ww_f9_likely_b55  (C0 : Cx cX9_likely 8 (some .int) RX9 p s m args meth c G DA) {h0 : Nat} {a0 : Nat → Nat} {wk : Option Nat} {a1 : Nat → Nat} {f0 : Nat → Int32} {A0 : Nat → Nat → Int32} {A1 : Nat → Nat → Int32} {p1 : Int32} {p2 : Int32}  {k55 : (Nat → Int32) → Int32 → Int32 → Int32 → Int32 → Option (Int32 × (Nat → Int32))} {res : Int32 × (Nat → Int32)}  (hk55 : ∀ (f1 : Nat → Int32) (l3 : Int32) (l4 : Int32) (l5 : Int32) (l6 : Int32), k55 f1 l3 l4 l5 l6 = some res → ∀ (H : Heap) (locs : List Loc) (ls : Array Slot), WD G DA (wX9 G h0 a0 wk f0 A0 ++ (wX7 G (a0 0) a1 f1 A1)) H → va_S DA s.heap H locs → lv_has ls 8 [(0, .ref h0), (1, .int p1), (2, .int p2), (3, .int l3), (4, .int l4), (5, .int l5), (6, .int l6)] → W p l e rmX9_likely s m args below meth c H locs 0 0 (MQ below (QI G DA res.1 (wX9 G h0 a0 wk f0 A0 ++ (wX7 G (a0 0) a1 res.2 A1))) args s 0 0 DA) (F0 m 55 ls [])) : ∀ (f1 : Nat → Int32) (l3 : Int32) (l4 : Int32) (l5 : Int32) (l6 : Int32), f9_likely_b55 f0 A0 A1 p1 p2  k55 f1 l3 l4 l5 l6 = some res → ∀ (H : Heap) (locs : List Loc) (ls : Array Slot), WD G DA (wX9 G h0 a0 wk f0 A0 ++ (wX7 G (a0 0) a1 f1 A1)) H → va_S DA s.heap H locs → lv_has ls 8 [(0, .ref h0), (1, .int p1), (2, .int p2), (3, .int l3), (4, .int l4), (5, .int l5), (6, .int l6)] → W p l e rmX9_likely s m args below meth c H locs 0 0 (MQ below (QI G DA res.1 (wX9 G h0 a0 wk f0 A0 ++ (wX7 G (a0 0) a1 res.2 A1))) args s 0 0 DA) (F0 m 55 ls []) := by
  obtain ⟨hx, hb, hml, hown, hts⟩ := C0.1
  have hK := C0.2.2.2.1
  intro f1 l3 l4 l5 l6 h _ _ _ hPD hS hl
  unfold f9_likely_b55 at h
  refine lv_iload hx hb dX9_likely_55 (lv_at hl 6 rfl) ?_
  refine lv_iload_n hx hb dX9_likely_57 rfl (lv_at hl 1 rfl) ?_
  refine lv_icmp_ge (tgt := 126) hx hb dX9_likely_58 (by decide) (fun cc1 => ?_) (fun cc1 => ?_)
  · have h := (if_pos cc1).symm.trans h
    refine lv_iload_n hx hb dX9_likely_126 rfl (lv_at hl 2 rfl) ?_
    refine lv_if_ne (tgt := 132) hx hb dX9_likely_127 (by decide) (fun cc1 => ?_) (fun cc1 => ?_)
    · have h := (if_neg cc1).symm.trans h
      refine lv_iload_n hx hb dX9_likely_132 rfl (lv_at hl 2 rfl) ?_
      refine lv_iconst (v := 1) hx hb dX9_likely_133 (by decide) ?_
      refine lv_icmp_ne (tgt := 142) hx hb dX9_likely_134 (by decide) (fun cc1 => ?_) (fun cc1 => ?_)
      · have h := (if_neg cc1).symm.trans h
        refine lv_iload hx hb dX9_likely_142 (lv_at hl 5 rfl) ?_
        obtain rfl := Option.some.inj h
        exact eI C0 hPD.1 hPD.2 hS rfl dX9_likely_144
      · have h := (if_pos cc1).symm.trans h
        refine lv_iload hx hb dX9_likely_137 (lv_at hl 4 rfl) ?_
        refine lv_goto (tgt := 144) hx hb dX9_likely_139 (by decide) ?_
        obtain rfl := Option.some.inj h
        exact eI C0 hPD.1 hPD.2 hS rfl dX9_likely_144
    · have h := (if_pos cc1).symm.trans h
      refine lv_iload_n hx hb dX9_likely_130 rfl (lv_at hl 3 rfl) ?_
      obtain rfl := Option.some.inj h
      exact eI C0 hPD.1 hPD.2 hS rfl dX9_likely_131
  · have h := (if_neg cc1).symm.trans h
    refine lv_aload_n hx hb dX9_likely_61 rfl (lv_at hl 0 rfl) ?_
    refine va_get (D := G.1) (ci := 9) (v := .ref (a0 0)) (C := RX9) (T := TX9) (N := 15) hx hb hts inlX9 hown hK hPD.1 0 rfl rfl 0 (by decide) (hts _ gw_363) (fun _ h9 => h9) rfl dX9_likely_62 ?_
    refine lv_iconst (v := 2) hx hb dX9_likely_65 (by decide) ?_
    refine lv_iload hx hb dX9_likely_66 (lv_at hl 6 rfl) ?_
    refine lv_imul hx hb dX9_likely_68 ?_
    refine kVI (As := [.int (2 * l6)]) (rest := []) C0 (kt_X7_byteAt l G (a0 0) a1 f1 A1 (2 * l6)) gi_V_X9_224_X7_byteAt (n := 1) rfl (by decide +kernel) rfl ⟨rfl, rfl, Nat.le_of_ble_eq_true rfl, Nat.le_of_ble_eq_true rfl⟩ hPD hS 2 7 rfl rfl rfl [2, 3] [0, 1] [0, 1, 2, 3] (wr := (wX9 G h0 a0 wk f0 A0)) (wN := (wX9 G h0 a0 wk f0 A0 ++ (wX7 G (a0 0) a1 f1 A1))) rfl rfl rfl rfl rfl hl.1 (Nat.le_of_ble_eq_true rfl) dX9_likely_69 (fun H locs hPD hS => ?_)
    refine lv_aload_n hx hb dX9_likely_72 rfl (lv_at hl 0 rfl) ?_
    refine va_get (D := G.1) (ci := 9) (v := .ref (a0 0)) (C := RX9) (T := TX9) (N := 15) hx hb hts inlX9 hown hK hPD.1 0 rfl rfl 0 (by decide) (hts _ gw_363) (fun _ h9 => h9) rfl dX9_likely_73 ?_
    refine lv_iconst (v := 2) hx hb dX9_likely_76 (by decide) ?_
    refine lv_iload hx hb dX9_likely_77 (lv_at hl 6 rfl) ?_
    refine lv_imul hx hb dX9_likely_79 ?_
    refine lv_iconst (v := 1) hx hb dX9_likely_80 (by decide) ?_
    refine lv_iadd hx hb dX9_likely_81 ?_
    refine kVI (As := [.int ((2 * l6) + 1)]) (rest := [.int (f7_byteAt f1 A1 (2 * l6))]) C0 (kt_X7_byteAt l G (a0 0) a1 f1 A1 ((2 * l6) + 1)) gi_V_X9_224_X7_byteAt (n := 1) rfl (by decide +kernel) rfl ⟨rfl, rfl, Nat.le_of_ble_eq_true rfl, Nat.le_of_ble_eq_true rfl⟩ hPD hS 2 7 rfl rfl rfl [2, 3] [0, 1] [0, 1, 2, 3] (wr := (wX9 G h0 a0 wk f0 A0)) (wN := (wX9 G h0 a0 wk f0 A0 ++ (wX7 G (a0 0) a1 f1 A1))) rfl rfl rfl rfl rfl hl.1 (Nat.le_of_ble_eq_true rfl) dX9_likely_82 (fun H locs hPD hS => ?_)
    refine lv_imul hx hb dX9_likely_85 ?_
    obtain ⟨x_2, ex_2, h⟩ := lvl h
    refine lv_nm ex_2 ?_
    refine lv_istore (lv' := [(7, .int x_2), (0, .ref h0), (1, .int p1), (2, .int p2), (3, .int l3), (4, .int l4), (5, .int l5), (6, .int l6)]) hx hb dX9_likely_86 hl (by decide) rfl (fun ls hl => ?_)
    refine lv_iload hx hb dX9_likely_88 (lv_at hl 0 rfl) ?_
    refine lv_iload hx hb dX9_likely_90 (lv_at hl 5 rfl) ?_
    refine lv_icmp_le (tgt := 103) hx hb dX9_likely_92 (by decide) (fun cc1 => ?_) (fun cc1 => ?_)
    · have h := (if_pos cc1).symm.trans h
      exact ww_f9_likely_b103 C0 hk55 f1 l3 l4 l5 l6 h _ _ _ hPD hS (lv_sub hl [1, 2, 3, 4, 5, 6, 7] rfl)
    · have h := (if_neg cc1).symm.trans h
      refine lv_iload hx hb dX9_likely_95 (lv_at hl 0 rfl) ?_
      refine lv_istore (lv' := [(4, .int x_2), (7, .int x_2), (0, .ref h0), (1, .int p1), (2, .int p2), (3, .int l3), (5, .int l5), (6, .int l6)]) hx hb dX9_likely_97 hl (by decide) rfl (fun ls hl => ?_)
      refine lv_iload hx hb dX9_likely_99 (lv_at hl 7 rfl) ?_
      refine lv_istore (lv' := [(5, .int l6), (4, .int x_2), (7, .int x_2), (0, .ref h0), (1, .int p1), (2, .int p2), (3, .int l3), (6, .int l6)]) hx hb dX9_likely_101 hl (by decide) rfl (fun ls hl => ?_)
      exact ww_f9_likely_b103 C0 hk55 f1 l3 x_2 l6 l6 h _ _ _ hPD hS (lv_sub hl [3, 4, 5, 6, 1, 0, 7] rfl)
set_option maxRecDepth 100000 in
set_option maxHeartbeats 4000000 in
theorem ww_f9_likely_l55  (C0 : Cx cX9_likely 8 (some .int) RX9 p s m args meth c G DA) {h0 : Nat} {a0 : Nat → Nat} {wk : Option Nat} {a1 : Nat → Nat} {f0 : Nat → Int32} {A0 : Nat → Nat → Int32} {A1 : Nat → Nat → Int32} {p1 : Int32} {p2 : Int32}   {res : Int32 × (Nat → Int32)}  : ∀ (n : Nat) (f1 : Nat → Int32) (l3 : Int32) (l4 : Int32) (l5 : Int32) (l6 : Int32), f9_likely_l55 f0 A0 A1 p1 p2  n f1 l3 l4 l5 l6 = some res → ∀ (H : Heap) (locs : List Loc) (ls : Array Slot), WD G DA (wX9 G h0 a0 wk f0 A0 ++ (wX7 G (a0 0) a1 f1 A1)) H → va_S DA s.heap H locs → lv_has ls 8 [(0, .ref h0), (1, .int p1), (2, .int p2), (3, .int l3), (4, .int l4), (5, .int l5), (6, .int l6)] → W p l e rmX9_likely s m args below meth c H locs 0 0 (MQ below (QI G DA res.1 (wX9 G h0 a0 wk f0 A0 ++ (wX7 G (a0 0) a1 res.2 A1))) args s 0 0 DA) (F0 m 55 ls []) := by
  intro n
  induction n with
  | zero => intro f1 l3 l4 l5 l6 h; cases h
  | succ n ih => intro f1 l3 l4 l5 l6 h; exact ww_f9_likely_b55 C0  ih f1 l3 l4 l5 l6 h
set_option maxRecDepth 100000 in
set_option maxHeartbeats 4000000 in
theorem kt_X9_likely (l : Launch) (G : Gp) (h0 : Nat) (a0 : Nat → Nat) (wk : Option Nat) (a1 : Nat → Nat) (f0 : Nat → Int32) (A0 : Nat → Nat → Int32) (f1 : Nat → Int32) (A1 : Nat → Nat → Int32) (p1 : Int32) (p2 : Int32) : ∀ {r : Int32 × (Nat → Int32)}, f9_likely f0 A0 f1 A1 p1 p2 = some r → CtrI l yX9_likely cX9_likely 8 (some .int) rmX9_likely G [.ref h0, .int p1, .int p2] (wX9 G h0 a0 wk f0 A0 ++ (wX7 G (a0 0) a1 f1 A1)) r.1 (wX9 G h0 a0 wk f0 A0 ++ (wX7 G (a0 0) a1 r.2 A1)) := by
  intro res h
  refine ctrI_of (cc := cX9_likely) (maxL := 8) (ret := (some .int)) (by decide +kernel) rfl (Nat.le_of_ble_eq_true rfl) (fun p e s m below meth c DA C0 hP hD ls hl => ?_)
  have hPD : WD G DA (wX9 G h0 a0 wk f0 A0 ++ (wX7 G (a0 0) a1 f1 A1)) s.heap := ⟨hP, hD⟩
  have hS : va_S DA s.heap s.heap [] := va_S.rf
  have hl : lv_has ls 8 [(0, .ref h0), (1, .int p1), (2, .int p2)] := hl
  obtain ⟨hx, hb, hml, hown, hts⟩ := C0.1
  have hK := C0.2.2.2.1
  unfold f9_likely at h
  refine lv_iload_n hx hb dX9_likely_0 rfl (lv_at hl 1 rfl) ?_
  refine lv_iconst (v := 1) hx hb dX9_likely_1 (by decide) ?_
  refine lv_bipush (v := 16) hx hb dX9_likely_2 (by decide) ?_
  refine kSI (As := [.int p1, .int 1, .int 16]) (rest := []) C0 (kt_X9_within l G  p1 1 16) gi_S_X9_90_X9_within (n := 3) rfl (by decide +kernel) ⟨rfl, rfl, Nat.le_of_ble_eq_true rfl, Nat.le_of_ble_eq_true rfl⟩ hPD hS [] [0, 1, 2, 3] [0, 1, 2, 3] (wr := (wX9 G h0 a0 wk f0 A0 ++ (wX7 G (a0 0) a1 f1 A1))) (wN := (wX9 G h0 a0 wk f0 A0 ++ (wX7 G (a0 0) a1 f1 A1))) rfl rfl rfl rfl rfl hl.1 (Nat.le_of_ble_eq_true rfl) dX9_likely_4 (fun H locs hPD hS => ?_)
  refine lv_if_eq (tgt := 32) hx hb dX9_likely_7 (by decide) (fun cc1 => ?_) (fun cc1 => ?_)
  · have h := (if_pos cc1).symm.trans h
    refine lv_iconst (v := (-1)) hx hb dX9_likely_32 (by decide) ?_
    obtain rfl := Option.some.inj h
    exact eI C0 hPD.1 hPD.2 hS rfl dX9_likely_33
  · have h := (if_neg cc1).symm.trans h
    refine lv_iload_n hx hb dX9_likely_10 rfl (lv_at hl 2 rfl) ?_
    refine lv_iconst (v := 0) hx hb dX9_likely_11 (by decide) ?_
    refine lv_iconst (v := 2) hx hb dX9_likely_12 (by decide) ?_
    refine kSI (As := [.int p2, .int 0, .int 2]) (rest := []) C0 (kt_X9_within l G  p2 0 2) gi_S_X9_90_X9_within (n := 3) rfl (by decide +kernel) ⟨rfl, rfl, Nat.le_of_ble_eq_true rfl, Nat.le_of_ble_eq_true rfl⟩ hPD hS [] [0, 1, 2, 3] [0, 1, 2, 3] (wr := (wX9 G h0 a0 wk f0 A0 ++ (wX7 G (a0 0) a1 f1 A1))) (wN := (wX9 G h0 a0 wk f0 A0 ++ (wX7 G (a0 0) a1 f1 A1))) rfl rfl rfl rfl rfl hl.1 (Nat.le_of_ble_eq_true rfl) dX9_likely_13 (fun H locs hPD hS => ?_)
    refine lv_if_eq (tgt := 32) hx hb dX9_likely_16 (by decide) (fun cc1 => ?_) (fun cc1 => ?_)
    · have h := (if_pos cc1).symm.trans h
      refine lv_iconst (v := (-1)) hx hb dX9_likely_32 (by decide) ?_
      obtain rfl := Option.some.inj h
      exact eI C0 hPD.1 hPD.2 hS rfl dX9_likely_33
    · have h := (if_neg cc1).symm.trans h
      refine lv_aload_n hx hb dX9_likely_19 rfl (lv_at hl 0 rfl) ?_
      refine va_get (D := G.1) (ci := 9) (v := .ref (a0 0)) (C := RX9) (T := TX9) (N := 15) hx hb hts inlX9 hown hK hPD.1 0 rfl rfl 0 (by decide) (hts _ gw_363) (fun _ h9 => h9) rfl dX9_likely_20 ?_
      refine lv_iconst (v := 2) hx hb dX9_likely_23 (by decide) ?_
      refine lv_iload_n hx hb dX9_likely_24 rfl (lv_at hl 1 rfl) ?_
      refine lv_imul hx hb dX9_likely_25 ?_
      refine kVI (As := [.int (2 * p1)]) (rest := []) C0 (kt_X7_holds l G (a0 0) a1 f1 A1 (2 * p1)) gi_V_X9_132_X7_holds (n := 1) rfl (by decide +kernel) rfl ⟨rfl, rfl, Nat.le_of_ble_eq_true rfl, Nat.le_of_ble_eq_true rfl⟩ hPD hS 2 7 rfl rfl rfl [2, 3] [0, 1] [0, 1, 2, 3] (wr := (wX9 G h0 a0 wk f0 A0)) (wN := (wX9 G h0 a0 wk f0 A0 ++ (wX7 G (a0 0) a1 f1 A1))) rfl rfl rfl rfl rfl hl.1 (Nat.le_of_ble_eq_true rfl) dX9_likely_26 (fun H locs hPD hS => ?_)
      refine lv_if_ne (tgt := 34) hx hb dX9_likely_29 (by decide) (fun cc1 => ?_) (fun cc1 => ?_)
      · have h := (if_neg cc1).symm.trans h
        refine lv_aload_n hx hb dX9_likely_34 rfl (lv_at hl 0 rfl) ?_
        refine va_get (D := G.1) (ci := 9) (v := .ref (a0 0)) (C := RX9) (T := TX9) (N := 15) hx hb hts inlX9 hown hK hPD.1 0 rfl rfl 0 (by decide) (hts _ gw_363) (fun _ h9 => h9) rfl dX9_likely_35 ?_
        refine lv_iconst (v := 2) hx hb dX9_likely_38 (by decide) ?_
        refine lv_iload_n hx hb dX9_likely_39 rfl (lv_at hl 1 rfl) ?_
        refine lv_imul hx hb dX9_likely_40 ?_
        obtain ⟨z_1, ez_1, h⟩ := lvl h
        have kc := kt_X7_open l G (a0 0) a1 f1 A1 (2 * p1)
        rw [← ez_1] at kc
        clear ez_1
        refine kVV (As := [.int (2 * p1)]) (rest := []) C0 (kc) gi_V_X9_135_X7_open (n := 1) rfl (by decide +kernel) rfl ⟨rfl, rfl, Nat.le_of_ble_eq_true rfl, Nat.le_of_ble_eq_true rfl⟩ hPD hS 2 7 rfl rfl rfl [2, 3] [0, 1] [0, 1, 2, 3] (wr := (wX9 G h0 a0 wk f0 A0)) (wN := (wX9 G h0 a0 wk f0 A0 ++ (wX7 G (a0 0) a1 z_1 A1))) rfl rfl rfl rfl rfl hl.1 (Nat.le_of_ble_eq_true rfl) dX9_likely_41 (fun H locs hPD hS => ?_)
        refine lv_iconst (v := 0) hx hb dX9_likely_44 (by decide) ?_
        refine lv_istore_n (lv' := [(3, .int 0), (0, .ref h0), (1, .int p1), (2, .int p2)]) hx hb dX9_likely_45 rfl hl (by decide) rfl (fun ls hl => ?_)
        refine lv_iconst (v := (-1)) hx hb dX9_likely_46 (by decide) ?_
        refine lv_istore (lv' := [(4, .int (-1)), (3, .int 0), (0, .ref h0), (1, .int p1), (2, .int p2)]) hx hb dX9_likely_47 hl (by decide) rfl (fun ls hl => ?_)
        refine lv_iconst (v := 0) hx hb dX9_likely_49 (by decide) ?_
        refine lv_istore (lv' := [(5, .int 0), (4, .int (-1)), (3, .int 0), (0, .ref h0), (1, .int p1), (2, .int p2)]) hx hb dX9_likely_50 hl (by decide) rfl (fun ls hl => ?_)
        refine lv_iconst (v := 0) hx hb dX9_likely_52 (by decide) ?_
        refine lv_istore (lv' := [(6, .int 0), (5, .int 0), (4, .int (-1)), (3, .int 0), (0, .ref h0), (1, .int p1), (2, .int p2)]) hx hb dX9_likely_53 hl (by decide) rfl (fun ls hl => ?_)
        exact ww_f9_likely_l55 C0 NF z_1 0 (-1) 0 0 h _ _ _ hPD hS (lv_sub hl [4, 5, 6, 3, 2, 1, 0] rfl)
      · have h := (if_pos cc1).symm.trans h
        refine lv_iconst (v := (-1)) hx hb dX9_likely_32 (by decide) ?_
        obtain rfl := Option.some.inj h
        exact eI C0 hPD.1 hPD.2 hS rfl dX9_likely_33
abbrev rmX9_share : Room := { frames := 2, cells := 0, slots := 0, locals := 43 }
set_option maxRecDepth 100000 in
set_option maxHeartbeats 4000000 in
theorem ww_f9_share_b50  (C0 : Cx cX9_share 9 (some .int) RX9 p s m args meth c G DA) {h0 : Nat} {a0 : Nat → Nat} {wk : Option Nat} {a1 : Nat → Nat} {f0 : Nat → Int32} {A0 : Nat → Nat → Int32} {A1 : Nat → Nat → Int32} {p1 : Int32} {p2 : Int32}  {k50 : (Nat → Int32) → Int32 → Int32 → Option (Int32 × (Nat → Int32))} {res : Int32 × (Nat → Int32)}  (hk50 : ∀ (f1 : Nat → Int32) (l3 : Int32) (l4 : Int32), k50 f1 l3 l4 = some res → ∀ (H : Heap) (locs : List Loc) (ls : Array Slot), WD G DA (wX9 G h0 a0 wk f0 A0 ++ (wX7 G (a0 0) a1 f1 A1)) H → va_S DA s.heap H locs → lv_has ls 9 [(0, .ref h0), (1, .int p1), (2, .int p2), (3, .int l3), (4, .int l4)] → W p l e rmX9_share s m args below meth c H locs 0 0 (MQ below (QI G DA res.1 (wX9 G h0 a0 wk f0 A0 ++ (wX7 G (a0 0) a1 res.2 A1))) args s 0 0 DA) (F0 m 50 ls [])) : ∀ (f1 : Nat → Int32) (l3 : Int32) (l4 : Int32), f9_share_b50 f0 A0 A1 p1 p2  k50 f1 l3 l4 = some res → ∀ (H : Heap) (locs : List Loc) (ls : Array Slot), WD G DA (wX9 G h0 a0 wk f0 A0 ++ (wX7 G (a0 0) a1 f1 A1)) H → va_S DA s.heap H locs → lv_has ls 9 [(0, .ref h0), (1, .int p1), (2, .int p2), (3, .int l3), (4, .int l4)] → W p l e rmX9_share s m args below meth c H locs 0 0 (MQ below (QI G DA res.1 (wX9 G h0 a0 wk f0 A0 ++ (wX7 G (a0 0) a1 res.2 A1))) args s 0 0 DA) (F0 m 50 ls []) := by
  obtain ⟨hx, hb, hml, hown, hts⟩ := C0.1
  have hK := C0.2.2.2.1
  intro f1 l3 l4 h _ _ _ hPD hS hl
  unfold f9_share_b50 at h
  refine lv_iload hx hb dX9_share_50 (lv_at hl 4 rfl) ?_
  refine lv_iload_n hx hb dX9_share_52 rfl (lv_at hl 1 rfl) ?_
  refine lv_icmp_ge (tgt := 148) hx hb dX9_share_53 (by decide) (fun cc1 => ?_) (fun cc1 => ?_)
  · have h := (if_pos cc1).symm.trans h
    refine lv_iload_n hx hb dX9_share_148 rfl (lv_at hl 3 rfl) ?_
    obtain rfl := Option.some.inj h
    exact eI C0 hPD.1 hPD.2 hS rfl dX9_share_149
  · have h := (if_neg cc1).symm.trans h
    refine lv_aload_n hx hb dX9_share_56 rfl (lv_at hl 0 rfl) ?_
    refine va_get (D := G.1) (ci := 9) (v := .ref (a0 0)) (C := RX9) (T := TX9) (N := 15) hx hb hts inlX9 hown hK hPD.1 0 rfl rfl 0 (by decide) (hts _ gw_363) (fun _ h9 => h9) rfl dX9_share_57 ?_
    refine lv_iconst (v := 2) hx hb dX9_share_60 (by decide) ?_
    refine lv_iload hx hb dX9_share_61 (lv_at hl 4 rfl) ?_
    refine lv_imul hx hb dX9_share_63 ?_
    refine kVI (As := [.int (2 * l4)]) (rest := []) C0 (kt_X7_byteAt l G (a0 0) a1 f1 A1 (2 * l4)) gi_V_X9_224_X7_byteAt (n := 1) rfl (by decide +kernel) rfl ⟨rfl, rfl, Nat.le_of_ble_eq_true rfl, Nat.le_of_ble_eq_true rfl⟩ hPD hS 2 7 rfl rfl rfl [2, 3] [0, 1] [0, 1, 2, 3] (wr := (wX9 G h0 a0 wk f0 A0)) (wN := (wX9 G h0 a0 wk f0 A0 ++ (wX7 G (a0 0) a1 f1 A1))) rfl rfl rfl rfl rfl hl.1 (Nat.le_of_ble_eq_true rfl) dX9_share_64 (fun H locs hPD hS => ?_)
    refine lv_istore (lv' := [(5, .int (f7_byteAt f1 A1 (2 * l4))), (0, .ref h0), (1, .int p1), (2, .int p2), (3, .int l3), (4, .int l4)]) hx hb dX9_share_67 hl (by decide) rfl (fun ls hl => ?_)
    refine lv_aload_n hx hb dX9_share_69 rfl (lv_at hl 1 rfl) ?_
    refine va_get (D := G.1) (ci := 9) (v := .ref (a0 0)) (C := RX9) (T := TX9) (N := 15) hx hb hts inlX9 hown hK hPD.1 0 rfl rfl 0 (by decide) (hts _ gw_363) (fun _ h9 => h9) rfl dX9_share_70 ?_
    refine lv_iconst (v := 2) hx hb dX9_share_73 (by decide) ?_
    refine lv_iload hx hb dX9_share_74 (lv_at hl 5 rfl) ?_
    refine lv_imul hx hb dX9_share_76 ?_
    refine lv_iconst (v := 1) hx hb dX9_share_77 (by decide) ?_
    refine lv_iadd hx hb dX9_share_78 ?_
    refine kVI (As := [.int ((2 * l4) + 1)]) (rest := []) C0 (kt_X7_byteAt l G (a0 0) a1 f1 A1 ((2 * l4) + 1)) gi_V_X9_224_X7_byteAt (n := 1) rfl (by decide +kernel) rfl ⟨rfl, rfl, Nat.le_of_ble_eq_true rfl, Nat.le_of_ble_eq_true rfl⟩ hPD hS 2 7 rfl rfl rfl [2, 3] [0, 1] [0, 1, 2, 3] (wr := (wX9 G h0 a0 wk f0 A0)) (wN := (wX9 G h0 a0 wk f0 A0 ++ (wX7 G (a0 0) a1 f1 A1))) rfl rfl rfl rfl rfl hl.1 (Nat.le_of_ble_eq_true rfl) dX9_share_79 (fun H locs hPD hS => ?_)
    refine lv_istore (lv' := [(6, .int (f7_byteAt f1 A1 ((2 * l4) + 1))), (5, .int (f7_byteAt f1 A1 (2 * l4))), (0, .ref h0), (1, .int p1), (2, .int p2), (3, .int l3), (4, .int l4)]) hx hb dX9_share_82 hl (by decide) rfl (fun ls hl => ?_)
    refine lv_iload hx hb dX9_share_84 (lv_at hl 0 rfl) ?_
    refine kSI (As := [.int (f7_byteAt f1 A1 ((2 * l4) + 1))]) (rest := []) C0 (kt_J6_bitCount_0f7a4 l G  (f7_byteAt f1 A1 ((2 * l4) + 1))) gi_S_X9_242_J6_bitCount_0f7a4 (n := 1) rfl (by decide +kernel) ⟨rfl, rfl, Nat.le_of_ble_eq_true rfl, Nat.le_of_ble_eq_true rfl⟩ hPD hS [] [0, 1, 2, 3] [0, 1, 2, 3] (wr := (wX9 G h0 a0 wk f0 A0 ++ (wX7 G (a0 0) a1 f1 A1))) (wN := (wX9 G h0 a0 wk f0 A0 ++ (wX7 G (a0 0) a1 f1 A1))) rfl rfl rfl rfl rfl hl.1 (Nat.le_of_ble_eq_true rfl) dX9_share_86 (fun H locs hPD hS => ?_)
    obtain ⟨x_2, ex_2, h⟩ := lvl h
    refine lv_nm ex_2 ?_
    refine lv_istore (lv' := [(7, .int x_2), (6, .int (f7_byteAt f1 A1 ((2 * l4) + 1))), (5, .int (f7_byteAt f1 A1 (2 * l4))), (0, .ref h0), (1, .int p1), (2, .int p2), (3, .int l3), (4, .int l4)]) hx hb dX9_share_89 hl (by decide) rfl (fun ls hl => ?_)
    refine lv_iload hx hb dX9_share_91 (lv_at hl 0 rfl) ?_
    refine lv_if_le (tgt := 142) hx hb dX9_share_93 (by decide) (fun cc1 => ?_) (fun cc1 => ?_)
    · have h := (if_pos cc1).symm.trans h
      refine lv_iinc (v := l4 + 1) (lv' := [(4, .int (l4 + 1)), (7, .int x_2), (6, .int (f7_byteAt f1 A1 ((2 * l4) + 1))), (5, .int (f7_byteAt f1 A1 (2 * l4))), (0, .ref h0), (1, .int p1), (2, .int p2), (3, .int l3)]) hx hb dX9_share_142 hl (k := 7) rfl rfl (by decide) rfl (fun ls hl => ?_)
      refine lv_goto (tgt := 50) hx hb dX9_share_145 (by decide) ?_
      exact hk50 f1 l3 (l4 + 1) h _ _ _ hPD hS (lv_sub hl [4, 5, 6, 7, 0] rfl)
    · have h := (if_neg cc1).symm.trans h
      refine lv_iload hx hb dX9_share_96 (lv_at hl 1 rfl) ?_
      refine lv_iload_n hx hb dX9_share_98 rfl (lv_at hl 5 rfl) ?_
      refine kSI (As := [.int (f7_byteAt f1 A1 ((2 * l4) + 1)), .int p2]) (rest := []) C0 (kt_X9_has l G  (f7_byteAt f1 A1 ((2 * l4) + 1)) p2) gi_S_X9_290_X9_has (n := 2) rfl (by decide +kernel) ⟨rfl, rfl, Nat.le_of_ble_eq_true rfl, Nat.le_of_ble_eq_true rfl⟩ hPD hS [] [0, 1, 2, 3] [0, 1, 2, 3] (wr := (wX9 G h0 a0 wk f0 A0 ++ (wX7 G (a0 0) a1 f1 A1))) (wN := (wX9 G h0 a0 wk f0 A0 ++ (wX7 G (a0 0) a1 f1 A1))) rfl rfl rfl rfl rfl hl.1 (Nat.le_of_ble_eq_true rfl) dX9_share_99 (fun H locs hPD hS => ?_)
      refine lv_if_eq (tgt := 142) hx hb dX9_share_102 (by decide) (fun cc1 => ?_) (fun cc1 => ?_)
      · have h := (if_pos cc1).symm.trans h
        refine lv_iinc (v := l4 + 1) (lv' := [(4, .int (l4 + 1)), (7, .int x_2), (6, .int (f7_byteAt f1 A1 ((2 * l4) + 1))), (5, .int (f7_byteAt f1 A1 (2 * l4))), (0, .ref h0), (1, .int p1), (2, .int p2), (3, .int l3)]) hx hb dX9_share_142 hl (k := 7) rfl rfl (by decide) rfl (fun ls hl => ?_)
        refine lv_goto (tgt := 50) hx hb dX9_share_145 (by decide) ?_
        exact hk50 f1 l3 (l4 + 1) h _ _ _ hPD hS (lv_sub hl [4, 5, 6, 7, 0] rfl)
      · have h := (if_neg cc1).symm.trans h
        refine lv_iload hx hb dX9_share_105 (lv_at hl 1 rfl) ?_
        refine lv_iconst (v := 1) hx hb dX9_share_107 (by decide) ?_
        refine lv_iload_n hx hb dX9_share_108 rfl (lv_at hl 5 rfl) ?_
        refine lv_ishl hx hb dX9_share_109 ?_
        refine lv_iconst (v := 1) hx hb dX9_share_110 (by decide) ?_
        refine lv_isub hx hb dX9_share_111 ?_
        refine lv_iand hx hb dX9_share_112 ?_
        refine kSI (As := [.int ((f7_byteAt f1 A1 ((2 * l4) + 1)) &&& ((shl 1 p2) - 1))]) (rest := []) C0 (kt_J6_bitCount_0f7a4 l G  ((f7_byteAt f1 A1 ((2 * l4) + 1)) &&& ((shl 1 p2) - 1))) gi_S_X9_242_J6_bitCount_0f7a4 (n := 1) rfl (by decide +kernel) ⟨rfl, rfl, Nat.le_of_ble_eq_true rfl, Nat.le_of_ble_eq_true rfl⟩ hPD hS [] [0, 1, 2, 3] [0, 1, 2, 3] (wr := (wX9 G h0 a0 wk f0 A0 ++ (wX7 G (a0 0) a1 f1 A1))) (wN := (wX9 G h0 a0 wk f0 A0 ++ (wX7 G (a0 0) a1 f1 A1))) rfl rfl rfl rfl rfl hl.1 (Nat.le_of_ble_eq_true rfl) dX9_share_113 (fun H locs hPD hS => ?_)
        obtain ⟨x_3, ex_3, h⟩ := lvl h
        refine lv_nm ex_3 ?_
        refine lv_istore (lv' := [(8, .int x_3), (7, .int x_2), (6, .int (f7_byteAt f1 A1 ((2 * l4) + 1))), (5, .int (f7_byteAt f1 A1 (2 * l4))), (0, .ref h0), (1, .int p1), (2, .int p2), (3, .int l3), (4, .int l4)]) hx hb dX9_share_116 hl (by decide) rfl (fun ls hl => ?_)
        refine lv_iload_n hx hb dX9_share_118 rfl (lv_at hl 7 rfl) ?_
        refine lv_iload hx hb dX9_share_119 (lv_at hl 3 rfl) ?_
        refine lv_iload hx hb dX9_share_121 (lv_at hl 1 rfl) ?_
        obtain ⟨hz, h⟩ := ob h
        refine lv_idiv hx hb dX9_share_123 hz ?_
        refine lv_iload hx hb dX9_share_124 (lv_at hl 0 rfl) ?_
        refine lv_iload hx hb dX9_share_126 (lv_at hl 3 rfl) ?_
        refine lv_iload hx hb dX9_share_128 (lv_at hl 1 rfl) ?_
        obtain ⟨hz, h⟩ := ob h
        refine lv_irem hx hb dX9_share_130 hz ?_
        refine lv_icmp_ge (tgt := 138) hx hb dX9_share_131 (by decide) (fun cc1 => ?_) (fun cc1 => ?_)
        · have h := (if_pos cc1).symm.trans h
          refine lv_iconst (v := 0) hx hb dX9_share_138 (by decide) ?_
          refine lv_iadd hx hb dX9_share_139 ?_
          refine lv_iadd hx hb dX9_share_140 ?_
          refine lv_istore_n (lv' := [(3, .int (l3 + (((f7_byteAt f1 A1 (2 * l4)) / x_2) + 0))), (8, .int x_3), (7, .int x_2), (6, .int (f7_byteAt f1 A1 ((2 * l4) + 1))), (5, .int (f7_byteAt f1 A1 (2 * l4))), (0, .ref h0), (1, .int p1), (2, .int p2), (4, .int l4)]) hx hb dX9_share_141 rfl hl (by decide) rfl (fun ls hl => ?_)
          refine lv_iinc (v := l4 + 1) (lv' := [(4, .int (l4 + 1)), (3, .int (l3 + (((f7_byteAt f1 A1 (2 * l4)) / x_2) + 0))), (8, .int x_3), (7, .int x_2), (6, .int (f7_byteAt f1 A1 ((2 * l4) + 1))), (5, .int (f7_byteAt f1 A1 (2 * l4))), (0, .ref h0), (1, .int p1), (2, .int p2)]) hx hb dX9_share_142 hl (k := 8) rfl rfl (by decide) rfl (fun ls hl => ?_)
          refine lv_goto (tgt := 50) hx hb dX9_share_145 (by decide) ?_
          exact hk50 f1 (l3 + (((f7_byteAt f1 A1 (2 * l4)) / x_2) + 0)) (l4 + 1) h _ _ _ hPD hS (lv_sub hl [6, 7, 8, 1, 0] rfl)
        · have h := (if_neg cc1).symm.trans h
          refine lv_iconst (v := 1) hx hb dX9_share_134 (by decide) ?_
          refine lv_goto (tgt := 139) hx hb dX9_share_135 (by decide) ?_
          refine lv_iadd hx hb dX9_share_139 ?_
          refine lv_iadd hx hb dX9_share_140 ?_
          refine lv_istore_n (lv' := [(3, .int (l3 + (((f7_byteAt f1 A1 (2 * l4)) / x_2) + 1))), (8, .int x_3), (7, .int x_2), (6, .int (f7_byteAt f1 A1 ((2 * l4) + 1))), (5, .int (f7_byteAt f1 A1 (2 * l4))), (0, .ref h0), (1, .int p1), (2, .int p2), (4, .int l4)]) hx hb dX9_share_141 rfl hl (by decide) rfl (fun ls hl => ?_)
          refine lv_iinc (v := l4 + 1) (lv' := [(4, .int (l4 + 1)), (3, .int (l3 + (((f7_byteAt f1 A1 (2 * l4)) / x_2) + 1))), (8, .int x_3), (7, .int x_2), (6, .int (f7_byteAt f1 A1 ((2 * l4) + 1))), (5, .int (f7_byteAt f1 A1 (2 * l4))), (0, .ref h0), (1, .int p1), (2, .int p2)]) hx hb dX9_share_142 hl (k := 8) rfl rfl (by decide) rfl (fun ls hl => ?_)
          refine lv_goto (tgt := 50) hx hb dX9_share_145 (by decide) ?_
          exact hk50 f1 (l3 + (((f7_byteAt f1 A1 (2 * l4)) / x_2) + 1)) (l4 + 1) h _ _ _ hPD hS (lv_sub hl [6, 7, 8, 1, 0] rfl)
set_option maxRecDepth 100000 in
set_option maxHeartbeats 4000000 in
theorem ww_f9_share_l50  (C0 : Cx cX9_share 9 (some .int) RX9 p s m args meth c G DA) {h0 : Nat} {a0 : Nat → Nat} {wk : Option Nat} {a1 : Nat → Nat} {f0 : Nat → Int32} {A0 : Nat → Nat → Int32} {A1 : Nat → Nat → Int32} {p1 : Int32} {p2 : Int32}   {res : Int32 × (Nat → Int32)}  : ∀ (n : Nat) (f1 : Nat → Int32) (l3 : Int32) (l4 : Int32), f9_share_l50 f0 A0 A1 p1 p2  n f1 l3 l4 = some res → ∀ (H : Heap) (locs : List Loc) (ls : Array Slot), WD G DA (wX9 G h0 a0 wk f0 A0 ++ (wX7 G (a0 0) a1 f1 A1)) H → va_S DA s.heap H locs → lv_has ls 9 [(0, .ref h0), (1, .int p1), (2, .int p2), (3, .int l3), (4, .int l4)] → W p l e rmX9_share s m args below meth c H locs 0 0 (MQ below (QI G DA res.1 (wX9 G h0 a0 wk f0 A0 ++ (wX7 G (a0 0) a1 res.2 A1))) args s 0 0 DA) (F0 m 50 ls []) := by
  intro n
  induction n with
  | zero => intro f1 l3 l4 h; cases h
  | succ n ih => intro f1 l3 l4 h; exact ww_f9_share_b50 C0  ih f1 l3 l4 h
set_option maxRecDepth 100000 in
set_option maxHeartbeats 4000000 in
theorem kt_X9_share (l : Launch) (G : Gp) (h0 : Nat) (a0 : Nat → Nat) (wk : Option Nat) (a1 : Nat → Nat) (f0 : Nat → Int32) (A0 : Nat → Nat → Int32) (f1 : Nat → Int32) (A1 : Nat → Nat → Int32) (p1 : Int32) (p2 : Int32) : ∀ {r : Int32 × (Nat → Int32)}, f9_share f0 A0 f1 A1 p1 p2 = some r → CtrI l yX9_share cX9_share 9 (some .int) rmX9_share G [.ref h0, .int p1, .int p2] (wX9 G h0 a0 wk f0 A0 ++ (wX7 G (a0 0) a1 f1 A1)) r.1 (wX9 G h0 a0 wk f0 A0 ++ (wX7 G (a0 0) a1 r.2 A1)) := by
  intro res h
  refine ctrI_of (cc := cX9_share) (maxL := 9) (ret := (some .int)) (by decide +kernel) rfl (Nat.le_of_ble_eq_true rfl) (fun p e s m below meth c DA C0 hP hD ls hl => ?_)
  have hPD : WD G DA (wX9 G h0 a0 wk f0 A0 ++ (wX7 G (a0 0) a1 f1 A1)) s.heap := ⟨hP, hD⟩
  have hS : va_S DA s.heap s.heap [] := va_S.rf
  have hl : lv_has ls 9 [(0, .ref h0), (1, .int p1), (2, .int p2)] := hl
  obtain ⟨hx, hb, hml, hown, hts⟩ := C0.1
  have hK := C0.2.2.2.1
  unfold f9_share at h
  refine lv_iload_n hx hb dX9_share_0 rfl (lv_at hl 1 rfl) ?_
  refine lv_iconst (v := 1) hx hb dX9_share_1 (by decide) ?_
  refine lv_bipush (v := 12) hx hb dX9_share_2 (by decide) ?_
  refine kSI (As := [.int p1, .int 1, .int 12]) (rest := []) C0 (kt_X9_within l G  p1 1 12) gi_S_X9_90_X9_within (n := 3) rfl (by decide +kernel) ⟨rfl, rfl, Nat.le_of_ble_eq_true rfl, Nat.le_of_ble_eq_true rfl⟩ hPD hS [] [0, 1, 2, 3] [0, 1, 2, 3] (wr := (wX9 G h0 a0 wk f0 A0 ++ (wX7 G (a0 0) a1 f1 A1))) (wN := (wX9 G h0 a0 wk f0 A0 ++ (wX7 G (a0 0) a1 f1 A1))) rfl rfl rfl rfl rfl hl.1 (Nat.le_of_ble_eq_true rfl) dX9_share_4 (fun H locs hPD hS => ?_)
  refine lv_if_eq (tgt := 33) hx hb dX9_share_7 (by decide) (fun cc1 => ?_) (fun cc1 => ?_)
  · have h := (if_pos cc1).symm.trans h
    refine lv_iconst (v := (-1)) hx hb dX9_share_33 (by decide) ?_
    obtain rfl := Option.some.inj h
    exact eI C0 hPD.1 hPD.2 hS rfl dX9_share_34
  · have h := (if_neg cc1).symm.trans h
    refine lv_iload_n hx hb dX9_share_10 rfl (lv_at hl 2 rfl) ?_
    refine lv_iconst (v := 0) hx hb dX9_share_11 (by decide) ?_
    refine lv_bipush (v := 7) hx hb dX9_share_12 (by decide) ?_
    refine kSI (As := [.int p2, .int 0, .int 7]) (rest := []) C0 (kt_X9_within l G  p2 0 7) gi_S_X9_90_X9_within (n := 3) rfl (by decide +kernel) ⟨rfl, rfl, Nat.le_of_ble_eq_true rfl, Nat.le_of_ble_eq_true rfl⟩ hPD hS [] [0, 1, 2, 3] [0, 1, 2, 3] (wr := (wX9 G h0 a0 wk f0 A0 ++ (wX7 G (a0 0) a1 f1 A1))) (wN := (wX9 G h0 a0 wk f0 A0 ++ (wX7 G (a0 0) a1 f1 A1))) rfl rfl rfl rfl rfl hl.1 (Nat.le_of_ble_eq_true rfl) dX9_share_14 (fun H locs hPD hS => ?_)
    refine lv_if_eq (tgt := 33) hx hb dX9_share_17 (by decide) (fun cc1 => ?_) (fun cc1 => ?_)
    · have h := (if_pos cc1).symm.trans h
      refine lv_iconst (v := (-1)) hx hb dX9_share_33 (by decide) ?_
      obtain rfl := Option.some.inj h
      exact eI C0 hPD.1 hPD.2 hS rfl dX9_share_34
    · have h := (if_neg cc1).symm.trans h
      refine lv_aload_n hx hb dX9_share_20 rfl (lv_at hl 0 rfl) ?_
      refine va_get (D := G.1) (ci := 9) (v := .ref (a0 0)) (C := RX9) (T := TX9) (N := 15) hx hb hts inlX9 hown hK hPD.1 0 rfl rfl 0 (by decide) (hts _ gw_363) (fun _ h9 => h9) rfl dX9_share_21 ?_
      refine lv_iconst (v := 2) hx hb dX9_share_24 (by decide) ?_
      refine lv_iload_n hx hb dX9_share_25 rfl (lv_at hl 1 rfl) ?_
      refine lv_imul hx hb dX9_share_26 ?_
      refine kVI (As := [.int (2 * p1)]) (rest := []) C0 (kt_X7_holds l G (a0 0) a1 f1 A1 (2 * p1)) gi_V_X9_132_X7_holds (n := 1) rfl (by decide +kernel) rfl ⟨rfl, rfl, Nat.le_of_ble_eq_true rfl, Nat.le_of_ble_eq_true rfl⟩ hPD hS 2 7 rfl rfl rfl [2, 3] [0, 1] [0, 1, 2, 3] (wr := (wX9 G h0 a0 wk f0 A0)) (wN := (wX9 G h0 a0 wk f0 A0 ++ (wX7 G (a0 0) a1 f1 A1))) rfl rfl rfl rfl rfl hl.1 (Nat.le_of_ble_eq_true rfl) dX9_share_27 (fun H locs hPD hS => ?_)
      refine lv_if_ne (tgt := 35) hx hb dX9_share_30 (by decide) (fun cc1 => ?_) (fun cc1 => ?_)
      · have h := (if_neg cc1).symm.trans h
        refine lv_aload_n hx hb dX9_share_35 rfl (lv_at hl 0 rfl) ?_
        refine va_get (D := G.1) (ci := 9) (v := .ref (a0 0)) (C := RX9) (T := TX9) (N := 15) hx hb hts inlX9 hown hK hPD.1 0 rfl rfl 0 (by decide) (hts _ gw_363) (fun _ h9 => h9) rfl dX9_share_36 ?_
        refine lv_iconst (v := 2) hx hb dX9_share_39 (by decide) ?_
        refine lv_iload_n hx hb dX9_share_40 rfl (lv_at hl 1 rfl) ?_
        refine lv_imul hx hb dX9_share_41 ?_
        obtain ⟨z_1, ez_1, h⟩ := lvl h
        have kc := kt_X7_open l G (a0 0) a1 f1 A1 (2 * p1)
        rw [← ez_1] at kc
        clear ez_1
        refine kVV (As := [.int (2 * p1)]) (rest := []) C0 (kc) gi_V_X9_135_X7_open (n := 1) rfl (by decide +kernel) rfl ⟨rfl, rfl, Nat.le_of_ble_eq_true rfl, Nat.le_of_ble_eq_true rfl⟩ hPD hS 2 7 rfl rfl rfl [2, 3] [0, 1] [0, 1, 2, 3] (wr := (wX9 G h0 a0 wk f0 A0)) (wN := (wX9 G h0 a0 wk f0 A0 ++ (wX7 G (a0 0) a1 z_1 A1))) rfl rfl rfl rfl rfl hl.1 (Nat.le_of_ble_eq_true rfl) dX9_share_42 (fun H locs hPD hS => ?_)
        refine lv_iconst (v := 0) hx hb dX9_share_45 (by decide) ?_
        refine lv_istore_n (lv' := [(3, .int 0), (0, .ref h0), (1, .int p1), (2, .int p2)]) hx hb dX9_share_46 rfl hl (by decide) rfl (fun ls hl => ?_)
        refine lv_iconst (v := 0) hx hb dX9_share_47 (by decide) ?_
        refine lv_istore (lv' := [(4, .int 0), (3, .int 0), (0, .ref h0), (1, .int p1), (2, .int p2)]) hx hb dX9_share_48 hl (by decide) rfl (fun ls hl => ?_)
        exact ww_f9_share_l50 C0 NF z_1 0 0 h _ _ _ hPD hS (lv_sub hl [2, 3, 4, 1, 0] rfl)
      · have h := (if_pos cc1).symm.trans h
        refine lv_iconst (v := (-1)) hx hb dX9_share_33 (by decide) ?_
        obtain rfl := Option.some.inj h
        exact eI C0 hPD.1 hPD.2 hS rfl dX9_share_34
end WALK
