section WALK
variable {p : Program} {l : Launch} {e : Env} {s : State} {m : MethodId} {args : Array Value} {below : List Frame} {meth : Method} {c : Code} {G : Gp} {DA : Nat → Prop}
abbrev rmX9_commonDivisor : Room := { frames := 1, cells := 0, slots := 0, locals := 21 }
set_option maxRecDepth 100000 in
set_option maxHeartbeats 4000000 in
theorem ww_f9_commonDivisor_b7  (C0 : Cx cX9_commonDivisor 6 (some .int) RX9 p s m args meth c G DA) {p0 : Int32} {p1 : Int32}  {k7 : Int32 → Int32 → Int32 → Option (Int32)} {res : Int32}  (hk7 : ∀ (l2 : Int32) (l3 : Int32) (l4 : Int32), k7 l2 l3 l4 = some res → ∀ (H : Heap) (locs : List Loc) (ls : Array Slot), WD G DA ([] : va_W) H → va_S DA s.heap H locs → lv_has ls 6 [(0, .int p0), (1, .int p1), (2, .int l2), (3, .int l3), (4, .int l4)] → W p l e rmX9_commonDivisor s m args below meth c H locs 0 0 (MQ below (QI G DA res ([] : va_W)) args s 0 0 DA) (F0 m 7 ls [])) : ∀ (l2 : Int32) (l3 : Int32) (l4 : Int32), f9_commonDivisor_b7 p0 p1  k7 l2 l3 l4 = some res → ∀ (H : Heap) (locs : List Loc) (ls : Array Slot), WD G DA ([] : va_W) H → va_S DA s.heap H locs → lv_has ls 6 [(0, .int p0), (1, .int p1), (2, .int l2), (3, .int l3), (4, .int l4)] → W p l e rmX9_commonDivisor s m args below meth c H locs 0 0 (MQ below (QI G DA res ([] : va_W)) args s 0 0 DA) (F0 m 7 ls []) := by
  obtain ⟨hx, hb, hml, hown, hts⟩ := C0.1
  have hK := C0.2.2.2.1
  intro l2 l3 l4 h _ _ _ hPD hS hl
  unfold f9_commonDivisor_b7 at h
  refine lv_iload hx hb dX9_commonDivisor_7 (lv_at hl 4 rfl) ?_
  refine lv_bipush (v := 100) hx hb dX9_commonDivisor_9 (by decide) ?_
  refine lv_icmp_ge (tgt := 34) hx hb dX9_commonDivisor_11 (by decide) (fun cc1 => ?_) (fun cc1 => ?_)
  · have h := (if_pos cc1).symm.trans h
    refine lv_iload_n hx hb dX9_commonDivisor_34 rfl (lv_at hl 2 rfl) ?_
    refine lv_iconst (v := 1) hx hb dX9_commonDivisor_35 (by decide) ?_
    refine va_mmax hx hb (hml.trans hl.1.symm) hown (hts _ gw_208) (hts _ gw_209) (hts _ gw_206) (hts _ gw_210) (Nat.le_of_ble_eq_true rfl) (Nat.le_of_ble_eq_true rfl) (Nat.zero_le _) (Nat.zero_le _) dX9_commonDivisor_36 ?_
    obtain rfl := Option.some.inj h
    exact eI C0 hPD.1 hPD.2 hS rfl dX9_commonDivisor_39
  · have h := (if_neg cc1).symm.trans h
    refine lv_iload_n hx hb dX9_commonDivisor_14 rfl (lv_at hl 3 rfl) ?_
    refine lv_if_eq (tgt := 34) hx hb dX9_commonDivisor_15 (by decide) (fun cc1 => ?_) (fun cc1 => ?_)
    · have h := (if_pos cc1).symm.trans h
      refine lv_iload_n hx hb dX9_commonDivisor_34 rfl (lv_at hl 2 rfl) ?_
      refine lv_iconst (v := 1) hx hb dX9_commonDivisor_35 (by decide) ?_
      refine va_mmax hx hb (hml.trans hl.1.symm) hown (hts _ gw_208) (hts _ gw_209) (hts _ gw_206) (hts _ gw_210) (Nat.le_of_ble_eq_true rfl) (Nat.le_of_ble_eq_true rfl) (Nat.zero_le _) (Nat.zero_le _) dX9_commonDivisor_36 ?_
      obtain rfl := Option.some.inj h
      exact eI C0 hPD.1 hPD.2 hS rfl dX9_commonDivisor_39
    · have h := (if_neg cc1).symm.trans h
      refine lv_iload_n hx hb dX9_commonDivisor_18 rfl (lv_at hl 2 rfl) ?_
      refine lv_iload_n hx hb dX9_commonDivisor_19 rfl (lv_at hl 3 rfl) ?_
      obtain ⟨hz, h⟩ := ob h
      refine lv_irem hx hb dX9_commonDivisor_20 hz ?_
      refine lv_istore (lv' := [(5, .int (irm l2 l3)), (0, .int p0), (1, .int p1), (2, .int l2), (3, .int l3), (4, .int l4)]) hx hb dX9_commonDivisor_21 hl (by decide) rfl (fun ls hl => ?_)
      refine lv_iload_n hx hb dX9_commonDivisor_23 rfl (lv_at hl 4 rfl) ?_
      refine lv_istore_n (lv' := [(2, .int l3), (5, .int (irm l2 l3)), (0, .int p0), (1, .int p1), (3, .int l3), (4, .int l4)]) hx hb dX9_commonDivisor_24 rfl hl (by decide) rfl (fun ls hl => ?_)
      refine lv_iload hx hb dX9_commonDivisor_25 (lv_at hl 1 rfl) ?_
      refine lv_istore_n (lv' := [(3, .int (irm l2 l3)), (2, .int l3), (5, .int (irm l2 l3)), (0, .int p0), (1, .int p1), (4, .int l4)]) hx hb dX9_commonDivisor_27 rfl hl (by decide) rfl (fun ls hl => ?_)
      refine lv_iinc (v := l4 + 1) (lv' := [(4, .int (l4 + 1)), (3, .int (irm l2 l3)), (2, .int l3), (5, .int (irm l2 l3)), (0, .int p0), (1, .int p1)]) hx hb dX9_commonDivisor_28 hl (k := 5) rfl rfl (by decide) rfl (fun ls hl => ?_)
      refine lv_goto (tgt := 7) hx hb dX9_commonDivisor_31 (by decide) ?_
      exact hk7 l3 (irm l2 l3) (l4 + 1) h _ _ _ hPD hS (lv_sub hl [4, 5, 2, 1, 0] rfl)
set_option maxRecDepth 100000 in
set_option maxHeartbeats 4000000 in
theorem ww_f9_commonDivisor_l7  (C0 : Cx cX9_commonDivisor 6 (some .int) RX9 p s m args meth c G DA) {p0 : Int32} {p1 : Int32}   {res : Int32}  : ∀ (n : Nat) (l2 : Int32) (l3 : Int32) (l4 : Int32), f9_commonDivisor_l7 p0 p1  n l2 l3 l4 = some res → ∀ (H : Heap) (locs : List Loc) (ls : Array Slot), WD G DA ([] : va_W) H → va_S DA s.heap H locs → lv_has ls 6 [(0, .int p0), (1, .int p1), (2, .int l2), (3, .int l3), (4, .int l4)] → W p l e rmX9_commonDivisor s m args below meth c H locs 0 0 (MQ below (QI G DA res ([] : va_W)) args s 0 0 DA) (F0 m 7 ls []) := by
  intro n
  induction n with
  | zero => intro l2 l3 l4 h; cases h
  | succ n ih => intro l2 l3 l4 h; exact ww_f9_commonDivisor_b7 C0  ih l2 l3 l4 h
set_option maxRecDepth 100000 in
set_option maxHeartbeats 4000000 in
theorem kt_X9_commonDivisor (l : Launch) (G : Gp) (p0 : Int32) (p1 : Int32) : ∀ {r : Int32}, f9_commonDivisor p0 p1 = some r → CtrI l yX9_commonDivisor cX9_commonDivisor 6 (some .int) rmX9_commonDivisor G [.int p0, .int p1] ([] : va_W) r ([] : va_W) := by
  intro res h
  refine ctrI_of (cc := cX9_commonDivisor) (maxL := 6) (ret := (some .int)) (by decide +kernel) rfl (Nat.le_of_ble_eq_true rfl) (fun p e s m below meth c DA C0 hP hD ls hl => ?_)
  have hPD : WD G DA ([] : va_W) s.heap := ⟨hP, hD⟩
  have hS : va_S DA s.heap s.heap [] := va_S.rf
  have hl : lv_has ls 6 [(0, .int p0), (1, .int p1)] := hl
  obtain ⟨hx, hb, hml, hown, hts⟩ := C0.1
  have hK := C0.2.2.2.1
  unfold f9_commonDivisor at h
  refine lv_iload_n hx hb dX9_commonDivisor_0 rfl (lv_at hl 0 rfl) ?_
  refine lv_istore_n (lv' := [(2, .int p0), (0, .int p0), (1, .int p1)]) hx hb dX9_commonDivisor_1 rfl hl (by decide) rfl (fun ls hl => ?_)
  refine lv_iload_n hx hb dX9_commonDivisor_2 rfl (lv_at hl 2 rfl) ?_
  refine lv_istore_n (lv' := [(3, .int p1), (2, .int p0), (0, .int p0), (1, .int p1)]) hx hb dX9_commonDivisor_3 rfl hl (by decide) rfl (fun ls hl => ?_)
  refine lv_iconst (v := 0) hx hb dX9_commonDivisor_4 (by decide) ?_
  refine lv_istore (lv' := [(4, .int 0), (3, .int p1), (2, .int p0), (0, .int p0), (1, .int p1)]) hx hb dX9_commonDivisor_5 hl (by decide) rfl (fun ls hl => ?_)
  exact ww_f9_commonDivisor_l7 C0 NF p0 p1 0 h _ _ _ hPD hS (lv_sub hl [3, 4, 2, 1, 0] rfl)
abbrev rmX9_odds : Room := { frames := 2, cells := 0, slots := 0, locals := 46 }
set_option maxRecDepth 100000 in
set_option maxHeartbeats 4000000 in
theorem ww_f9_odds_b131  (C0 : Cx cX9_odds 8 (some .int) RX9 p s m args meth c G DA) {h0 : Nat} {a0 : Nat → Nat} {wk : Option Nat} {a1 : Nat → Nat} {f0 : Nat → Int32} {A0 : Nat → Nat → Int32} {A1 : Nat → Nat → Int32} {p1 : Int32} {p2 : Int32}   {res : Int32 × (Nat → Int32)}  : ∀ (f1 : Nat → Int32) (l5 : Int32) (l6 : Int32), f9_odds_b131 f0 A0 A1 p1 p2  f1 l5 l6 = some res → ∀ (H : Heap) (locs : List Loc) (ls : Array Slot), WD G DA (wX9 G h0 a0 wk f0 A0 ++ (wX7 G (a0 0) a1 f1 A1)) H → va_S DA s.heap H locs → lv_has ls 8 [(0, .ref h0), (1, .int p1), (2, .int p2), (5, .int l5), (6, .int l6)] → W p l e rmX9_odds s m args below meth c H locs 0 0 (MQ below (QI G DA res.1 (wX9 G h0 a0 wk f0 A0 ++ (wX7 G (a0 0) a1 res.2 A1))) args s 0 0 DA) (F0 m 131 ls []) := by
  obtain ⟨hx, hb, hml, hown, hts⟩ := C0.1
  have hK := C0.2.2.2.1
  intro f1 l5 l6 h _ _ _ hPD hS hl
  unfold f9_odds_b131 at h
  refine lv_iload hx hb dX9_odds_131 (lv_at hl 4 rfl) ?_
  refine lv_iload hx hb dX9_odds_133 (lv_at hl 3 rfl) ?_
  obtain ⟨q_2, hq_2, h⟩ := ob2 h
  refine kSI (As := [.int l6, .int l5]) (rest := []) C0 (kt_X9_commonDivisor l G  l6 l5 hq_2) gi_S_X9_300_X9_commonDivisor (n := 2) rfl (by decide +kernel) ⟨rfl, rfl, Nat.le_of_ble_eq_true rfl, Nat.le_of_ble_eq_true rfl⟩ hPD hS [] [0, 1, 2, 3] [0, 1, 2, 3] (wr := (wX9 G h0 a0 wk f0 A0 ++ (wX7 G (a0 0) a1 f1 A1))) (wN := (wX9 G h0 a0 wk f0 A0 ++ (wX7 G (a0 0) a1 f1 A1))) rfl rfl rfl rfl rfl hl.1 (Nat.le_of_ble_eq_true rfl) dX9_odds_135 (fun H locs hPD hS => ?_)
  refine lv_istore (lv' := [(7, .int q_2), (0, .ref h0), (1, .int p1), (2, .int p2), (5, .int l5), (6, .int l6)]) hx hb dX9_odds_138 hl (by decide) rfl (fun ls hl => ?_)
  refine lv_iload_n hx hb dX9_odds_140 rfl (lv_at hl 3 rfl) ?_
  refine lv_iconst (v := 2) hx hb dX9_odds_141 (by decide) ?_
  refine lv_irem hx hb dX9_odds_142 (by decide) ?_
  refine lv_if_ne (tgt := 151) hx hb dX9_odds_143 (by decide) (fun cc1 => ?_) (fun cc1 => ?_)
  · have h := (if_neg cc1).symm.trans h
    refine lv_iload hx hb dX9_odds_151 (lv_at hl 4 rfl) ?_
    refine lv_iload hx hb dX9_odds_153 (lv_at hl 0 rfl) ?_
    obtain ⟨hz, h⟩ := ob h
    refine lv_idiv hx hb dX9_odds_155 hz ?_
    obtain rfl := Option.some.inj h
    exact eI C0 hPD.1 hPD.2 hS rfl dX9_odds_156
  · have h := (if_pos cc1).symm.trans h
    refine lv_iload hx hb dX9_odds_146 (lv_at hl 5 rfl) ?_
    refine lv_goto (tgt := 153) hx hb dX9_odds_148 (by decide) ?_
    refine lv_iload hx hb dX9_odds_153 (lv_at hl 0 rfl) ?_
    obtain ⟨hz, h⟩ := ob h
    refine lv_idiv hx hb dX9_odds_155 hz ?_
    obtain rfl := Option.some.inj h
    exact eI C0 hPD.1 hPD.2 hS rfl dX9_odds_156
set_option maxRecDepth 100000 in
set_option maxHeartbeats 4000000 in
theorem ww_f9_odds_b51  (C0 : Cx cX9_odds 8 (some .int) RX9 p s m args meth c G DA) {h0 : Nat} {a0 : Nat → Nat} {wk : Option Nat} {a1 : Nat → Nat} {f0 : Nat → Int32} {A0 : Nat → Nat → Int32} {A1 : Nat → Nat → Int32} {p1 : Int32} {p2 : Int32}  {k51 : (Nat → Int32) → Int32 → Int32 → Int32 → Int32 → Option (Int32 × (Nat → Int32))} {res : Int32 × (Nat → Int32)}  (hk51 : ∀ (f1 : Nat → Int32) (l3 : Int32) (l4 : Int32) (l5 : Int32) (l6 : Int32), k51 f1 l3 l4 l5 l6 = some res → ∀ (H : Heap) (locs : List Loc) (ls : Array Slot), WD G DA (wX9 G h0 a0 wk f0 A0 ++ (wX7 G (a0 0) a1 f1 A1)) H → va_S DA s.heap H locs → lv_has ls 8 [(0, .ref h0), (1, .int p1), (2, .int p2), (3, .int l3), (4, .int l4), (5, .int l5), (6, .int l6)] → W p l e rmX9_odds s m args below meth c H locs 0 0 (MQ below (QI G DA res.1 (wX9 G h0 a0 wk f0 A0 ++ (wX7 G (a0 0) a1 res.2 A1))) args s 0 0 DA) (F0 m 51 ls [])) : ∀ (f1 : Nat → Int32) (l3 : Int32) (l4 : Int32) (l5 : Int32) (l6 : Int32), f9_odds_b51 f0 A0 A1 p1 p2  k51 f1 l3 l4 l5 l6 = some res → ∀ (H : Heap) (locs : List Loc) (ls : Array Slot), WD G DA (wX9 G h0 a0 wk f0 A0 ++ (wX7 G (a0 0) a1 f1 A1)) H → va_S DA s.heap H locs → lv_has ls 8 [(0, .ref h0), (1, .int p1), (2, .int p2), (3, .int l3), (4, .int l4), (5, .int l5), (6, .int l6)] → W p l e rmX9_odds s m args below meth c H locs 0 0 (MQ below (QI G DA res.1 (wX9 G h0 a0 wk f0 A0 ++ (wX7 G (a0 0) a1 res.2 A1))) args s 0 0 DA) (F0 m 51 ls []) := by
  obtain ⟨hx, hb, hml, hown, hts⟩ := C0.1
  have hK := C0.2.2.2.1
  intro f1 l3 l4 l5 l6 h _ _ _ hPD hS hl
  unfold f9_odds_b51 at h
  refine lv_iload hx hb dX9_odds_51 (lv_at hl 6 rfl) ?_
  refine lv_iload_n hx hb dX9_odds_53 rfl (lv_at hl 1 rfl) ?_
  refine lv_icmp_ge (tgt := 106) hx hb dX9_odds_54 (by decide) (fun cc1 => ?_) (fun cc1 => ?_)
  · have h := (if_pos cc1).symm.trans h
    refine lv_iload hx hb dX9_odds_106 (lv_at hl 5 rfl) ?_
    refine lv_iload hx hb dX9_odds_108 (lv_at hl 4 rfl) ?_
    refine lv_isub hx hb dX9_odds_110 ?_
    refine lv_istore (lv' := [(6, .int (l5 - l4)), (0, .ref h0), (1, .int p1), (2, .int p2), (3, .int l3), (4, .int l4), (5, .int l5)]) hx hb dX9_odds_111 hl (by decide) rfl (fun ls hl => ?_)
    refine lv_iload_n hx hb dX9_odds_113 rfl (lv_at hl 3 rfl) ?_
    refine lv_iconst (v := 4) hx hb dX9_odds_114 (by decide) ?_
    refine lv_icmp_ge (tgt := 131) hx hb dX9_odds_115 (by decide) (fun cc1 => ?_) (fun cc1 => ?_)
    · have h := (if_pos cc1).symm.trans h
      exact ww_f9_odds_b131 C0 f1 l5 (l5 - l4) h _ _ _ hPD hS (lv_sub hl [1, 2, 3, 6, 0] rfl)
    · have h := (if_neg cc1).symm.trans h
      refine lv_iload_n hx hb dX9_odds_118 rfl (lv_at hl 3 rfl) ?_
      refine lv_iconst (v := 2) hx hb dX9_odds_119 (by decide) ?_
      refine lv_icmp_ge (tgt := 127) hx hb dX9_odds_120 (by decide) (fun cc1 => ?_) (fun cc1 => ?_)
      · have h := (if_pos cc1).symm.trans h
        refine lv_iload hx hb dX9_odds_127 (lv_at hl 5 rfl) ?_
        refine lv_istore (lv' := [(6, .int l4), (0, .ref h0), (1, .int p1), (2, .int p2), (3, .int l3), (4, .int l4), (5, .int l5)]) hx hb dX9_odds_129 hl (by decide) rfl (fun ls hl => ?_)
        exact ww_f9_odds_b131 C0 f1 l5 l4 h _ _ _ hPD hS (lv_sub hl [1, 2, 3, 6, 0] rfl)
      · have h := (if_neg cc1).symm.trans h
        refine lv_iload_n hx hb dX9_odds_123 rfl (lv_at hl 4 rfl) ?_
        refine lv_goto (tgt := 129) hx hb dX9_odds_124 (by decide) ?_
        refine lv_istore (lv' := [(6, .int l3), (0, .ref h0), (1, .int p1), (2, .int p2), (3, .int l3), (4, .int l4), (5, .int l5)]) hx hb dX9_odds_129 hl (by decide) rfl (fun ls hl => ?_)
        exact ww_f9_odds_b131 C0 f1 l5 l3 h _ _ _ hPD hS (lv_sub hl [1, 2, 3, 6, 0] rfl)
  · have h := (if_neg cc1).symm.trans h
    refine lv_aload_n hx hb dX9_odds_57 rfl (lv_at hl 0 rfl) ?_
    refine va_get (D := G.1) (ci := 9) (v := .ref (a0 0)) (C := RX9) (T := TX9) (N := 15) hx hb hts inlX9 hown hK hPD.1 0 rfl rfl 0 (by decide) (hts _ gw_363) (fun _ h9 => h9) rfl dX9_odds_58 ?_
    refine lv_iload hx hb dX9_odds_61 (lv_at hl 6 rfl) ?_
    refine kVI (As := [.int l6]) (rest := []) C0 (kt_X7_byteAt l G (a0 0) a1 f1 A1 l6) gi_V_X9_224_X7_byteAt (n := 1) rfl (by decide +kernel) rfl ⟨rfl, rfl, Nat.le_of_ble_eq_true rfl, Nat.le_of_ble_eq_true rfl⟩ hPD hS 2 7 rfl rfl rfl [2, 3] [0, 1] [0, 1, 2, 3] (wr := (wX9 G h0 a0 wk f0 A0)) (wN := (wX9 G h0 a0 wk f0 A0 ++ (wX7 G (a0 0) a1 f1 A1))) rfl rfl rfl rfl rfl hl.1 (Nat.le_of_ble_eq_true rfl) dX9_odds_63 (fun H locs hPD hS => ?_)
    refine lv_istore (lv' := [(7, .int (f7_byteAt f1 A1 l6)), (0, .ref h0), (1, .int p1), (2, .int p2), (3, .int l3), (4, .int l4), (5, .int l5), (6, .int l6)]) hx hb dX9_odds_66 hl (by decide) rfl (fun ls hl => ?_)
    refine lv_iload hx hb dX9_odds_68 (lv_at hl 0 rfl) ?_
    refine lv_bipush (v := 10) hx hb dX9_odds_70 (by decide) ?_
    refine lv_icmp_le (tgt := 78) hx hb dX9_odds_72 (by decide) (fun cc1 => ?_) (fun cc1 => ?_)
    · have h := (if_pos cc1).symm.trans h
      refine lv_iload_n hx hb dX9_odds_78 rfl (lv_at hl 4 rfl) ?_
      refine lv_iload hx hb dX9_odds_79 (lv_at hl 0 rfl) ?_
      refine lv_imul hx hb dX9_odds_81 ?_
      refine lv_istore_n (lv' := [(3, .int (l3 * (f7_byteAt f1 A1 l6))), (7, .int (f7_byteAt f1 A1 l6)), (0, .ref h0), (1, .int p1), (2, .int p2), (4, .int l4), (5, .int l5), (6, .int l6)]) hx hb dX9_odds_82 rfl hl (by decide) rfl (fun ls hl => ?_)
      refine lv_iload hx hb dX9_odds_83 (lv_at hl 5 rfl) ?_
      refine lv_bipush (v := 10) hx hb dX9_odds_85 (by decide) ?_
      refine lv_iload hx hb dX9_odds_87 (lv_at hl 1 rfl) ?_
      refine lv_isub hx hb dX9_odds_89 ?_
      refine lv_imul hx hb dX9_odds_90 ?_
      refine lv_istore (lv' := [(4, .int (l4 * (10 - (f7_byteAt f1 A1 l6)))), (3, .int (l3 * (f7_byteAt f1 A1 l6))), (7, .int (f7_byteAt f1 A1 l6)), (0, .ref h0), (1, .int p1), (2, .int p2), (5, .int l5), (6, .int l6)]) hx hb dX9_odds_91 hl (by decide) rfl (fun ls hl => ?_)
      refine lv_iload hx hb dX9_odds_93 (lv_at hl 6 rfl) ?_
      refine lv_bipush (v := 10) hx hb dX9_odds_95 (by decide) ?_
      refine lv_imul hx hb dX9_odds_97 ?_
      refine lv_istore (lv' := [(5, .int (l5 * 10)), (4, .int (l4 * (10 - (f7_byteAt f1 A1 l6)))), (3, .int (l3 * (f7_byteAt f1 A1 l6))), (7, .int (f7_byteAt f1 A1 l6)), (0, .ref h0), (1, .int p1), (2, .int p2), (6, .int l6)]) hx hb dX9_odds_98 hl (by decide) rfl (fun ls hl => ?_)
      refine lv_iinc (v := l6 + 1) (lv' := [(6, .int (l6 + 1)), (5, .int (l5 * 10)), (4, .int (l4 * (10 - (f7_byteAt f1 A1 l6)))), (3, .int (l3 * (f7_byteAt f1 A1 l6))), (7, .int (f7_byteAt f1 A1 l6)), (0, .ref h0), (1, .int p1), (2, .int p2)]) hx hb dX9_odds_100 hl (k := 7) rfl rfl (by decide) rfl (fun ls hl => ?_)
      refine lv_goto (tgt := 51) hx hb dX9_odds_103 (by decide) ?_
      exact hk51 f1 (l3 * (f7_byteAt f1 A1 l6)) (l4 * (10 - (f7_byteAt f1 A1 l6))) (l5 * 10) (l6 + 1) h _ _ _ hPD hS (lv_sub hl [5, 6, 7, 3, 2, 1, 0] rfl)
    · have h := (if_neg cc1).symm.trans h
      refine lv_bipush (v := (-2)) hx hb dX9_odds_75 (by decide) ?_
      obtain rfl := Option.some.inj h
      exact eI C0 hPD.1 hPD.2 hS rfl dX9_odds_77
set_option maxRecDepth 100000 in
set_option maxHeartbeats 4000000 in
theorem ww_f9_odds_l51  (C0 : Cx cX9_odds 8 (some .int) RX9 p s m args meth c G DA) {h0 : Nat} {a0 : Nat → Nat} {wk : Option Nat} {a1 : Nat → Nat} {f0 : Nat → Int32} {A0 : Nat → Nat → Int32} {A1 : Nat → Nat → Int32} {p1 : Int32} {p2 : Int32}   {res : Int32 × (Nat → Int32)}  : ∀ (n : Nat) (f1 : Nat → Int32) (l3 : Int32) (l4 : Int32) (l5 : Int32) (l6 : Int32), f9_odds_l51 f0 A0 A1 p1 p2  n f1 l3 l4 l5 l6 = some res → ∀ (H : Heap) (locs : List Loc) (ls : Array Slot), WD G DA (wX9 G h0 a0 wk f0 A0 ++ (wX7 G (a0 0) a1 f1 A1)) H → va_S DA s.heap H locs → lv_has ls 8 [(0, .ref h0), (1, .int p1), (2, .int p2), (3, .int l3), (4, .int l4), (5, .int l5), (6, .int l6)] → W p l e rmX9_odds s m args below meth c H locs 0 0 (MQ below (QI G DA res.1 (wX9 G h0 a0 wk f0 A0 ++ (wX7 G (a0 0) a1 res.2 A1))) args s 0 0 DA) (F0 m 51 ls []) := by
  intro n
  induction n with
  | zero => intro f1 l3 l4 l5 l6 h; cases h
  | succ n ih => intro f1 l3 l4 l5 l6 h; exact ww_f9_odds_b51 C0  ih f1 l3 l4 l5 l6 h
set_option maxRecDepth 100000 in
set_option maxHeartbeats 4000000 in
theorem kt_X9_odds (l : Launch) (G : Gp) (h0 : Nat) (a0 : Nat → Nat) (wk : Option Nat) (a1 : Nat → Nat) (f0 : Nat → Int32) (A0 : Nat → Nat → Int32) (f1 : Nat → Int32) (A1 : Nat → Nat → Int32) (p1 : Int32) (p2 : Int32) : ∀ {r : Int32 × (Nat → Int32)}, f9_odds f0 A0 f1 A1 p1 p2 = some r → CtrI l yX9_odds cX9_odds 8 (some .int) rmX9_odds G [.ref h0, .int p1, .int p2] (wX9 G h0 a0 wk f0 A0 ++ (wX7 G (a0 0) a1 f1 A1)) r.1 (wX9 G h0 a0 wk f0 A0 ++ (wX7 G (a0 0) a1 r.2 A1)) := by
  intro res h
  refine ctrI_of (cc := cX9_odds) (maxL := 8) (ret := (some .int)) (by decide +kernel) rfl (Nat.le_of_ble_eq_true rfl) (fun p e s m below meth c DA C0 hP hD ls hl => ?_)
  have hPD : WD G DA (wX9 G h0 a0 wk f0 A0 ++ (wX7 G (a0 0) a1 f1 A1)) s.heap := ⟨hP, hD⟩
  have hS : va_S DA s.heap s.heap [] := va_S.rf
  have hl : lv_has ls 8 [(0, .ref h0), (1, .int p1), (2, .int p2)] := hl
  obtain ⟨hx, hb, hml, hown, hts⟩ := C0.1
  have hK := C0.2.2.2.1
  unfold f9_odds at h
  refine lv_iload_n hx hb dX9_odds_0 rfl (lv_at hl 1 rfl) ?_
  refine lv_iconst (v := 1) hx hb dX9_odds_1 (by decide) ?_
  refine lv_bipush (v := 9) hx hb dX9_odds_2 (by decide) ?_
  refine kSI (As := [.int p1, .int 1, .int 9]) (rest := []) C0 (kt_X9_within l G  p1 1 9) gi_S_X9_90_X9_within (n := 3) rfl (by decide +kernel) ⟨rfl, rfl, Nat.le_of_ble_eq_true rfl, Nat.le_of_ble_eq_true rfl⟩ hPD hS [] [0, 1, 2, 3] [0, 1, 2, 3] (wr := (wX9 G h0 a0 wk f0 A0 ++ (wX7 G (a0 0) a1 f1 A1))) (wN := (wX9 G h0 a0 wk f0 A0 ++ (wX7 G (a0 0) a1 f1 A1))) rfl rfl rfl rfl rfl hl.1 (Nat.le_of_ble_eq_true rfl) dX9_odds_4 (fun H locs hPD hS => ?_)
  refine lv_if_eq (tgt := 30) hx hb dX9_odds_7 (by decide) (fun cc1 => ?_) (fun cc1 => ?_)
  · have h := (if_pos cc1).symm.trans h
    refine lv_iconst (v := (-1)) hx hb dX9_odds_30 (by decide) ?_
    obtain rfl := Option.some.inj h
    exact eI C0 hPD.1 hPD.2 hS rfl dX9_odds_31
  · have h := (if_neg cc1).symm.trans h
    refine lv_iload_n hx hb dX9_odds_10 rfl (lv_at hl 2 rfl) ?_
    refine lv_iconst (v := 0) hx hb dX9_odds_11 (by decide) ?_
    refine lv_iconst (v := 5) hx hb dX9_odds_12 (by decide) ?_
    refine kSI (As := [.int p2, .int 0, .int 5]) (rest := []) C0 (kt_X9_within l G  p2 0 5) gi_S_X9_90_X9_within (n := 3) rfl (by decide +kernel) ⟨rfl, rfl, Nat.le_of_ble_eq_true rfl, Nat.le_of_ble_eq_true rfl⟩ hPD hS [] [0, 1, 2, 3] [0, 1, 2, 3] (wr := (wX9 G h0 a0 wk f0 A0 ++ (wX7 G (a0 0) a1 f1 A1))) (wN := (wX9 G h0 a0 wk f0 A0 ++ (wX7 G (a0 0) a1 f1 A1))) rfl rfl rfl rfl rfl hl.1 (Nat.le_of_ble_eq_true rfl) dX9_odds_13 (fun H locs hPD hS => ?_)
    refine lv_if_eq (tgt := 30) hx hb dX9_odds_16 (by decide) (fun cc1 => ?_) (fun cc1 => ?_)
    · have h := (if_pos cc1).symm.trans h
      refine lv_iconst (v := (-1)) hx hb dX9_odds_30 (by decide) ?_
      obtain rfl := Option.some.inj h
      exact eI C0 hPD.1 hPD.2 hS rfl dX9_odds_31
    · have h := (if_neg cc1).symm.trans h
      refine lv_aload_n hx hb dX9_odds_19 rfl (lv_at hl 0 rfl) ?_
      refine va_get (D := G.1) (ci := 9) (v := .ref (a0 0)) (C := RX9) (T := TX9) (N := 15) hx hb hts inlX9 hown hK hPD.1 0 rfl rfl 0 (by decide) (hts _ gw_363) (fun _ h9 => h9) rfl dX9_odds_20 ?_
      refine lv_iload_n hx hb dX9_odds_23 rfl (lv_at hl 1 rfl) ?_
      refine kVI (As := [.int p1]) (rest := []) C0 (kt_X7_holds l G (a0 0) a1 f1 A1 p1) gi_V_X9_132_X7_holds (n := 1) rfl (by decide +kernel) rfl ⟨rfl, rfl, Nat.le_of_ble_eq_true rfl, Nat.le_of_ble_eq_true rfl⟩ hPD hS 2 7 rfl rfl rfl [2, 3] [0, 1] [0, 1, 2, 3] (wr := (wX9 G h0 a0 wk f0 A0)) (wN := (wX9 G h0 a0 wk f0 A0 ++ (wX7 G (a0 0) a1 f1 A1))) rfl rfl rfl rfl rfl hl.1 (Nat.le_of_ble_eq_true rfl) dX9_odds_24 (fun H locs hPD hS => ?_)
      refine lv_if_ne (tgt := 32) hx hb dX9_odds_27 (by decide) (fun cc1 => ?_) (fun cc1 => ?_)
      · have h := (if_neg cc1).symm.trans h
        refine lv_aload_n hx hb dX9_odds_32 rfl (lv_at hl 0 rfl) ?_
        refine va_get (D := G.1) (ci := 9) (v := .ref (a0 0)) (C := RX9) (T := TX9) (N := 15) hx hb hts inlX9 hown hK hPD.1 0 rfl rfl 0 (by decide) (hts _ gw_363) (fun _ h9 => h9) rfl dX9_odds_33 ?_
        refine lv_iload_n hx hb dX9_odds_36 rfl (lv_at hl 1 rfl) ?_
        obtain ⟨z_1, ez_1, h⟩ := lvl h
        have kc := kt_X7_open l G (a0 0) a1 f1 A1 p1
        rw [← ez_1] at kc
        clear ez_1
        refine kVV (As := [.int p1]) (rest := []) C0 (kc) gi_V_X9_135_X7_open (n := 1) rfl (by decide +kernel) rfl ⟨rfl, rfl, Nat.le_of_ble_eq_true rfl, Nat.le_of_ble_eq_true rfl⟩ hPD hS 2 7 rfl rfl rfl [2, 3] [0, 1] [0, 1, 2, 3] (wr := (wX9 G h0 a0 wk f0 A0)) (wN := (wX9 G h0 a0 wk f0 A0 ++ (wX7 G (a0 0) a1 z_1 A1))) rfl rfl rfl rfl rfl hl.1 (Nat.le_of_ble_eq_true rfl) dX9_odds_37 (fun H locs hPD hS => ?_)
        refine lv_iconst (v := 1) hx hb dX9_odds_40 (by decide) ?_
        refine lv_istore_n (lv' := [(3, .int 1), (0, .ref h0), (1, .int p1), (2, .int p2)]) hx hb dX9_odds_41 rfl hl (by decide) rfl (fun ls hl => ?_)
        refine lv_iconst (v := 1) hx hb dX9_odds_42 (by decide) ?_
        refine lv_istore (lv' := [(4, .int 1), (3, .int 1), (0, .ref h0), (1, .int p1), (2, .int p2)]) hx hb dX9_odds_43 hl (by decide) rfl (fun ls hl => ?_)
        refine lv_iconst (v := 1) hx hb dX9_odds_45 (by decide) ?_
        refine lv_istore (lv' := [(5, .int 1), (4, .int 1), (3, .int 1), (0, .ref h0), (1, .int p1), (2, .int p2)]) hx hb dX9_odds_46 hl (by decide) rfl (fun ls hl => ?_)
        refine lv_iconst (v := 0) hx hb dX9_odds_48 (by decide) ?_
        refine lv_istore (lv' := [(6, .int 0), (5, .int 1), (4, .int 1), (3, .int 1), (0, .ref h0), (1, .int p1), (2, .int p2)]) hx hb dX9_odds_49 hl (by decide) rfl (fun ls hl => ?_)
        exact ww_f9_odds_l51 C0 NF z_1 1 1 1 0 h _ _ _ hPD hS (lv_sub hl [4, 5, 6, 3, 2, 1, 0] rfl)
      · have h := (if_pos cc1).symm.trans h
        refine lv_iconst (v := (-1)) hx hb dX9_odds_30 (by decide) ?_
        obtain rfl := Option.some.inj h
        exact eI C0 hPD.1 hPD.2 hS rfl dX9_odds_31
abbrev rmX10_in : Room := { frames := 0, cells := 0, slots := 0, locals := 0 }
set_option maxRecDepth 100000 in
set_option maxHeartbeats 4000000 in
theorem kt_X10_in (l : Launch) (G : Gp) (p0 : Int32) (p1 : Int32) (p2 : Int32) : CtrI l yX10_in cX10_in 3 (some .boolean) rmX10_in G [.int p0, .int p1, .int p2] ([] : va_W) (f10_in p0 p1 p2) ([] : va_W) := by
  obtain ⟨res, h⟩ : ∃ res, f10_in p0 p1 p2 = res := ⟨_, rfl⟩
  rw [h]
  refine ctrI_of (cc := cX10_in) (maxL := 3) (ret := (some .boolean)) (by decide +kernel) rfl (Nat.le_of_ble_eq_true rfl) (fun p e s m below meth c DA C0 hP hD ls hl => ?_)
  have hPD : WD G DA ([] : va_W) s.heap := ⟨hP, hD⟩
  have hS : va_S DA s.heap s.heap [] := va_S.rf
  have hl : lv_has ls 3 [(0, .int p0), (1, .int p1), (2, .int p2)] := hl
  obtain ⟨hx, hb, hml, hown, hts⟩ := C0.1
  have hK := C0.2.2.2.1
  unfold f10_in at h
  refine lv_iload_n hx hb dX10_in_0 rfl (lv_at hl 0 rfl) ?_
  refine lv_iload_n hx hb dX10_in_1 rfl (lv_at hl 1 rfl) ?_
  refine lv_icmp_lt (tgt := 14) hx hb dX10_in_2 (by decide) (fun cc1 => ?_) (fun cc1 => ?_)
  · have h := (if_pos cc1).symm.trans h
    refine lv_iconst (v := 0) hx hb dX10_in_14 (by decide) ?_
    subst h
    exact eZ C0 hPD.1 hPD.2 hS rfl rfl dX10_in_15
  · have h := (if_neg cc1).symm.trans h
    refine lv_iload_n hx hb dX10_in_5 rfl (lv_at hl 0 rfl) ?_
    refine lv_iload_n hx hb dX10_in_6 rfl (lv_at hl 2 rfl) ?_
    refine lv_icmp_gt (tgt := 14) hx hb dX10_in_7 (by decide) (fun cc1 => ?_) (fun cc1 => ?_)
    · have h := (if_pos cc1).symm.trans h
      refine lv_iconst (v := 0) hx hb dX10_in_14 (by decide) ?_
      subst h
      exact eZ C0 hPD.1 hPD.2 hS rfl rfl dX10_in_15
    · have h := (if_neg cc1).symm.trans h
      refine lv_iconst (v := 1) hx hb dX10_in_10 (by decide) ?_
      refine lv_goto (tgt := 15) hx hb dX10_in_11 (by decide) ?_
      subst h
      exact eZ C0 hPD.1 hPD.2 hS rfl rfl dX10_in_15
abbrev rmX10_min : Room := { frames := 0, cells := 0, slots := 0, locals := 0 }
set_option maxRecDepth 100000 in
set_option maxHeartbeats 4000000 in
theorem kt_X10_min (l : Launch) (G : Gp) (p0 : Int32) (p1 : Int32) : CtrI l yX10_min cX10_min 2 (some .int) rmX10_min G [.int p0, .int p1] ([] : va_W) (f10_min p0 p1) ([] : va_W) := by
  obtain ⟨res, h⟩ : ∃ res, f10_min p0 p1 = res := ⟨_, rfl⟩
  rw [h]
  refine ctrI_of (cc := cX10_min) (maxL := 2) (ret := (some .int)) (by decide +kernel) rfl (Nat.le_of_ble_eq_true rfl) (fun p e s m below meth c DA C0 hP hD ls hl => ?_)
  have hPD : WD G DA ([] : va_W) s.heap := ⟨hP, hD⟩
  have hS : va_S DA s.heap s.heap [] := va_S.rf
  have hl : lv_has ls 2 [(0, .int p0), (1, .int p1)] := hl
  obtain ⟨hx, hb, hml, hown, hts⟩ := C0.1
  have hK := C0.2.2.2.1
  unfold f10_min at h
  refine lv_iload_n hx hb dX10_min_0 rfl (lv_at hl 0 rfl) ?_
  refine lv_iload_n hx hb dX10_min_1 rfl (lv_at hl 1 rfl) ?_
  refine lv_icmp_ge (tgt := 9) hx hb dX10_min_2 (by decide) (fun cc1 => ?_) (fun cc1 => ?_)
  · have h := (if_pos cc1).symm.trans h
    refine lv_iload_n hx hb dX10_min_9 rfl (lv_at hl 1 rfl) ?_
    subst h
    exact eI C0 hPD.1 hPD.2 hS rfl dX10_min_10
  · have h := (if_neg cc1).symm.trans h
    refine lv_iload_n hx hb dX10_min_5 rfl (lv_at hl 0 rfl) ?_
    refine lv_goto (tgt := 10) hx hb dX10_min_6 (by decide) ?_
    subst h
    exact eI C0 hPD.1 hPD.2 hS rfl dX10_min_10
abbrev rmX10_max : Room := { frames := 0, cells := 0, slots := 0, locals := 0 }
set_option maxRecDepth 100000 in
set_option maxHeartbeats 4000000 in
theorem kt_X10_max (l : Launch) (G : Gp) (p0 : Int32) (p1 : Int32) : CtrI l yX10_max cX10_max 2 (some .int) rmX10_max G [.int p0, .int p1] ([] : va_W) (f10_max p0 p1) ([] : va_W) := by
  obtain ⟨res, h⟩ : ∃ res, f10_max p0 p1 = res := ⟨_, rfl⟩
  rw [h]
  refine ctrI_of (cc := cX10_max) (maxL := 2) (ret := (some .int)) (by decide +kernel) rfl (Nat.le_of_ble_eq_true rfl) (fun p e s m below meth c DA C0 hP hD ls hl => ?_)
  have hPD : WD G DA ([] : va_W) s.heap := ⟨hP, hD⟩
  have hS : va_S DA s.heap s.heap [] := va_S.rf
  have hl : lv_has ls 2 [(0, .int p0), (1, .int p1)] := hl
  obtain ⟨hx, hb, hml, hown, hts⟩ := C0.1
  have hK := C0.2.2.2.1
  unfold f10_max at h
  refine lv_iload_n hx hb dX10_max_0 rfl (lv_at hl 0 rfl) ?_
  refine lv_iload_n hx hb dX10_max_1 rfl (lv_at hl 1 rfl) ?_
  refine lv_icmp_le (tgt := 9) hx hb dX10_max_2 (by decide) (fun cc1 => ?_) (fun cc1 => ?_)
  · have h := (if_pos cc1).symm.trans h
    refine lv_iload_n hx hb dX10_max_9 rfl (lv_at hl 1 rfl) ?_
    subst h
    exact eI C0 hPD.1 hPD.2 hS rfl dX10_max_10
  · have h := (if_neg cc1).symm.trans h
    refine lv_iload_n hx hb dX10_max_5 rfl (lv_at hl 0 rfl) ?_
    refine lv_goto (tgt := 10) hx hb dX10_max_6 (by decide) ?_
    subst h
    exact eI C0 hPD.1 hPD.2 hS rfl dX10_max_10
abbrev rmX10_has : Room := { frames := 0, cells := 0, slots := 0, locals := 0 }
set_option maxRecDepth 100000 in
set_option maxHeartbeats 4000000 in
theorem kt_X10_has (l : Launch) (G : Gp) (p0 : Int32) (p1 : Int32) : CtrI l yX10_has cX10_has 2 (some .boolean) rmX10_has G [.int p0, .int p1] ([] : va_W) (f10_has p0 p1) ([] : va_W) := by
  obtain ⟨res, h⟩ : ∃ res, f10_has p0 p1 = res := ⟨_, rfl⟩
  rw [h]
  refine ctrI_of (cc := cX10_has) (maxL := 2) (ret := (some .boolean)) (by decide +kernel) rfl (Nat.le_of_ble_eq_true rfl) (fun p e s m below meth c DA C0 hP hD ls hl => ?_)
  have hPD : WD G DA ([] : va_W) s.heap := ⟨hP, hD⟩
  have hS : va_S DA s.heap s.heap [] := va_S.rf
  have hl : lv_has ls 2 [(0, .int p0), (1, .int p1)] := hl
  obtain ⟨hx, hb, hml, hown, hts⟩ := C0.1
  have hK := C0.2.2.2.1
  unfold f10_has at h
  refine lv_iload_n hx hb dX10_has_0 rfl (lv_at hl 0 rfl) ?_
  refine lv_iload_n hx hb dX10_has_1 rfl (lv_at hl 1 rfl) ?_
  refine lv_ishr hx hb dX10_has_2 ?_
  refine lv_iconst (v := 1) hx hb dX10_has_3 (by decide) ?_
  refine lv_iand hx hb dX10_has_4 ?_
  refine lv_iconst (v := 1) hx hb dX10_has_5 (by decide) ?_
  refine lv_icmp_ne (tgt := 13) hx hb dX10_has_6 (by decide) (fun cc1 => ?_) (fun cc1 => ?_)
  · have h := (if_neg cc1).symm.trans h
    refine lv_iconst (v := 0) hx hb dX10_has_13 (by decide) ?_
    subst h
    exact eZ C0 hPD.1 hPD.2 hS rfl rfl dX10_has_14
  · have h := (if_pos cc1).symm.trans h
    refine lv_iconst (v := 1) hx hb dX10_has_9 (by decide) ?_
    refine lv_goto (tgt := 14) hx hb dX10_has_10 (by decide) ?_
    subst h
    exact eZ C0 hPD.1 hPD.2 hS rfl rfl dX10_has_14
abbrev rmX10_bits : Room := { frames := 0, cells := 0, slots := 0, locals := 0 }
set_option maxRecDepth 100000 in
set_option maxHeartbeats 4000000 in
theorem ww_f10_bits_b4  (C0 : Cx cX10_bits 3 (some .int) RX10 p s m args meth c G DA) {p0 : Int32}  {k4 : Int32 → Int32 → Option (Int32)} {res : Int32}  (hk4 : ∀ (l1 : Int32) (l2 : Int32), k4 l1 l2 = some res → ∀ (H : Heap) (locs : List Loc) (ls : Array Slot), WD G DA ([] : va_W) H → va_S DA s.heap H locs → lv_has ls 3 [(0, .int p0), (1, .int l1), (2, .int l2)] → W p l e rmX10_bits s m args below meth c H locs 0 0 (MQ below (QI G DA res ([] : va_W)) args s 0 0 DA) (F0 m 4 ls [])) : ∀ (l1 : Int32) (l2 : Int32), f10_bits_b4 p0  k4 l1 l2 = some res → ∀ (H : Heap) (locs : List Loc) (ls : Array Slot), WD G DA ([] : va_W) H → va_S DA s.heap H locs → lv_has ls 3 [(0, .int p0), (1, .int l1), (2, .int l2)] → W p l e rmX10_bits s m args below meth c H locs 0 0 (MQ below (QI G DA res ([] : va_W)) args s 0 0 DA) (F0 m 4 ls []) := by
  obtain ⟨hx, hb, hml, hown, hts⟩ := C0.1
  have hK := C0.2.2.2.1
  intro l1 l2 h _ _ _ hPD hS hl
  unfold f10_bits_b4 at h
  refine lv_iload_n hx hb dX10_bits_4 rfl (lv_at hl 2 rfl) ?_
  refine lv_bipush (v := 16) hx hb dX10_bits_5 (by decide) ?_
  refine lv_icmp_ge (tgt := 24) hx hb dX10_bits_7 (by decide) (fun cc1 => ?_) (fun cc1 => ?_)
  · have h := (if_pos cc1).symm.trans h
    refine lv_iload_n hx hb dX10_bits_24 rfl (lv_at hl 1 rfl) ?_
    obtain rfl := Option.some.inj h
    exact eI C0 hPD.1 hPD.2 hS rfl dX10_bits_25
  · have h := (if_neg cc1).symm.trans h
    refine lv_iload_n hx hb dX10_bits_10 rfl (lv_at hl 1 rfl) ?_
    refine lv_iload_n hx hb dX10_bits_11 rfl (lv_at hl 0 rfl) ?_
    refine lv_iload_n hx hb dX10_bits_12 rfl (lv_at hl 2 rfl) ?_
    refine lv_ishr hx hb dX10_bits_13 ?_
    refine lv_iconst (v := 1) hx hb dX10_bits_14 (by decide) ?_
    refine lv_iand hx hb dX10_bits_15 ?_
    refine lv_iadd hx hb dX10_bits_16 ?_
    refine lv_istore_n (lv' := [(1, .int (l1 + ((shr p0 l2) &&& 1))), (0, .int p0), (2, .int l2)]) hx hb dX10_bits_17 rfl hl (by decide) rfl (fun ls hl => ?_)
    refine lv_iinc (v := l2 + 1) (lv' := [(2, .int (l2 + 1)), (1, .int (l1 + ((shr p0 l2) &&& 1))), (0, .int p0)]) hx hb dX10_bits_18 hl (k := 2) rfl rfl (by decide) rfl (fun ls hl => ?_)
    refine lv_goto (tgt := 4) hx hb dX10_bits_21 (by decide) ?_
    exact hk4 (l1 + ((shr p0 l2) &&& 1)) (l2 + 1) h _ _ _ hPD hS (lv_sub hl [2, 1, 0] rfl)
set_option maxRecDepth 100000 in
set_option maxHeartbeats 4000000 in
theorem ww_f10_bits_l4  (C0 : Cx cX10_bits 3 (some .int) RX10 p s m args meth c G DA) {p0 : Int32}   {res : Int32}  : ∀ (n : Nat) (l1 : Int32) (l2 : Int32), f10_bits_l4 p0  n l1 l2 = some res → ∀ (H : Heap) (locs : List Loc) (ls : Array Slot), WD G DA ([] : va_W) H → va_S DA s.heap H locs → lv_has ls 3 [(0, .int p0), (1, .int l1), (2, .int l2)] → W p l e rmX10_bits s m args below meth c H locs 0 0 (MQ below (QI G DA res ([] : va_W)) args s 0 0 DA) (F0 m 4 ls []) := by
  intro n
  induction n with
  | zero => intro l1 l2 h; cases h
  | succ n ih => intro l1 l2 h; exact ww_f10_bits_b4 C0  ih l1 l2 h
set_option maxRecDepth 100000 in
set_option maxHeartbeats 4000000 in
theorem kt_X10_bits (l : Launch) (G : Gp) (p0 : Int32) : ∀ {r : Int32}, f10_bits p0 = some r → CtrI l yX10_bits cX10_bits 3 (some .int) rmX10_bits G [.int p0] ([] : va_W) r ([] : va_W) := by
  intro res h
  refine ctrI_of (cc := cX10_bits) (maxL := 3) (ret := (some .int)) (by decide +kernel) rfl (Nat.le_of_ble_eq_true rfl) (fun p e s m below meth c DA C0 hP hD ls hl => ?_)
  have hPD : WD G DA ([] : va_W) s.heap := ⟨hP, hD⟩
  have hS : va_S DA s.heap s.heap [] := va_S.rf
  have hl : lv_has ls 3 [(0, .int p0)] := hl
  obtain ⟨hx, hb, hml, hown, hts⟩ := C0.1
  have hK := C0.2.2.2.1
  unfold f10_bits at h
  refine lv_iconst (v := 0) hx hb dX10_bits_0 (by decide) ?_
  refine lv_istore_n (lv' := [(1, .int 0), (0, .int p0)]) hx hb dX10_bits_1 rfl hl (by decide) rfl (fun ls hl => ?_)
  refine lv_iconst (v := 0) hx hb dX10_bits_2 (by decide) ?_
  refine lv_istore_n (lv' := [(2, .int 0), (1, .int 0), (0, .int p0)]) hx hb dX10_bits_3 rfl hl (by decide) rfl (fun ls hl => ?_)
  exact ww_f10_bits_l4 C0 NF 0 0 h _ _ _ hPD hS (lv_sub hl [2, 1, 0] rfl)
abbrev rmX10_copies : Room := { frames := 0, cells := 0, slots := 0, locals := 0 }
set_option maxRecDepth 100000 in
set_option maxHeartbeats 4000000 in
theorem ww_f10_copies_b2  (C0 : Cx cX10_copies 3 none RX10 p s m args meth c G DA) {q0 : Nat} {q1 : Nat} {n0 : Nat} {xs0 : Nat → Int32} {n1 : Nat} (hn0 : n0 < 2147483648) (hn1 : n1 < 2147483648) {k2 : (Nat → Int32) → Int32 → Option ((Nat → Int32))} {res : (Nat → Int32)}  (hk2 : ∀ (xs1 : Nat → Int32) (l2 : Int32), k2 xs1 l2 = some res → ∀ (H : Heap) (locs : List Loc) (ls : Array Slot), WD G DA (wI G q0 n0 xs0 ++ (wI G q1 n1 xs1)) H → va_S DA s.heap H locs → lv_has ls 3 [(0, .ref q0), (1, .ref q1), (2, .int l2)] → W p l e rmX10_copies s m args below meth c H locs 0 0 (MQ below (QV G DA (wI G q0 n0 xs0 ++ (wI G q1 n1 res))) args s 0 0 DA) (F0 m 2 ls [])) : ∀ (xs1 : Nat → Int32) (l2 : Int32), f10_copies_b2 n0 xs0 n1  k2 xs1 l2 = some res → ∀ (H : Heap) (locs : List Loc) (ls : Array Slot), WD G DA (wI G q0 n0 xs0 ++ (wI G q1 n1 xs1)) H → va_S DA s.heap H locs → lv_has ls 3 [(0, .ref q0), (1, .ref q1), (2, .int l2)] → W p l e rmX10_copies s m args below meth c H locs 0 0 (MQ below (QV G DA (wI G q0 n0 xs0 ++ (wI G q1 n1 res))) args s 0 0 DA) (F0 m 2 ls []) := by
  obtain ⟨hx, hb, hml, hown, hts⟩ := C0.1
  have hK := C0.2.2.2.1
  intro xs1 l2 h _ _ _ hPD hS hl
  unfold f10_copies_b2 at h
  refine lv_iload_n hx hb dX10_copies_2 rfl (lv_at hl 2 rfl) ?_
  refine lv_bipush (v := 76) hx hb dX10_copies_3 (by decide) ?_
  refine lv_icmp_ge (tgt := 20) hx hb dX10_copies_5 (by decide) (fun cc1 => ?_) (fun cc1 => ?_)
  · have h := (if_pos cc1).symm.trans h
    obtain rfl := Option.some.inj h
    exact eV C0 hPD.1 hPD.2 hS dX10_copies_20
  · have h := (if_neg cc1).symm.trans h
    refine lv_aload_n hx hb dX10_copies_8 rfl (lv_at hl 1 rfl) ?_
    refine lv_iload_n hx hb dX10_copies_9 rfl (lv_at hl 2 rfl) ?_
    refine lv_aload_n hx hb dX10_copies_10 rfl (lv_at hl 0 rfl) ?_
    refine lv_iload_n hx hb dX10_copies_11 rfl (lv_at hl 2 rfl) ?_
    obtain ⟨hi_1, h⟩ := ob h
    refine va_iald hx hb hK hPD.1 0 1 rfl rfl hi_1 dX10_copies_12 ?_
    obtain ⟨hi_2, h⟩ := ob h
    refine va_iast hx hb hK hPD.1 hPD.2 hS 1 1 rfl rfl hi_2 dX10_copies_13 (fun H locs hP hD hS => ?_)
    obtain ⟨y1_3, ey1_3, h⟩ := lvl h
    have hPD : WD G DA (wI G q0 n0 xs0 ++ (wI G q1 n1 y1_3)) H := by rw [ey1_3]; exact ⟨hP, hD⟩
    clear ey1_3 hP hD
    refine lv_iinc (v := l2 + 1) (lv' := [(2, .int (l2 + 1)), (0, .ref q0), (1, .ref q1)]) hx hb dX10_copies_14 hl (k := 2) rfl rfl (by decide) rfl (fun ls hl => ?_)
    refine lv_goto (tgt := 2) hx hb dX10_copies_17 (by decide) ?_
    exact hk2 y1_3 (l2 + 1) h _ _ _ hPD hS (lv_sub hl [1, 2, 0] rfl)
end WALK
