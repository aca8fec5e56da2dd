section WALK
variable {p : Program} {l : Launch} {e : Env} {s : State} {m : MethodId} {args : Array Value} {below : List Frame} {meth : Method} {c : Code} {G : Gp} {DA : Nat → Prop}
abbrev rmX10_reckon : Room := { frames := 0, cells := 0, slots := 0, locals := 0 }
set_option maxRecDepth 100000 in
set_option maxHeartbeats 4000000 in
theorem kt_X10_reckon (l : Launch) (G : Gp) (p0 : Int32) (p1 : Int32) (p2 : Int32) : ∀ {r : Int32}, f10_reckon p0 p1 p2 = some r → CtrI l yX10_reckon cX10_reckon 3 (some .int) rmX10_reckon G [.int p0, .int p1, .int p2] ([] : va_W) r ([] : va_W) := by
  intro res h
  refine ctrI_of (cc := cX10_reckon) (maxL := 3) (ret := (some .int)) (by decide +kernel) rfl (Nat.le_of_ble_eq_true rfl) (fun p e s m below meth c DA C0 hP hD ls hl => ?_)
  have hPD : WD G DA ([] : va_W) s.heap := ⟨hP, hD⟩
  have hS : va_S DA s.heap s.heap [] := va_S.rf
  have hl : lv_has ls 3 [(0, .int p0), (1, .int p1), (2, .int p2)] := hl
  obtain ⟨hx, hb, hml, hown, hts⟩ := C0.1
  have hK := C0.2.2.2.1
  unfold f10_reckon at h
  refine lv_iload_n hx hb dX10_reckon_0 rfl (lv_at hl 0 rfl) ?_
  by_cases cc2 : p0 = 2
  · have h := (if_pos cc2).symm.trans h
    refine lv_swT (tgt := 44) (k := 2) hx hb dX10_reckon_1 cc2 (by decide) (by decide) ?_
    refine lv_iload_n hx hb dX10_reckon_44 rfl (lv_at hl 1 rfl) ?_
    refine lv_iload_n hx hb dX10_reckon_45 rfl (lv_at hl 2 rfl) ?_
    refine lv_iadd hx hb dX10_reckon_46 ?_
    obtain rfl := Option.some.inj h
    exact eI C0 hPD.1 hPD.2 hS rfl dX10_reckon_47
  have h := (if_neg cc2).symm.trans h
  by_cases cc3 : p0 = 3
  · have h := (if_pos cc3).symm.trans h
    refine lv_swT (tgt := 48) (k := 3) hx hb dX10_reckon_1 cc3 (by decide) (by decide) ?_
    refine lv_iload_n hx hb dX10_reckon_48 rfl (lv_at hl 1 rfl) ?_
    refine lv_iload_n hx hb dX10_reckon_49 rfl (lv_at hl 2 rfl) ?_
    refine lv_isub hx hb dX10_reckon_50 ?_
    obtain rfl := Option.some.inj h
    exact eI C0 hPD.1 hPD.2 hS rfl dX10_reckon_51
  have h := (if_neg cc3).symm.trans h
  by_cases cc4 : p0 = 4
  · have h := (if_pos cc4).symm.trans h
    refine lv_swT (tgt := 52) (k := 4) hx hb dX10_reckon_1 cc4 (by decide) (by decide) ?_
    refine lv_iload_n hx hb dX10_reckon_52 rfl (lv_at hl 1 rfl) ?_
    refine lv_iload_n hx hb dX10_reckon_53 rfl (lv_at hl 2 rfl) ?_
    refine lv_imul hx hb dX10_reckon_54 ?_
    obtain rfl := Option.some.inj h
    exact eI C0 hPD.1 hPD.2 hS rfl dX10_reckon_55
  have h := (if_neg cc4).symm.trans h
  by_cases cc5 : p0 = 5
  · have h := (if_pos cc5).symm.trans h
    refine lv_swT (tgt := 56) (k := 5) hx hb dX10_reckon_1 cc5 (by decide) (by decide) ?_
    refine lv_iload_n hx hb dX10_reckon_56 rfl (lv_at hl 1 rfl) ?_
    refine lv_iload_n hx hb dX10_reckon_57 rfl (lv_at hl 2 rfl) ?_
    obtain ⟨hz, h⟩ := ob h
    refine lv_idiv hx hb dX10_reckon_58 hz ?_
    obtain rfl := Option.some.inj h
    exact eI C0 hPD.1 hPD.2 hS rfl dX10_reckon_59
  have h := (if_neg cc5).symm.trans h
  by_cases cc6 : p0 = 6
  · have h := (if_pos cc6).symm.trans h
    refine lv_swT (tgt := 60) (k := 6) hx hb dX10_reckon_1 cc6 (by decide) (by decide) ?_
    refine lv_iload_n hx hb dX10_reckon_60 rfl (lv_at hl 1 rfl) ?_
    refine lv_iload_n hx hb dX10_reckon_61 rfl (lv_at hl 2 rfl) ?_
    obtain ⟨hz, h⟩ := ob h
    refine lv_irem hx hb dX10_reckon_62 hz ?_
    obtain rfl := Option.some.inj h
    exact eI C0 hPD.1 hPD.2 hS rfl dX10_reckon_63
  have h := (if_neg cc6).symm.trans h
  by_cases cc7 : p0 = 7
  · have h := (if_pos cc7).symm.trans h
    refine lv_swT (tgt := 64) (k := 7) hx hb dX10_reckon_1 cc7 (by decide) (by decide) ?_
    refine lv_iload_n hx hb dX10_reckon_64 rfl (lv_at hl 1 rfl) ?_
    refine lv_iload_n hx hb dX10_reckon_65 rfl (lv_at hl 2 rfl) ?_
    refine lv_icmp_ge (tgt := 73) hx hb dX10_reckon_66 (by decide) (fun cc1 => ?_) (fun cc1 => ?_)
    · have h := (if_pos cc1).symm.trans h
      refine lv_iconst (v := 0) hx hb dX10_reckon_73 (by decide) ?_
      obtain rfl := Option.some.inj h
      exact eI C0 hPD.1 hPD.2 hS rfl dX10_reckon_74
    · have h := (if_neg cc1).symm.trans h
      refine lv_iconst (v := 1) hx hb dX10_reckon_69 (by decide) ?_
      refine lv_goto (tgt := 74) hx hb dX10_reckon_70 (by decide) ?_
      obtain rfl := Option.some.inj h
      exact eI C0 hPD.1 hPD.2 hS rfl dX10_reckon_74
  have h := (if_neg cc7).symm.trans h
  by_cases cc8 : p0 = 8
  · have h := (if_pos cc8).symm.trans h
    refine lv_swT (tgt := 75) (k := 8) hx hb dX10_reckon_1 cc8 (by decide) (by decide) ?_
    refine lv_iload_n hx hb dX10_reckon_75 rfl (lv_at hl 1 rfl) ?_
    refine lv_iload_n hx hb dX10_reckon_76 rfl (lv_at hl 2 rfl) ?_
    refine lv_icmp_le (tgt := 84) hx hb dX10_reckon_77 (by decide) (fun cc1 => ?_) (fun cc1 => ?_)
    · have h := (if_pos cc1).symm.trans h
      refine lv_iconst (v := 0) hx hb dX10_reckon_84 (by decide) ?_
      obtain rfl := Option.some.inj h
      exact eI C0 hPD.1 hPD.2 hS rfl dX10_reckon_85
    · have h := (if_neg cc1).symm.trans h
      refine lv_iconst (v := 1) hx hb dX10_reckon_80 (by decide) ?_
      refine lv_goto (tgt := 85) hx hb dX10_reckon_81 (by decide) ?_
      obtain rfl := Option.some.inj h
      exact eI C0 hPD.1 hPD.2 hS rfl dX10_reckon_85
  have h := (if_neg cc8).symm.trans h
  refine lv_swTD (tgt := 86) (ks := [2, 3, 4, 5, 6, 7, 8]) hx hb dX10_reckon_1 (by decide) (by decide) ⟨cc2, cc3, cc4, cc5, cc6, cc7, cc8, trivial⟩ (by decide) ?_
  refine lv_iload_n hx hb dX10_reckon_86 rfl (lv_at hl 1 rfl) ?_
  refine lv_iload_n hx hb dX10_reckon_87 rfl (lv_at hl 2 rfl) ?_
  refine lv_icmp_ne (tgt := 95) hx hb dX10_reckon_88 (by decide) (fun cc1 => ?_) (fun cc1 => ?_)
  · have h := (if_neg cc1).symm.trans h
    refine lv_iconst (v := 0) hx hb dX10_reckon_95 (by decide) ?_
    obtain rfl := Option.some.inj h
    exact eI C0 hPD.1 hPD.2 hS rfl dX10_reckon_96
  · have h := (if_pos cc1).symm.trans h
    refine lv_iconst (v := 1) hx hb dX10_reckon_91 (by decide) ?_
    refine lv_goto (tgt := 96) hx hb dX10_reckon_92 (by decide) ?_
    obtain rfl := Option.some.inj h
    exact eI C0 hPD.1 hPD.2 hS rfl dX10_reckon_96
abbrev rmX10_comesTo : Room := { frames := 1, cells := 0, slots := 0, locals := 22 }
set_option maxRecDepth 100000 in
set_option maxHeartbeats 4000000 in
theorem ww_f10_comesTo_b63  (C0 : Cx cX10_comesTo 8 (some .int) RX10 p s m args meth c G DA) {h0 : Nat} {a0 : Nat → Nat} {f0 : Nat → Int32} {p1 : Int32} {p2 : Int32}  {k16 : (Nat → Nat → Int32) → Int32 → Int32 → Int32 → Option (Int32 × (Nat → Nat → Int32))} {res : Int32 × (Nat → Nat → Int32)} (hk16 : ∀ (A0 : Nat → Nat → Int32) (l3 : Int32) (l4 : Int32) (l5 : Int32), k16 A0 l3 l4 l5 = some res → ∀ (H : Heap) (locs : List Loc) (ls : Array Slot), WD G DA (wX10 G h0 a0 f0 A0) H → va_S DA s.heap H locs → lv_has ls 8 [(0, .ref h0), (1, .int p1), (2, .int p2), (3, .int l3), (4, .int l4), (5, .int l5)] → W p l e rmX10_comesTo s m args below meth c H locs 0 0 (MQ below (QI G DA res.1 (wX10 G h0 a0 f0 res.2)) args s 0 0 DA) (F0 m 16 ls [])) : ∀ (A0 : Nat → Nat → Int32) (l3 : Int32) (l4 : Int32) (l5 : Int32) (l6 : Int32) (l7 : Int32), f10_comesTo_b63 f0 p1 p2 k16 A0 l3 l4 l5 l6 l7 = some res → ∀ (H : Heap) (locs : List Loc) (ls : Array Slot), WD G DA (wX10 G h0 a0 f0 A0) H → va_S DA s.heap H locs → lv_has ls 8 [(0, .ref h0), (1, .int p1), (2, .int p2), (3, .int l3), (4, .int l4), (5, .int l5), (6, .int l6), (7, .int l7)] → W p l e rmX10_comesTo s m args below meth c H locs 0 0 (MQ below (QI G DA res.1 (wX10 G h0 a0 f0 res.2)) args s 0 0 DA) (F0 m 63 ls []) := by
  obtain ⟨hx, hb, hml, hown, hts⟩ := C0.1
  have hK := C0.2.2.2.1
  intro A0 l3 l4 l5 l6 l7 h _ _ _ hPD hS hl
  unfold f10_comesTo_b63 at h
  refine lv_aload_n hx hb dX10_comesTo_63 rfl (lv_at hl 0 rfl) ?_
  refine va_get (D := G.1) (ci := 10) (v := .ref (a0 29)) (C := RX10) (T := TX10) (N := 52) hx hb hts inlX10 hown hK hPD.1 0 rfl rfl 29 (by decide) (hts _ gw_654) (fun _ h9 => h9) rfl dX10_comesTo_64 ?_
  refine lv_iload_n hx hb dX10_comesTo_67 rfl (lv_at hl 3 rfl) ?_
  refine lv_iload hx hb dX10_comesTo_68 (lv_at hl 6 rfl) ?_
  refine lv_if_ne (tgt := 78) hx hb dX10_comesTo_70 (by decide) (fun cc1 => ?_) (fun cc1 => ?_)
  · have h := (if_neg cc1).symm.trans h
    refine lv_aload_n hx hb dX10_comesTo_78 rfl (lv_at hl 0 rfl) ?_
    refine va_get (D := G.1) (ci := 10) (v := .ref (a0 30)) (C := RX10) (T := TX10) (N := 52) hx hb hts inlX10 hown hK hPD.1 0 rfl rfl 30 (by decide) (hts _ gw_655) (fun _ h9 => h9) rfl dX10_comesTo_79 ?_
    refine lv_iload hx hb dX10_comesTo_82 (lv_at hl 7 rfl) ?_
    obtain ⟨hi_3, h⟩ := ob h
    refine va_iald hx hb hK hPD.1 20 1 rfl rfl hi_3 dX10_comesTo_84 ?_
    obtain ⟨hi_4, h⟩ := ob h
    refine va_iast hx hb hK hPD.1 hPD.2 hS 19 1 rfl rfl hi_4 dX10_comesTo_85 (fun H locs hP hD hS => ?_)
    obtain ⟨A0_5, eA0_5, h⟩ := lvl h
    have hPD : WD G DA (wX10 G h0 a0 f0 A0_5) H := by rw [eA0_5]; exact ⟨hP, hD⟩
    clear eA0_5 hP hD
    refine lv_iload_n hx hb dX10_comesTo_86 rfl (lv_at hl 3 rfl) ?_
    refine lv_iconst (v := 1) hx hb dX10_comesTo_87 (by decide) ?_
    refine lv_iadd hx hb dX10_comesTo_88 ?_
    refine lv_istore_n (lv' := [(3, .int (l3 + 1)), (0, .ref h0), (1, .int p1), (2, .int p2), (4, .int l4), (5, .int l5), (6, .int l6), (7, .int l7)]) hx hb dX10_comesTo_89 rfl hl (by decide) rfl (fun ls hl => ?_)
    refine lv_goto (tgt := 230) hx hb dX10_comesTo_90 (by decide) ?_
    refine lv_goto (tgt := 16) hx hb dX10_comesTo_230 (by decide) ?_
    exact hk16 A0_5 (l3 + 1) l4 l5 h _ _ _ hPD hS (lv_sub hl [1, 2, 3, 0, 4, 5] rfl)
  · have h := (if_pos cc1).symm.trans h
    refine lv_iload hx hb dX10_comesTo_73 (lv_at hl 7 rfl) ?_
    refine lv_goto (tgt := 85) hx hb dX10_comesTo_75 (by decide) ?_
    obtain ⟨hi_6, h⟩ := ob h
    refine va_iast hx hb hK hPD.1 hPD.2 hS 19 1 rfl rfl hi_6 dX10_comesTo_85 (fun H locs hP hD hS => ?_)
    obtain ⟨A0_7, eA0_7, h⟩ := lvl h
    have hPD : WD G DA (wX10 G h0 a0 f0 A0_7) H := by rw [eA0_7]; exact ⟨hP, hD⟩
    clear eA0_7 hP hD
    refine lv_iload_n hx hb dX10_comesTo_86 rfl (lv_at hl 3 rfl) ?_
    refine lv_iconst (v := 1) hx hb dX10_comesTo_87 (by decide) ?_
    refine lv_iadd hx hb dX10_comesTo_88 ?_
    refine lv_istore_n (lv' := [(3, .int (l3 + 1)), (0, .ref h0), (1, .int p1), (2, .int p2), (4, .int l4), (5, .int l5), (6, .int l6), (7, .int l7)]) hx hb dX10_comesTo_89 rfl hl (by decide) rfl (fun ls hl => ?_)
    refine lv_goto (tgt := 230) hx hb dX10_comesTo_90 (by decide) ?_
    refine lv_goto (tgt := 16) hx hb dX10_comesTo_230 (by decide) ?_
    exact hk16 A0_7 (l3 + 1) l4 l5 h _ _ _ hPD hS (lv_sub hl [1, 2, 3, 0, 4, 5] rfl)
set_option maxRecDepth 100000 in
set_option maxHeartbeats 4000000 in
theorem ww_f10_comesTo_b155  (C0 : Cx cX10_comesTo 8 (some .int) RX10 p s m args meth c G DA) {h0 : Nat} {a0 : Nat → Nat} {f0 : Nat → Int32} {p1 : Int32} {p2 : Int32}  {k16 : (Nat → Nat → Int32) → Int32 → Int32 → Int32 → Option (Int32 × (Nat → Nat → Int32))} {res : Int32 × (Nat → Nat → Int32)} (hk16 : ∀ (A0 : Nat → Nat → Int32) (l3 : Int32) (l4 : Int32) (l5 : Int32), k16 A0 l3 l4 l5 = some res → ∀ (H : Heap) (locs : List Loc) (ls : Array Slot), WD G DA (wX10 G h0 a0 f0 A0) H → va_S DA s.heap H locs → lv_has ls 8 [(0, .ref h0), (1, .int p1), (2, .int p2), (3, .int l3), (4, .int l4), (5, .int l5)] → W p l e rmX10_comesTo s m args below meth c H locs 0 0 (MQ below (QI G DA res.1 (wX10 G h0 a0 f0 res.2)) args s 0 0 DA) (F0 m 16 ls [])) : ∀ (A0 : Nat → Nat → Int32) (l3 : Int32) (l4 : Int32) (l5 : Int32) (l7 : Int32) (s0 : Int32) (s1 : Int32), f10_comesTo_b155 f0 p1 p2 k16 A0 l3 l4 l5 l7 s0 s1 = some res → ∀ (H : Heap) (locs : List Loc) (ls : Array Slot), WD G DA (wX10 G h0 a0 f0 A0) H → va_S DA s.heap H locs → lv_has ls 8 [(0, .ref h0), (1, .int p1), (2, .int p2), (3, .int l3), (4, .int l4), (5, .int l5), (7, .int l7)] → W p l e rmX10_comesTo s m args below meth c H locs 0 0 (MQ below (QI G DA res.1 (wX10 G h0 a0 f0 res.2)) args s 0 0 DA) (F0 m 155 ls [.int s0, .int s1]) := by
  obtain ⟨hx, hb, hml, hown, hts⟩ := C0.1
  have hK := C0.2.2.2.1
  intro A0 l3 l4 l5 l7 s0 s1 h _ _ _ hPD hS hl
  unfold f10_comesTo_b155 at h
  refine lv_icmp_ne (tgt := 168) hx hb dX10_comesTo_155 (by decide) (fun cc1 => ?_) (fun cc1 => ?_)
  · have h := (if_neg cc1).symm.trans h
    refine lv_iload_n hx hb dX10_comesTo_168 rfl (lv_at hl 3 rfl) ?_
    refine lv_iconst (v := 1) hx hb dX10_comesTo_169 (by decide) ?_
    refine lv_isub hx hb dX10_comesTo_170 ?_
    refine lv_istore_n (lv' := [(3, .int (l3 - 1)), (0, .ref h0), (1, .int p1), (2, .int p2), (4, .int l4), (5, .int l5), (7, .int l7)]) hx hb dX10_comesTo_171 rfl hl (by decide) rfl (fun ls hl => ?_)
    refine lv_goto (tgt := 230) hx hb dX10_comesTo_172 (by decide) ?_
    refine lv_goto (tgt := 16) hx hb dX10_comesTo_230 (by decide) ?_
    exact hk16 A0 (l3 - 1) l4 l5 h _ _ _ hPD hS (lv_sub hl [1, 2, 3, 0, 4, 5] rfl)
  · have h := (if_pos cc1).symm.trans h
    refine lv_iload hx hb dX10_comesTo_158 (lv_at hl 4 rfl) ?_
    refine lv_iload hx hb dX10_comesTo_160 (lv_at hl 6 rfl) ?_
    refine lv_iadd hx hb dX10_comesTo_162 ?_
    refine lv_istore (lv' := [(5, .int (l4 + l7)), (0, .ref h0), (1, .int p1), (2, .int p2), (3, .int l3), (4, .int l4), (7, .int l7)]) hx hb dX10_comesTo_163 hl (by decide) rfl (fun ls hl => ?_)
    refine lv_goto (tgt := 230) hx hb dX10_comesTo_165 (by decide) ?_
    refine lv_goto (tgt := 16) hx hb dX10_comesTo_230 (by decide) ?_
    exact hk16 A0 l3 l4 (l4 + l7) h _ _ _ hPD hS (lv_sub hl [1, 2, 3, 4, 5, 0] rfl)
set_option maxRecDepth 100000 in
set_option maxHeartbeats 4000000 in
theorem ww_f10_comesTo_b135  (C0 : Cx cX10_comesTo 8 (some .int) RX10 p s m args meth c G DA) {h0 : Nat} {a0 : Nat → Nat} {f0 : Nat → Int32} {p1 : Int32} {p2 : Int32}  {k16 : (Nat → Nat → Int32) → Int32 → Int32 → Int32 → Option (Int32 × (Nat → Nat → Int32))} {res : Int32 × (Nat → Nat → Int32)} (hk16 : ∀ (A0 : Nat → Nat → Int32) (l3 : Int32) (l4 : Int32) (l5 : Int32), k16 A0 l3 l4 l5 = some res → ∀ (H : Heap) (locs : List Loc) (ls : Array Slot), WD G DA (wX10 G h0 a0 f0 A0) H → va_S DA s.heap H locs → lv_has ls 8 [(0, .ref h0), (1, .int p1), (2, .int p2), (3, .int l3), (4, .int l4), (5, .int l5)] → W p l e rmX10_comesTo s m args below meth c H locs 0 0 (MQ below (QI G DA res.1 (wX10 G h0 a0 f0 res.2)) args s 0 0 DA) (F0 m 16 ls [])) : ∀ (A0 : Nat → Nat → Int32) (l3 : Int32) (l4 : Int32) (l5 : Int32) (l6 : Int32) (l7 : Int32), f10_comesTo_b135 f0 p1 p2 k16 A0 l3 l4 l5 l6 l7 = some res → ∀ (H : Heap) (locs : List Loc) (ls : Array Slot), WD G DA (wX10 G h0 a0 f0 A0) H → va_S DA s.heap H locs → lv_has ls 8 [(0, .ref h0), (1, .int p1), (2, .int p2), (3, .int l3), (4, .int l4), (5, .int l5), (6, .int l6), (7, .int l7)] → W p l e rmX10_comesTo s m args below meth c H locs 0 0 (MQ below (QI G DA res.1 (wX10 G h0 a0 f0 res.2)) args s 0 0 DA) (F0 m 135 ls []) := by
  obtain ⟨hx, hb, hml, hown, hts⟩ := C0.1
  have hK := C0.2.2.2.1
  intro A0 l3 l4 l5 l6 l7 h _ _ _ hPD hS hl
  unfold f10_comesTo_b135 at h
  refine lv_aload_n hx hb dX10_comesTo_135 rfl (lv_at hl 0 rfl) ?_
  refine va_get (D := G.1) (ci := 10) (v := .ref (a0 29)) (C := RX10) (T := TX10) (N := 52) hx hb hts inlX10 hown hK hPD.1 0 rfl rfl 29 (by decide) (hts _ gw_654) (fun _ h9 => h9) rfl dX10_comesTo_136 ?_
  refine lv_iload_n hx hb dX10_comesTo_139 rfl (lv_at hl 3 rfl) ?_
  refine lv_iconst (v := 1) hx hb dX10_comesTo_140 (by decide) ?_
  refine lv_isub hx hb dX10_comesTo_141 ?_
  obtain ⟨hi_8, h⟩ := ob h
  refine va_iald hx hb hK hPD.1 19 1 rfl rfl hi_8 dX10_comesTo_142 ?_
  refine lv_iload hx hb dX10_comesTo_143 (lv_at hl 6 rfl) ?_
  refine lv_bipush (v := 12) hx hb dX10_comesTo_145 (by decide) ?_
  refine lv_icmp_ne (tgt := 154) hx hb dX10_comesTo_147 (by decide) (fun cc1 => ?_) (fun cc1 => ?_)
  · have h := (if_neg cc1).symm.trans h
    refine lv_iconst (v := 0) hx hb dX10_comesTo_154 (by decide) ?_
    exact ww_f10_comesTo_b155 C0 hk16 A0 l3 l4 l5 l7 0 (gx (A0 29) (l3 - 1)) h _ _ _ hPD hS (lv_sub hl [0, 1, 2, 3, 4, 5, 7] rfl)
  · have h := (if_pos cc1).symm.trans h
    refine lv_iconst (v := 1) hx hb dX10_comesTo_150 (by decide) ?_
    refine lv_goto (tgt := 155) hx hb dX10_comesTo_151 (by decide) ?_
    exact ww_f10_comesTo_b155 C0 hk16 A0 l3 l4 l5 l7 1 (gx (A0 29) (l3 - 1)) h _ _ _ hPD hS (lv_sub hl [0, 1, 2, 3, 4, 5, 7] rfl)
set_option maxRecDepth 100000 in
set_option maxHeartbeats 4000000 in
theorem ww_f10_comesTo_b203  (C0 : Cx cX10_comesTo 8 (some .int) RX10 p s m args meth c G DA) {h0 : Nat} {a0 : Nat → Nat} {f0 : Nat → Int32} {p1 : Int32} {p2 : Int32}  {k16 : (Nat → Nat → Int32) → Int32 → Int32 → Int32 → Option (Int32 × (Nat → Nat → Int32))} {res : Int32 × (Nat → Nat → Int32)} (hk16 : ∀ (A0 : Nat → Nat → Int32) (l3 : Int32) (l4 : Int32) (l5 : Int32), k16 A0 l3 l4 l5 = some res → ∀ (H : Heap) (locs : List Loc) (ls : Array Slot), WD G DA (wX10 G h0 a0 f0 A0) H → va_S DA s.heap H locs → lv_has ls 8 [(0, .ref h0), (1, .int p1), (2, .int p2), (3, .int l3), (4, .int l4), (5, .int l5)] → W p l e rmX10_comesTo s m args below meth c H locs 0 0 (MQ below (QI G DA res.1 (wX10 G h0 a0 f0 res.2)) args s 0 0 DA) (F0 m 16 ls [])) : ∀ (A0 : Nat → Nat → Int32) (l3 : Int32) (l4 : Int32) (l5 : Int32) (l6 : Int32), f10_comesTo_b203 f0 p1 p2 k16 A0 l3 l4 l5 l6 = some res → ∀ (H : Heap) (locs : List Loc) (ls : Array Slot), WD G DA (wX10 G h0 a0 f0 A0) H → va_S DA s.heap H locs → lv_has ls 8 [(0, .ref h0), (1, .int p1), (2, .int p2), (3, .int l3), (4, .int l4), (5, .int l5), (6, .int l6)] → W p l e rmX10_comesTo s m args below meth c H locs 0 0 (MQ below (QI G DA res.1 (wX10 G h0 a0 f0 res.2)) args s 0 0 DA) (F0 m 203 ls []) := by
  obtain ⟨hx, hb, hml, hown, hts⟩ := C0.1
  have hK := C0.2.2.2.1
  intro A0 l3 l4 l5 l6 h _ _ _ hPD hS hl
  unfold f10_comesTo_b203 at h
  refine lv_aload_n hx hb dX10_comesTo_203 rfl (lv_at hl 0 rfl) ?_
  refine va_get (D := G.1) (ci := 10) (v := .ref (a0 29)) (C := RX10) (T := TX10) (N := 52) hx hb hts inlX10 hown hK hPD.1 0 rfl rfl 29 (by decide) (hts _ gw_654) (fun _ h9 => h9) rfl dX10_comesTo_204 ?_
  refine lv_iload_n hx hb dX10_comesTo_207 rfl (lv_at hl 3 rfl) ?_
  refine lv_iconst (v := 1) hx hb dX10_comesTo_208 (by decide) ?_
  refine lv_isub hx hb dX10_comesTo_209 ?_
  refine lv_iload hx hb dX10_comesTo_210 (lv_at hl 6 rfl) ?_
  refine lv_aload_n hx hb dX10_comesTo_212 rfl (lv_at hl 0 rfl) ?_
  refine va_get (D := G.1) (ci := 10) (v := .ref (a0 29)) (C := RX10) (T := TX10) (N := 52) hx hb hts inlX10 hown hK hPD.1 0 rfl rfl 29 (by decide) (hts _ gw_654) (fun _ h9 => h9) rfl dX10_comesTo_213 ?_
  refine lv_iload_n hx hb dX10_comesTo_216 rfl (lv_at hl 3 rfl) ?_
  refine lv_iconst (v := 1) hx hb dX10_comesTo_217 (by decide) ?_
  refine lv_isub hx hb dX10_comesTo_218 ?_
  obtain ⟨hi_10, h⟩ := ob h
  refine va_iald hx hb hK hPD.1 19 1 rfl rfl hi_10 dX10_comesTo_219 ?_
  refine lv_aload_n hx hb dX10_comesTo_220 rfl (lv_at hl 0 rfl) ?_
  refine va_get (D := G.1) (ci := 10) (v := .ref (a0 29)) (C := RX10) (T := TX10) (N := 52) hx hb hts inlX10 hown hK hPD.1 0 rfl rfl 29 (by decide) (hts _ gw_654) (fun _ h9 => h9) rfl dX10_comesTo_221 ?_
  refine lv_iload_n hx hb dX10_comesTo_224 rfl (lv_at hl 3 rfl) ?_
  obtain ⟨hi_11, h⟩ := ob h
  refine va_iald hx hb hK hPD.1 19 1 rfl rfl hi_11 dX10_comesTo_225 ?_
  obtain ⟨q_12, hq_12, h⟩ := ob2 h
  refine kSI (As := [.int l6, .int (gx (A0 29) (l3 - 1)), .int (gx (A0 29) l3)]) (rest := [.int (l3 - 1), .ref (a0 29)]) C0 (kt_X10_reckon l G  l6 (gx (A0 29) (l3 - 1)) (gx (A0 29) l3) hq_12) gi_S_X10_233_X10_reckon (n := 3) rfl (by decide +kernel) ⟨rfl, rfl, Nat.le_of_ble_eq_true rfl, Nat.le_of_ble_eq_true rfl⟩ hPD hS [] [0, 1, 2, 3, 4, 5, 6, 7, 8, 9, 10, 11, 12, 13, 14, 15, 16, 17, 18, 19, 20, 21, 22, 23, 24, 25, 26, 27, 28, 29, 30, 31, 32, 33] [0, 1, 2, 3, 4, 5, 6, 7, 8, 9, 10, 11, 12, 13, 14, 15, 16, 17, 18, 19, 20, 21, 22, 23, 24, 25, 26, 27, 28, 29, 30, 31, 32, 33] (wr := (wX10 G h0 a0 f0 A0)) (wN := (wX10 G h0 a0 f0 A0)) rfl rfl rfl rfl rfl hl.1 (Nat.le_of_ble_eq_true rfl) dX10_comesTo_226 (fun H locs hPD hS => ?_)
  obtain ⟨hi_13, h⟩ := ob h
  refine va_iast hx hb hK hPD.1 hPD.2 hS 19 1 rfl rfl hi_13 dX10_comesTo_229 (fun H locs hP hD hS => ?_)
  obtain ⟨A0_14, eA0_14, h⟩ := lvl h
  have hPD : WD G DA (wX10 G h0 a0 f0 A0_14) H := by rw [eA0_14]; exact ⟨hP, hD⟩
  clear eA0_14 hP hD
  refine lv_goto (tgt := 16) hx hb dX10_comesTo_230 (by decide) ?_
  exact hk16 A0_14 l3 l4 l5 h _ _ _ hPD hS (lv_sub hl [0, 1, 2, 3, 4, 5] rfl)
set_option maxRecDepth 100000 in
set_option maxHeartbeats 4000000 in
theorem ww_f10_comesTo_b16  (C0 : Cx cX10_comesTo 8 (some .int) RX10 p s m args meth c G DA) {h0 : Nat} {a0 : Nat → Nat} {f0 : Nat → Int32} {p1 : Int32} {p2 : Int32}  {k16 : (Nat → Nat → Int32) → Int32 → Int32 → Int32 → Option (Int32 × (Nat → Nat → Int32))} {res : Int32 × (Nat → Nat → Int32)}  (hk16 : ∀ (A0 : Nat → Nat → Int32) (l3 : Int32) (l4 : Int32) (l5 : Int32), k16 A0 l3 l4 l5 = some res → ∀ (H : Heap) (locs : List Loc) (ls : Array Slot), WD G DA (wX10 G h0 a0 f0 A0) H → va_S DA s.heap H locs → lv_has ls 8 [(0, .ref h0), (1, .int p1), (2, .int p2), (3, .int l3), (4, .int l4), (5, .int l5)] → W p l e rmX10_comesTo s m args below meth c H locs 0 0 (MQ below (QI G DA res.1 (wX10 G h0 a0 f0 res.2)) args s 0 0 DA) (F0 m 16 ls [])) : ∀ (A0 : Nat → Nat → Int32) (l3 : Int32) (l4 : Int32) (l5 : Int32), f10_comesTo_b16 f0 p1 p2  k16 A0 l3 l4 l5 = some res → ∀ (H : Heap) (locs : List Loc) (ls : Array Slot), WD G DA (wX10 G h0 a0 f0 A0) H → va_S DA s.heap H locs → lv_has ls 8 [(0, .ref h0), (1, .int p1), (2, .int p2), (3, .int l3), (4, .int l4), (5, .int l5)] → W p l e rmX10_comesTo s m args below meth c H locs 0 0 (MQ below (QI G DA res.1 (wX10 G h0 a0 f0 res.2)) args s 0 0 DA) (F0 m 16 ls []) := by
  obtain ⟨hx, hb, hml, hown, hts⟩ := C0.1
  have hK := C0.2.2.2.1
  intro A0 l3 l4 l5 h _ _ _ hPD hS hl
  unfold f10_comesTo_b16 at h
  refine lv_iload hx hb dX10_comesTo_16 (lv_at hl 5 rfl) ?_
  refine lv_iload_n hx hb dX10_comesTo_18 rfl (lv_at hl 2 rfl) ?_
  refine lv_icmp_ge (tgt := 233) hx hb dX10_comesTo_19 (by decide) (fun cc1 => ?_) (fun cc1 => ?_)
  · have h := (if_pos cc1).symm.trans h
    refine lv_aload_n hx hb dX10_comesTo_233 rfl (lv_at hl 0 rfl) ?_
    refine va_get (D := G.1) (ci := 10) (v := .ref (a0 29)) (C := RX10) (T := TX10) (N := 52) hx hb hts inlX10 hown hK hPD.1 0 rfl rfl 29 (by decide) (hts _ gw_654) (fun _ h9 => h9) rfl dX10_comesTo_234 ?_
    refine lv_iconst (v := 0) hx hb dX10_comesTo_237 (by decide) ?_
    refine va_iald hx hb hK hPD.1 19 1 rfl rfl (vin rfl) dX10_comesTo_238 ?_
    obtain rfl := Option.some.inj h
    exact eI C0 hPD.1 hPD.2 hS rfl dX10_comesTo_239
  · have h := (if_neg cc1).symm.trans h
    refine lv_aload_n hx hb dX10_comesTo_22 rfl (lv_at hl 0 rfl) ?_
    refine va_get (D := G.1) (ci := 10) (v := .ref (a0 24)) (C := RX10) (T := TX10) (N := 52) hx hb hts inlX10 hown hK hPD.1 0 rfl rfl 24 (by decide) (hts _ gw_649) (fun _ h9 => h9) rfl dX10_comesTo_23 ?_
    refine lv_iload hx hb dX10_comesTo_26 (lv_at hl 5 rfl) ?_
    obtain ⟨hi_1, h⟩ := ob h
    refine va_iald hx hb hK hPD.1 14 1 rfl rfl hi_1 dX10_comesTo_28 ?_
    refine lv_ldc (v := 1048576) hx hb hown (hts _ gw_569) dX10_comesTo_29 ?_
    refine lv_idiv hx hb dX10_comesTo_31 (by decide) ?_
    refine lv_istore (lv' := [(6, .int ((gx (A0 24) l5) / 1048576)), (0, .ref h0), (1, .int p1), (2, .int p2), (3, .int l3), (4, .int l4), (5, .int l5)]) hx hb dX10_comesTo_32 hl (by decide) rfl (fun ls hl => ?_)
    refine lv_aload_n hx hb dX10_comesTo_34 rfl (lv_at hl 1 rfl) ?_
    refine va_get (D := G.1) (ci := 10) (v := .ref (a0 24)) (C := RX10) (T := TX10) (N := 52) hx hb hts inlX10 hown hK hPD.1 0 rfl rfl 24 (by decide) (hts _ gw_649) (fun _ h9 => h9) rfl dX10_comesTo_35 ?_
    refine lv_iload hx hb dX10_comesTo_38 (lv_at hl 6 rfl) ?_
    obtain ⟨hi_2, h⟩ := ob h
    refine va_iald hx hb hK hPD.1 14 1 rfl rfl hi_2 dX10_comesTo_40 ?_
    refine lv_ldc (v := 1048576) hx hb hown (hts _ gw_569) dX10_comesTo_41 ?_
    refine lv_irem hx hb dX10_comesTo_43 (by decide) ?_
    refine lv_istore (lv' := [(7, .int (irm (gx (A0 24) l5) 1048576)), (6, .int ((gx (A0 24) l5) / 1048576)), (0, .ref h0), (1, .int p1), (2, .int p2), (3, .int l3), (4, .int l4), (5, .int l5)]) hx hb dX10_comesTo_44 hl (by decide) rfl (fun ls hl => ?_)
    refine lv_iload hx hb dX10_comesTo_46 (lv_at hl 7 rfl) ?_
    refine lv_iconst (v := 1) hx hb dX10_comesTo_48 (by decide) ?_
    refine lv_iadd hx hb dX10_comesTo_49 ?_
    refine lv_istore (lv' := [(5, .int (l5 + 1)), (7, .int (irm (gx (A0 24) l5) 1048576)), (6, .int ((gx (A0 24) l5) / 1048576)), (0, .ref h0), (1, .int p1), (2, .int p2), (3, .int l3), (4, .int l4)]) hx hb dX10_comesTo_50 hl (by decide) rfl (fun ls hl => ?_)
    refine lv_iload hx hb dX10_comesTo_52 (lv_at hl 2 rfl) ?_
    refine lv_if_eq (tgt := 63) hx hb dX10_comesTo_54 (by decide) (fun cc1 => ?_) (fun cc1 => ?_)
    · have h := (if_pos cc1).symm.trans h
      exact ww_f10_comesTo_b63 C0 hk16 A0 l3 l4 (l5 + 1) ((gx (A0 24) l5) / 1048576) (irm (gx (A0 24) l5) 1048576) h _ _ _ hPD hS (lv_sub hl [3, 4, 5, 6, 7, 0, 2, 1] rfl)
    · have h := (if_neg cc1).symm.trans h
      refine lv_iload hx hb dX10_comesTo_57 (lv_at hl 2 rfl) ?_
      refine lv_iconst (v := 1) hx hb dX10_comesTo_59 (by decide) ?_
      refine lv_icmp_ne (tgt := 93) hx hb dX10_comesTo_60 (by decide) (fun cc1 => ?_) (fun cc1 => ?_)
      · have h := (if_neg cc1).symm.trans h
        refine lv_iload hx hb dX10_comesTo_93 (lv_at hl 2 rfl) ?_
        refine lv_bipush (v := 10) hx hb dX10_comesTo_95 (by decide) ?_
        refine lv_icmp_ne (tgt := 121) hx hb dX10_comesTo_97 (by decide) (fun cc1 => ?_) (fun cc1 => ?_)
        · have h := (if_neg cc1).symm.trans h
          refine lv_iload hx hb dX10_comesTo_121 (lv_at hl 2 rfl) ?_
          refine lv_bipush (v := 11) hx hb dX10_comesTo_123 (by decide) ?_
          refine lv_icmp_eq (tgt := 135) hx hb dX10_comesTo_125 (by decide) (fun cc1 => ?_) (fun cc1 => ?_)
          · have h := (if_pos cc1).symm.trans h
            exact ww_f10_comesTo_b135 C0 hk16 A0 l3 l4 (l5 + 1) ((gx (A0 24) l5) / 1048576) (irm (gx (A0 24) l5) 1048576) h _ _ _ hPD hS (lv_sub hl [3, 4, 5, 6, 7, 0, 2, 1] rfl)
          · have h := (if_neg cc1).symm.trans h
            refine lv_iload hx hb dX10_comesTo_128 (lv_at hl 2 rfl) ?_
            refine lv_bipush (v := 12) hx hb dX10_comesTo_130 (by decide) ?_
            refine lv_icmp_ne (tgt := 175) hx hb dX10_comesTo_132 (by decide) (fun cc1 => ?_) (fun cc1 => ?_)
            · have h := (if_neg cc1).symm.trans h
              refine lv_iload_n hx hb dX10_comesTo_175 rfl (lv_at hl 6 rfl) ?_
              refine lv_iconst (v := 1) hx hb dX10_comesTo_176 (by decide) ?_
              refine lv_isub hx hb dX10_comesTo_177 ?_
              refine lv_istore_n (lv' := [(3, .int (l3 - 1)), (5, .int (l5 + 1)), (7, .int (irm (gx (A0 24) l5) 1048576)), (6, .int ((gx (A0 24) l5) / 1048576)), (0, .ref h0), (1, .int p1), (2, .int p2), (4, .int l4)]) hx hb dX10_comesTo_178 rfl hl (by decide) rfl (fun ls hl => ?_)
              refine lv_iload hx hb dX10_comesTo_179 (lv_at hl 3 rfl) ?_
              refine lv_iconst (v := 5) hx hb dX10_comesTo_181 (by decide) ?_
              refine lv_icmp_eq (tgt := 192) hx hb dX10_comesTo_182 (by decide) (fun cc1 => ?_) (fun cc1 => ?_)
              · have h := (if_pos cc1).symm.trans h
                refine lv_aload_n hx hb dX10_comesTo_192 rfl (lv_at hl 4 rfl) ?_
                refine va_get (D := G.1) (ci := 10) (v := .ref (a0 29)) (C := RX10) (T := TX10) (N := 52) hx hb hts inlX10 hown hK hPD.1 0 rfl rfl 29 (by decide) (hts _ gw_654) (fun _ h9 => h9) rfl dX10_comesTo_193 ?_
                refine lv_iload_n hx hb dX10_comesTo_196 rfl (lv_at hl 0 rfl) ?_
                obtain ⟨hi_9, h⟩ := ob h
                refine va_iald hx hb hK hPD.1 19 1 rfl rfl hi_9 dX10_comesTo_197 ?_
                refine lv_if_ne (tgt := 203) hx hb dX10_comesTo_198 (by decide) (fun cc1 => ?_) (fun cc1 => ?_)
                · have h := (if_neg cc1).symm.trans h
                  exact ww_f10_comesTo_b203 C0 hk16 A0 (l3 - 1) l4 (l5 + 1) ((gx (A0 24) l5) / 1048576) h _ _ _ hPD hS (lv_sub hl [4, 5, 6, 0, 7, 1, 3] rfl)
                · have h := (if_pos cc1).symm.trans h
                  refine lv_iconst (v := 0) hx hb dX10_comesTo_201 (by decide) ?_
                  obtain rfl := Option.some.inj h
                  exact eI C0 hPD.1 hPD.2 hS rfl dX10_comesTo_202
              · have h := (if_neg cc1).symm.trans h
                refine lv_iload hx hb dX10_comesTo_185 (lv_at hl 3 rfl) ?_
                refine lv_bipush (v := 6) hx hb dX10_comesTo_187 (by decide) ?_
                refine lv_icmp_ne (tgt := 203) hx hb dX10_comesTo_189 (by decide) (fun cc1 => ?_) (fun cc1 => ?_)
                · have h := (if_neg cc1).symm.trans h
                  exact ww_f10_comesTo_b203 C0 hk16 A0 (l3 - 1) l4 (l5 + 1) ((gx (A0 24) l5) / 1048576) h _ _ _ hPD hS (lv_sub hl [4, 5, 6, 0, 7, 1, 3] rfl)
                · have h := (if_pos cc1).symm.trans h
                  refine lv_aload_n hx hb dX10_comesTo_192 rfl (lv_at hl 4 rfl) ?_
                  refine va_get (D := G.1) (ci := 10) (v := .ref (a0 29)) (C := RX10) (T := TX10) (N := 52) hx hb hts inlX10 hown hK hPD.1 0 rfl rfl 29 (by decide) (hts _ gw_654) (fun _ h9 => h9) rfl dX10_comesTo_193 ?_
                  refine lv_iload_n hx hb dX10_comesTo_196 rfl (lv_at hl 0 rfl) ?_
                  obtain ⟨hi_15, h⟩ := ob h
                  refine va_iald hx hb hK hPD.1 19 1 rfl rfl hi_15 dX10_comesTo_197 ?_
                  refine lv_if_ne (tgt := 203) hx hb dX10_comesTo_198 (by decide) (fun cc1 => ?_) (fun cc1 => ?_)
                  · have h := (if_neg cc1).symm.trans h
                    exact ww_f10_comesTo_b203 C0 hk16 A0 (l3 - 1) l4 (l5 + 1) ((gx (A0 24) l5) / 1048576) h _ _ _ hPD hS (lv_sub hl [4, 5, 6, 0, 7, 1, 3] rfl)
                  · have h := (if_pos cc1).symm.trans h
                    refine lv_iconst (v := 0) hx hb dX10_comesTo_201 (by decide) ?_
                    obtain rfl := Option.some.inj h
                    exact eI C0 hPD.1 hPD.2 hS rfl dX10_comesTo_202
            · have h := (if_pos cc1).symm.trans h
              exact ww_f10_comesTo_b135 C0 hk16 A0 l3 l4 (l5 + 1) ((gx (A0 24) l5) / 1048576) (irm (gx (A0 24) l5) 1048576) h _ _ _ hPD hS (lv_sub hl [3, 4, 5, 6, 7, 0, 2, 1] rfl)
        · have h := (if_pos cc1).symm.trans h
          refine lv_aload_n hx hb dX10_comesTo_100 rfl (lv_at hl 3 rfl) ?_
          refine va_get (D := G.1) (ci := 10) (v := .ref (a0 29)) (C := RX10) (T := TX10) (N := 52) hx hb hts inlX10 hown hK hPD.1 0 rfl rfl 29 (by decide) (hts _ gw_654) (fun _ h9 => h9) rfl dX10_comesTo_101 ?_
          refine lv_iload_n hx hb dX10_comesTo_104 rfl (lv_at hl 6 rfl) ?_
          refine lv_iconst (v := 1) hx hb dX10_comesTo_105 (by decide) ?_
          refine lv_isub hx hb dX10_comesTo_106 ?_
          refine lv_iconst (v := 1) hx hb dX10_comesTo_107 (by decide) ?_
          refine lv_aload_n hx hb dX10_comesTo_108 rfl (lv_at hl 3 rfl) ?_
          refine va_get (D := G.1) (ci := 10) (v := .ref (a0 29)) (C := RX10) (T := TX10) (N := 52) hx hb hts inlX10 hown hK hPD.1 0 rfl rfl 29 (by decide) (hts _ gw_654) (fun _ h9 => h9) rfl dX10_comesTo_109 ?_
          refine lv_iload_n hx hb dX10_comesTo_112 rfl (lv_at hl 6 rfl) ?_
          refine lv_iconst (v := 1) hx hb dX10_comesTo_113 (by decide) ?_
          refine lv_isub hx hb dX10_comesTo_114 ?_
          obtain ⟨hi_16, h⟩ := ob h
          refine va_iald hx hb hK hPD.1 19 1 rfl rfl hi_16 dX10_comesTo_115 ?_
          refine lv_isub hx hb dX10_comesTo_116 ?_
          obtain ⟨hi_17, h⟩ := ob h
          refine va_iast hx hb hK hPD.1 hPD.2 hS 19 1 rfl rfl hi_17 dX10_comesTo_117 (fun H locs hP hD hS => ?_)
          obtain ⟨A0_18, eA0_18, h⟩ := lvl h
          have hPD : WD G DA (wX10 G h0 a0 f0 A0_18) H := by rw [eA0_18]; exact ⟨hP, hD⟩
          clear eA0_18 hP hD
          refine lv_goto (tgt := 230) hx hb dX10_comesTo_118 (by decide) ?_
          refine lv_goto (tgt := 16) hx hb dX10_comesTo_230 (by decide) ?_
          exact hk16 A0_18 l3 l4 (l5 + 1) h _ _ _ hPD hS (lv_sub hl [3, 4, 5, 6, 7, 0] rfl)
      · have h := (if_pos cc1).symm.trans h
        exact ww_f10_comesTo_b63 C0 hk16 A0 l3 l4 (l5 + 1) ((gx (A0 24) l5) / 1048576) (irm (gx (A0 24) l5) 1048576) h _ _ _ hPD hS (lv_sub hl [3, 4, 5, 6, 7, 0, 2, 1] rfl)
set_option maxRecDepth 100000 in
set_option maxHeartbeats 4000000 in
theorem ww_f10_comesTo_l16  (C0 : Cx cX10_comesTo 8 (some .int) RX10 p s m args meth c G DA) {h0 : Nat} {a0 : Nat → Nat} {f0 : Nat → Int32} {p1 : Int32} {p2 : Int32}   {res : Int32 × (Nat → Nat → Int32)}  : ∀ (n : Nat) (A0 : Nat → Nat → Int32) (l3 : Int32) (l4 : Int32) (l5 : Int32), f10_comesTo_l16 f0 p1 p2  n A0 l3 l4 l5 = some res → ∀ (H : Heap) (locs : List Loc) (ls : Array Slot), WD G DA (wX10 G h0 a0 f0 A0) H → va_S DA s.heap H locs → lv_has ls 8 [(0, .ref h0), (1, .int p1), (2, .int p2), (3, .int l3), (4, .int l4), (5, .int l5)] → W p l e rmX10_comesTo s m args below meth c H locs 0 0 (MQ below (QI G DA res.1 (wX10 G h0 a0 f0 res.2)) args s 0 0 DA) (F0 m 16 ls []) := by
  intro n
  induction n with
  | zero => intro A0 l3 l4 l5 h; cases h
  | succ n ih => intro A0 l3 l4 l5 h; exact ww_f10_comesTo_b16 C0  ih A0 l3 l4 l5 h
set_option maxRecDepth 100000 in
set_option maxHeartbeats 4000000 in
theorem kt_X10_comesTo (l : Launch) (G : Gp) (h0 : Nat) (a0 : Nat → Nat) (f0 : Nat → Int32) (A0 : Nat → Nat → Int32) (p1 : Int32) (p2 : Int32) : ∀ {r : Int32 × (Nat → Nat → Int32)}, f10_comesTo f0 A0 p1 p2 = some r → CtrI l yX10_comesTo cX10_comesTo 8 (some .int) rmX10_comesTo G [.ref h0, .int p1, .int p2] (wX10 G h0 a0 f0 A0) r.1 (wX10 G h0 a0 f0 r.2) := by
  intro res h
  refine ctrI_of (cc := cX10_comesTo) (maxL := 8) (ret := (some .int)) (by decide +kernel) rfl (Nat.le_of_ble_eq_true rfl) (fun p e s m below meth c DA C0 hP hD ls hl => ?_)
  have hPD : WD G DA (wX10 G h0 a0 f0 A0) s.heap := ⟨hP, hD⟩
  have hS : va_S DA s.heap s.heap [] := va_S.rf
  have hl : lv_has ls 8 [(0, .ref h0), (1, .int p1), (2, .int p2)] := hl
  obtain ⟨hx, hb, hml, hown, hts⟩ := C0.1
  have hK := C0.2.2.2.1
  unfold f10_comesTo at h
  refine lv_iconst (v := 0) hx hb dX10_comesTo_0 (by decide) ?_
  refine lv_istore_n (lv' := [(3, .int 0), (0, .ref h0), (1, .int p1), (2, .int p2)]) hx hb dX10_comesTo_1 rfl hl (by decide) rfl (fun ls hl => ?_)
  refine lv_sipush (v := 260) hx hb dX10_comesTo_2 (by decide) ?_
  refine lv_iload_n hx hb dX10_comesTo_5 rfl (lv_at hl 2 rfl) ?_
  refine lv_sipush (v := 260) hx hb dX10_comesTo_6 (by decide) ?_
  refine lv_idiv hx hb dX10_comesTo_9 (by decide) ?_
  refine lv_imul hx hb dX10_comesTo_10 ?_
  refine lv_istore (lv' := [(4, .int (260 * (p1 / 260))), (3, .int 0), (0, .ref h0), (1, .int p1), (2, .int p2)]) hx hb dX10_comesTo_11 hl (by decide) rfl (fun ls hl => ?_)
  refine lv_iload_n hx hb dX10_comesTo_13 rfl (lv_at hl 3 rfl) ?_
  refine lv_istore (lv' := [(5, .int p1), (4, .int (260 * (p1 / 260))), (3, .int 0), (0, .ref h0), (1, .int p1), (2, .int p2)]) hx hb dX10_comesTo_14 hl (by decide) rfl (fun ls hl => ?_)
  exact ww_f10_comesTo_l16 C0 NF A0 0 (260 * (p1 / 260)) p1 h _ _ _ hPD hS (lv_sub hl [3, 4, 5, 2, 1, 0] rfl)
abbrev rmX10_byLaw : Room := { frames := 2, cells := 0, slots := 0, locals := 49 }
set_option maxRecDepth 100000 in
set_option maxHeartbeats 4000000 in
theorem ww_f10_byLaw_b2  (C0 : Cx cX10_byLaw 5 (some .int) RX10 p s m args meth c G DA) {h0 : Nat} {a0 : Nat → Nat} {f0 : Nat → Int32} {p1 : Int32} {p2 : Int32}  {k2 : (Nat → Nat → Int32) → Int32 → Option (Int32 × (Nat → Nat → Int32))} {res : Int32 × (Nat → Nat → Int32)}  (hk2 : ∀ (A0 : Nat → Nat → Int32) (l3 : Int32), k2 A0 l3 = some res → ∀ (H : Heap) (locs : List Loc) (ls : Array Slot), WD G DA (wX10 G h0 a0 f0 A0) H → va_S DA s.heap H locs → lv_has ls 5 [(0, .ref h0), (1, .int p1), (2, .int p2), (3, .int l3)] → W p l e rmX10_byLaw s m args below meth c H locs 0 0 (MQ below (QI G DA res.1 (wX10 G h0 a0 f0 res.2)) args s 0 0 DA) (F0 m 2 ls [])) : ∀ (A0 : Nat → Nat → Int32) (l3 : Int32), f10_byLaw_b2 f0 p1 p2  k2 A0 l3 = some res → ∀ (H : Heap) (locs : List Loc) (ls : Array Slot), WD G DA (wX10 G h0 a0 f0 A0) H → va_S DA s.heap H locs → lv_has ls 5 [(0, .ref h0), (1, .int p1), (2, .int p2), (3, .int l3)] → W p l e rmX10_byLaw s m args below meth c H locs 0 0 (MQ below (QI G DA res.1 (wX10 G h0 a0 f0 res.2)) args s 0 0 DA) (F0 m 2 ls []) := by
  obtain ⟨hx, hb, hml, hown, hts⟩ := C0.1
  have hK := C0.2.2.2.1
  intro A0 l3 h _ _ _ hPD hS hl
  unfold f10_byLaw_b2 at h
  refine lv_iload_n hx hb dX10_byLaw_2 rfl (lv_at hl 3 rfl) ?_
  refine lv_aload_n hx hb dX10_byLaw_3 rfl (lv_at hl 0 rfl) ?_
  refine va_get (D := G.1) (ci := 10) (v := .int (f0 17)) (C := RX10) (T := TX10) (N := 52) hx hb hts inlX10 hown hK hPD.1 0 rfl rfl 17 (by decide) (hts _ gw_644) (fun _ h9 => h9) rfl dX10_byLaw_4 ?_
  refine lv_icmp_ge (tgt := 89) hx hb dX10_byLaw_7 (by decide) (fun cc1 => ?_) (fun cc1 => ?_)
  · have h := (if_pos cc1).symm.trans h
    refine lv_iconst (v := 0) hx hb dX10_byLaw_89 (by decide) ?_
    obtain rfl := Option.some.inj h
    exact eI C0 hPD.1 hPD.2 hS rfl dX10_byLaw_90
  · have h := (if_neg cc1).symm.trans h
    refine lv_aload_n hx hb dX10_byLaw_10 rfl (lv_at hl 0 rfl) ?_
    refine va_get (D := G.1) (ci := 10) (v := .ref (a0 25)) (C := RX10) (T := TX10) (N := 52) hx hb hts inlX10 hown hK hPD.1 0 rfl rfl 25 (by decide) (hts _ gw_645) (fun _ h9 => h9) rfl dX10_byLaw_11 ?_
    refine lv_iload_n hx hb dX10_byLaw_14 rfl (lv_at hl 3 rfl) ?_
    obtain ⟨hi_1, h⟩ := ob h
    refine va_iald hx hb hK hPD.1 15 1 rfl rfl hi_1 dX10_byLaw_15 ?_
    refine lv_iload_n hx hb dX10_byLaw_16 rfl (lv_at hl 1 rfl) ?_
    refine lv_icmp_ne (tgt := 83) hx hb dX10_byLaw_17 (by decide) (fun cc1 => ?_) (fun cc1 => ?_)
    · have h := (if_neg cc1).symm.trans h
      refine lv_iinc (v := l3 + 1) (lv' := [(3, .int (l3 + 1)), (0, .ref h0), (1, .int p1), (2, .int p2)]) hx hb dX10_byLaw_83 hl (k := 3) rfl rfl (by decide) rfl (fun ls hl => ?_)
      refine lv_goto (tgt := 2) hx hb dX10_byLaw_86 (by decide) ?_
      exact hk2 A0 (l3 + 1) h _ _ _ hPD hS (lv_sub hl [1, 2, 3, 0] rfl)
    · have h := (if_pos cc1).symm.trans h
      refine lv_aload_n hx hb dX10_byLaw_20 rfl (lv_at hl 0 rfl) ?_
      refine lv_aload_n hx hb dX10_byLaw_21 rfl (lv_at hl 0 rfl) ?_
      refine va_get (D := G.1) (ci := 10) (v := .ref (a0 27)) (C := RX10) (T := TX10) (N := 52) hx hb hts inlX10 hown hK hPD.1 0 rfl rfl 27 (by decide) (hts _ gw_647) (fun _ h9 => h9) rfl dX10_byLaw_22 ?_
      refine lv_iload_n hx hb dX10_byLaw_25 rfl (lv_at hl 3 rfl) ?_
      obtain ⟨hi_2, h⟩ := ob h
      refine va_iald hx hb hK hPD.1 17 1 rfl rfl hi_2 dX10_byLaw_26 ?_
      refine lv_aload_n hx hb dX10_byLaw_27 rfl (lv_at hl 0 rfl) ?_
      refine va_get (D := G.1) (ci := 10) (v := .ref (a0 28)) (C := RX10) (T := TX10) (N := 52) hx hb hts inlX10 hown hK hPD.1 0 rfl rfl 28 (by decide) (hts _ gw_648) (fun _ h9 => h9) rfl dX10_byLaw_28 ?_
      refine lv_iload_n hx hb dX10_byLaw_31 rfl (lv_at hl 3 rfl) ?_
      obtain ⟨hi_3, h⟩ := ob h
      refine va_iald hx hb hK hPD.1 18 1 rfl rfl hi_3 dX10_byLaw_32 ?_
      obtain ⟨q_4, hq_4, h⟩ := ob2 h
      refine kVI (As := [.int (gx (A0 27) l3), .int (gx (A0 28) l3)]) (rest := []) C0 (kt_X10_comesTo l G h0 a0 f0 A0 (gx (A0 27) l3) (gx (A0 28) l3) hq_4) gi_V_X10_237_X10_comesTo (n := 2) rfl (by decide +kernel) rfl ⟨rfl, rfl, Nat.le_of_ble_eq_true rfl, Nat.le_of_ble_eq_true rfl⟩ hPD hS 0 10 rfl rfl rfl [0, 1, 2, 3, 4, 5, 6, 7, 8, 9, 10, 11, 12, 13, 14, 15, 16, 17, 18, 19, 20, 21, 22, 23, 24, 25, 26, 27, 28, 29, 30, 31, 32, 33] [] [0, 1, 2, 3, 4, 5, 6, 7, 8, 9, 10, 11, 12, 13, 14, 15, 16, 17, 18, 19, 20, 21, 22, 23, 24, 25, 26, 27, 28, 29, 30, 31, 32, 33] (wr := ([] : va_W)) (wN := (wX10 G h0 a0 f0 q_4.2)) rfl rfl rfl rfl rfl hl.1 (Nat.le_of_ble_eq_true rfl) dX10_byLaw_33 (fun H locs hPD hS => ?_)
      refine lv_iconst (v := 1) hx hb dX10_byLaw_36 (by decide) ?_
      refine lv_icmp_eq (tgt := 43) hx hb dX10_byLaw_37 (by decide) (fun cc1 => ?_) (fun cc1 => ?_)
      · have h := (if_pos cc1).symm.trans h
        refine lv_aload_n hx hb dX10_byLaw_43 rfl (lv_at hl 0 rfl) ?_
        refine lv_aload_n hx hb dX10_byLaw_44 rfl (lv_at hl 0 rfl) ?_
        refine va_get (D := G.1) (ci := 10) (v := .ref (a0 26)) (C := RX10) (T := TX10) (N := 52) hx hb hts inlX10 hown hK hPD.1 0 rfl rfl 26 (by decide) (hts _ gw_646) (fun _ h9 => h9) rfl dX10_byLaw_45 ?_
        refine lv_iload_n hx hb dX10_byLaw_48 rfl (lv_at hl 3 rfl) ?_
        obtain ⟨hi_5, h⟩ := ob h
        refine va_iald hx hb hK hPD.1 16 1 rfl rfl hi_5 dX10_byLaw_49 ?_
        refine lv_aload_n hx hb dX10_byLaw_50 rfl (lv_at hl 0 rfl) ?_
        refine va_get (D := G.1) (ci := 10) (v := .ref (a0 27)) (C := RX10) (T := TX10) (N := 52) hx hb hts inlX10 hown hK hPD.1 0 rfl rfl 27 (by decide) (hts _ gw_647) (fun _ h9 => h9) rfl dX10_byLaw_51 ?_
        refine lv_iload_n hx hb dX10_byLaw_54 rfl (lv_at hl 3 rfl) ?_
        obtain ⟨hi_6, h⟩ := ob h
        refine va_iald hx hb hK hPD.1 17 1 rfl rfl hi_6 dX10_byLaw_55 ?_
        obtain ⟨q_7, hq_7, h⟩ := ob2 h
        refine kVI (As := [.int (gx (q_4.2 26) l3), .int (gx (q_4.2 27) l3)]) (rest := []) C0 (kt_X10_comesTo l G h0 a0 f0 q_4.2 (gx (q_4.2 26) l3) (gx (q_4.2 27) l3) hq_7) gi_V_X10_237_X10_comesTo (n := 2) rfl (by decide +kernel) rfl ⟨rfl, rfl, Nat.le_of_ble_eq_true rfl, Nat.le_of_ble_eq_true rfl⟩ hPD hS 0 10 rfl rfl rfl [0, 1, 2, 3, 4, 5, 6, 7, 8, 9, 10, 11, 12, 13, 14, 15, 16, 17, 18, 19, 20, 21, 22, 23, 24, 25, 26, 27, 28, 29, 30, 31, 32, 33] [] [0, 1, 2, 3, 4, 5, 6, 7, 8, 9, 10, 11, 12, 13, 14, 15, 16, 17, 18, 19, 20, 21, 22, 23, 24, 25, 26, 27, 28, 29, 30, 31, 32, 33] (wr := ([] : va_W)) (wN := (wX10 G h0 a0 f0 q_7.2)) rfl rfl rfl rfl rfl hl.1 (Nat.le_of_ble_eq_true rfl) dX10_byLaw_56 (fun H locs hPD hS => ?_)
        refine lv_istore (lv' := [(4, .int q_7.1), (0, .ref h0), (1, .int p1), (2, .int p2), (3, .int l3)]) hx hb dX10_byLaw_59 hl (by decide) rfl (fun ls hl => ?_)
        refine lv_iload hx hb dX10_byLaw_61 (lv_at hl 0 rfl) ?_
        refine lv_if_ge (tgt := 70) hx hb dX10_byLaw_63 (by decide) (fun cc1 => ?_) (fun cc1 => ?_)
        · have h := (if_pos cc1).symm.trans h
          refine lv_iload hx hb dX10_byLaw_70 (lv_at hl 0 rfl) ?_
          refine lv_iload_n hx hb dX10_byLaw_72 rfl (lv_at hl 3 rfl) ?_
          refine lv_icmp_le (tgt := 80) hx hb dX10_byLaw_73 (by decide) (fun cc1 => ?_) (fun cc1 => ?_)
          · have h := (if_pos cc1).symm.trans h
            refine lv_iload hx hb dX10_byLaw_80 (lv_at hl 0 rfl) ?_
            obtain rfl := Option.some.inj h
            exact eI C0 hPD.1 hPD.2 hS rfl dX10_byLaw_82
          · have h := (if_neg cc1).symm.trans h
            refine lv_iload_n hx hb dX10_byLaw_76 rfl (lv_at hl 3 rfl) ?_
            refine lv_goto (tgt := 82) hx hb dX10_byLaw_77 (by decide) ?_
            obtain rfl := Option.some.inj h
            exact eI C0 hPD.1 hPD.2 hS rfl dX10_byLaw_82
        · have h := (if_neg cc1).symm.trans h
          refine lv_iconst (v := 0) hx hb dX10_byLaw_66 (by decide) ?_
          refine lv_goto (tgt := 82) hx hb dX10_byLaw_67 (by decide) ?_
          obtain rfl := Option.some.inj h
          exact eI C0 hPD.1 hPD.2 hS rfl dX10_byLaw_82
      · have h := (if_neg cc1).symm.trans h
        refine lv_goto (tgt := 83) hx hb dX10_byLaw_40 (by decide) ?_
        refine lv_iinc (v := l3 + 1) (lv' := [(3, .int (l3 + 1)), (0, .ref h0), (1, .int p1), (2, .int p2)]) hx hb dX10_byLaw_83 hl (k := 3) rfl rfl (by decide) rfl (fun ls hl => ?_)
        refine lv_goto (tgt := 2) hx hb dX10_byLaw_86 (by decide) ?_
        exact hk2 q_4.2 (l3 + 1) h _ _ _ hPD hS (lv_sub hl [1, 2, 3, 0] rfl)
end WALK
