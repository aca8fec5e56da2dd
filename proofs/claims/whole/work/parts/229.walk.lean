section WALK
variable {p : Program} {l : Launch} {e : Env} {s : State} {m : MethodId} {args : Array Value} {below : List Frame} {meth : Method} {c : Code} {G : Gp} {DA : Nat → Prop}
abbrev rmX10_waitTop : Room := { frames := 0, cells := 0, slots := 0, locals := 0 }
set_option maxRecDepth 100000 in
set_option maxHeartbeats 4000000 in
theorem kt_X10_waitTop (l : Launch) (G : Gp) (h0 : Nat) (a0 : Nat → Nat) (f0 : Nat → Int32) (A0 : Nat → Nat → Int32) : ∀ {r : Int32}, f10_waitTop f0 A0 = some r → CtrI l yX10_waitTop cX10_waitTop 1 (some .int) rmX10_waitTop G [.ref h0] (wX10 G h0 a0 f0 A0) r (wX10 G h0 a0 f0 A0) := by
  intro res h
  refine ctrI_of (cc := cX10_waitTop) (maxL := 1) (ret := (some .int)) (by decide +kernel) rfl (Nat.le_of_ble_eq_true rfl) (fun p e s m below meth c DA C0 hP hD ls hl => ?_)
  have hPD : WD G DA (wX10 G h0 a0 f0 A0) s.heap := ⟨hP, hD⟩
  have hS : va_S DA s.heap s.heap [] := va_S.rf
  have hl : lv_has ls 1 [(0, .ref h0)] := hl
  obtain ⟨hx, hb, hml, hown, hts⟩ := C0.1
  have hK := C0.2.2.2.1
  unfold f10_waitTop at h
  refine lv_aload_n hx hb dX10_waitTop_0 rfl (lv_at hl 0 rfl) ?_
  refine va_get (D := G.1) (ci := 10) (v := .int (f0 15)) (C := RX10) (T := TX10) (N := 52) hx hb hts inlX10 hown hK hPD.1 0 rfl rfl 15 (by decide) (hts _ gw_572) (fun _ h9 => h9) rfl dX10_waitTop_1 ?_
  refine lv_if_ne (tgt := 11) hx hb dX10_waitTop_4 (by decide) (fun cc1 => ?_) (fun cc1 => ?_)
  · have h := (if_neg cc1).symm.trans h
    refine lv_aload_n hx hb dX10_waitTop_11 rfl (lv_at hl 0 rfl) ?_
    refine va_get (D := G.1) (ci := 10) (v := .ref (a0 19)) (C := RX10) (T := TX10) (N := 52) hx hb hts inlX10 hown hK hPD.1 0 rfl rfl 19 (by decide) (hts _ gw_571) (fun _ h9 => h9) rfl dX10_waitTop_12 ?_
    refine lv_aload_n hx hb dX10_waitTop_15 rfl (lv_at hl 0 rfl) ?_
    refine va_get (D := G.1) (ci := 10) (v := .int (f0 15)) (C := RX10) (T := TX10) (N := 52) hx hb hts inlX10 hown hK hPD.1 0 rfl rfl 15 (by decide) (hts _ gw_572) (fun _ h9 => h9) rfl dX10_waitTop_16 ?_
    refine lv_iconst (v := 1) hx hb dX10_waitTop_19 (by decide) ?_
    refine lv_isub hx hb dX10_waitTop_20 ?_
    obtain ⟨hi_1, h⟩ := ob h
    refine va_iald hx hb hK hPD.1 9 1 rfl rfl hi_1 dX10_waitTop_21 ?_
    refine lv_ldc (v := 1048576) hx hb hown (hts _ gw_569) dX10_waitTop_22 ?_
    refine lv_idiv hx hb dX10_waitTop_24 (by decide) ?_
    obtain rfl := Option.some.inj h
    exact eI C0 hPD.1 hPD.2 hS rfl dX10_waitTop_25
  · have h := (if_pos cc1).symm.trans h
    refine lv_iconst (v := (-1)) hx hb dX10_waitTop_7 (by decide) ?_
    refine lv_goto (tgt := 25) hx hb dX10_waitTop_8 (by decide) ?_
    obtain rfl := Option.some.inj h
    exact eI C0 hPD.1 hPD.2 hS rfl dX10_waitTop_25
abbrev rmX10_factOf : Room := { frames := 0, cells := 0, slots := 0, locals := 0 }
set_option maxRecDepth 100000 in
set_option maxHeartbeats 4000000 in
theorem kt_X10_factOf (l : Launch) (G : Gp) (p0 : Int32) : CtrI l yX10_factOf cX10_factOf 1 (some .int) rmX10_factOf G [.int p0] ([] : va_W) (f10_factOf p0) ([] : va_W) := by
  obtain ⟨res, h⟩ : ∃ res, f10_factOf p0 = res := ⟨_, rfl⟩
  rw [h]
  refine ctrI_of (cc := cX10_factOf) (maxL := 1) (ret := (some .int)) (by decide +kernel) rfl (Nat.le_of_ble_eq_true rfl) (fun p e s m below meth c DA C0 hP hD ls hl => ?_)
  have hPD : WD G DA ([] : va_W) s.heap := ⟨hP, hD⟩
  have hS : va_S DA s.heap s.heap [] := va_S.rf
  have hl : lv_has ls 1 [(0, .int p0)] := hl
  obtain ⟨hx, hb, hml, hown, hts⟩ := C0.1
  have hK := C0.2.2.2.1
  unfold f10_factOf at h
  refine lv_iload_n hx hb dX10_factOf_0 rfl (lv_at hl 0 rfl) ?_
  by_cases cc99 : p0 = 99
  · have h := (if_pos cc99).symm.trans h
    refine lv_swT (tgt := 94) (k := 99) hx hb dX10_factOf_1 cc99 (by decide) (by decide) ?_
    refine lv_iconst (v := 3) hx hb dX10_factOf_94 (by decide) ?_
    subst h
    exact eI C0 hPD.1 hPD.2 hS rfl dX10_factOf_95
  have h := (if_neg cc99).symm.trans h
  by_cases cc100 : p0 = 100
  · have h := (if_pos cc100).symm.trans h
    refine lv_swT (tgt := 103) (k := 100) hx hb dX10_factOf_1 cc100 (by decide) (by decide) ?_
    refine lv_bipush (v := 7) hx hb dX10_factOf_103 (by decide) ?_
    subst h
    exact eI C0 hPD.1 hPD.2 hS rfl dX10_factOf_105
  have h := (if_neg cc100).symm.trans h
  by_cases cc103 : p0 = 103
  · have h := (if_pos cc103).symm.trans h
    refine lv_swT (tgt := 92) (k := 103) hx hb dX10_factOf_1 cc103 (by decide) (by decide) ?_
    refine lv_iconst (v := 2) hx hb dX10_factOf_92 (by decide) ?_
    subst h
    exact eI C0 hPD.1 hPD.2 hS rfl dX10_factOf_93
  have h := (if_neg cc103).symm.trans h
  by_cases cc104 : p0 = 104
  · have h := (if_pos cc104).symm.trans h
    refine lv_swT (tgt := 100) (k := 104) hx hb dX10_factOf_1 cc104 (by decide) (by decide) ?_
    refine lv_bipush (v := 6) hx hb dX10_factOf_100 (by decide) ?_
    subst h
    exact eI C0 hPD.1 hPD.2 hS rfl dX10_factOf_102
  have h := (if_neg cc104).symm.trans h
  by_cases cc108 : p0 = 108
  · have h := (if_pos cc108).symm.trans h
    refine lv_swT (tgt := 98) (k := 108) hx hb dX10_factOf_1 cc108 (by decide) (by decide) ?_
    refine lv_iconst (v := 5) hx hb dX10_factOf_98 (by decide) ?_
    subst h
    exact eI C0 hPD.1 hPD.2 hS rfl dX10_factOf_99
  have h := (if_neg cc108).symm.trans h
  by_cases cc110 : p0 = 110
  · have h := (if_pos cc110).symm.trans h
    refine lv_swT (tgt := 96) (k := 110) hx hb dX10_factOf_1 cc110 (by decide) (by decide) ?_
    refine lv_iconst (v := 4) hx hb dX10_factOf_96 (by decide) ?_
    subst h
    exact eI C0 hPD.1 hPD.2 hS rfl dX10_factOf_97
  have h := (if_neg cc110).symm.trans h
  by_cases cc112 : p0 = 112
  · have h := (if_pos cc112).symm.trans h
    refine lv_swT (tgt := 88) (k := 112) hx hb dX10_factOf_1 cc112 (by decide) (by decide) ?_
    refine lv_iconst (v := 0) hx hb dX10_factOf_88 (by decide) ?_
    subst h
    exact eI C0 hPD.1 hPD.2 hS rfl dX10_factOf_89
  have h := (if_neg cc112).symm.trans h
  by_cases cc116 : p0 = 116
  · have h := (if_pos cc116).symm.trans h
    refine lv_swT (tgt := 90) (k := 116) hx hb dX10_factOf_1 cc116 (by decide) (by decide) ?_
    refine lv_iconst (v := 1) hx hb dX10_factOf_90 (by decide) ?_
    subst h
    exact eI C0 hPD.1 hPD.2 hS rfl dX10_factOf_91
  have h := (if_neg cc116).symm.trans h
  refine lv_swTD (tgt := 106) (ks := [99, 100, 103, 104, 108, 110, 112, 116]) hx hb dX10_factOf_1 (by decide) (by decide) ⟨cc99, cc100, cc103, cc104, cc108, cc110, cc112, cc116, trivial⟩ (by decide) ?_
  refine lv_iconst (v := (-1)) hx hb dX10_factOf_106 (by decide) ?_
  subst h
  exact eI C0 hPD.1 hPD.2 hS rfl dX10_factOf_107
abbrev rmX10_sumSign : Room := { frames := 0, cells := 0, slots := 0, locals := 0 }
set_option maxRecDepth 100000 in
set_option maxHeartbeats 4000000 in
theorem kt_X10_sumSign (l : Launch) (G : Gp) (p0 : Int32) : CtrI l yX10_sumSign cX10_sumSign 1 (some .int) rmX10_sumSign G [.int p0] ([] : va_W) (f10_sumSign p0) ([] : va_W) := by
  obtain ⟨res, h⟩ : ∃ res, f10_sumSign p0 = res := ⟨_, rfl⟩
  rw [h]
  refine ctrI_of (cc := cX10_sumSign) (maxL := 1) (ret := (some .int)) (by decide +kernel) rfl (Nat.le_of_ble_eq_true rfl) (fun p e s m below meth c DA C0 hP hD ls hl => ?_)
  have hPD : WD G DA ([] : va_W) s.heap := ⟨hP, hD⟩
  have hS : va_S DA s.heap s.heap [] := va_S.rf
  have hl : lv_has ls 1 [(0, .int p0)] := hl
  obtain ⟨hx, hb, hml, hown, hts⟩ := C0.1
  have hK := C0.2.2.2.1
  unfold f10_sumSign at h
  refine lv_iload_n hx hb dX10_sumSign_0 rfl (lv_at hl 0 rfl) ?_
  refine lv_bipush (v := 43) hx hb dX10_sumSign_1 (by decide) ?_
  refine lv_icmp_ne (tgt := 10) hx hb dX10_sumSign_3 (by decide) (fun cc1 => ?_) (fun cc1 => ?_)
  · have h := (if_neg cc1).symm.trans h
    refine lv_iload_n hx hb dX10_sumSign_10 rfl (lv_at hl 0 rfl) ?_
    refine lv_bipush (v := 45) hx hb dX10_sumSign_11 (by decide) ?_
    refine lv_icmp_ne (tgt := 20) hx hb dX10_sumSign_13 (by decide) (fun cc1 => ?_) (fun cc1 => ?_)
    · have h := (if_neg cc1).symm.trans h
      refine lv_iload_n hx hb dX10_sumSign_20 rfl (lv_at hl 0 rfl) ?_
      refine lv_bipush (v := 42) hx hb dX10_sumSign_21 (by decide) ?_
      refine lv_icmp_ne (tgt := 30) hx hb dX10_sumSign_23 (by decide) (fun cc1 => ?_) (fun cc1 => ?_)
      · have h := (if_neg cc1).symm.trans h
        refine lv_iload_n hx hb dX10_sumSign_30 rfl (lv_at hl 0 rfl) ?_
        refine lv_bipush (v := 47) hx hb dX10_sumSign_31 (by decide) ?_
        refine lv_icmp_ne (tgt := 40) hx hb dX10_sumSign_33 (by decide) (fun cc1 => ?_) (fun cc1 => ?_)
        · have h := (if_neg cc1).symm.trans h
          refine lv_iload_n hx hb dX10_sumSign_40 rfl (lv_at hl 0 rfl) ?_
          refine lv_bipush (v := 37) hx hb dX10_sumSign_41 (by decide) ?_
          refine lv_icmp_ne (tgt := 51) hx hb dX10_sumSign_43 (by decide) (fun cc1 => ?_) (fun cc1 => ?_)
          · have h := (if_neg cc1).symm.trans h
            refine lv_iconst (v := (-1)) hx hb dX10_sumSign_51 (by decide) ?_
            subst h
            exact eI C0 hPD.1 hPD.2 hS rfl dX10_sumSign_52
          · have h := (if_pos cc1).symm.trans h
            refine lv_bipush (v := 6) hx hb dX10_sumSign_46 (by decide) ?_
            refine lv_goto (tgt := 52) hx hb dX10_sumSign_48 (by decide) ?_
            subst h
            exact eI C0 hPD.1 hPD.2 hS rfl dX10_sumSign_52
        · have h := (if_pos cc1).symm.trans h
          refine lv_iconst (v := 5) hx hb dX10_sumSign_36 (by decide) ?_
          refine lv_goto (tgt := 52) hx hb dX10_sumSign_37 (by decide) ?_
          subst h
          exact eI C0 hPD.1 hPD.2 hS rfl dX10_sumSign_52
      · have h := (if_pos cc1).symm.trans h
        refine lv_iconst (v := 4) hx hb dX10_sumSign_26 (by decide) ?_
        refine lv_goto (tgt := 52) hx hb dX10_sumSign_27 (by decide) ?_
        subst h
        exact eI C0 hPD.1 hPD.2 hS rfl dX10_sumSign_52
    · have h := (if_pos cc1).symm.trans h
      refine lv_iconst (v := 3) hx hb dX10_sumSign_16 (by decide) ?_
      refine lv_goto (tgt := 52) hx hb dX10_sumSign_17 (by decide) ?_
      subst h
      exact eI C0 hPD.1 hPD.2 hS rfl dX10_sumSign_52
  · have h := (if_pos cc1).symm.trans h
    refine lv_iconst (v := 2) hx hb dX10_sumSign_6 (by decide) ?_
    refine lv_goto (tgt := 52) hx hb dX10_sumSign_7 (by decide) ?_
    subst h
    exact eI C0 hPD.1 hPD.2 hS rfl dX10_sumSign_52
abbrev rmX10_closesSums : Room := { frames := 1, cells := 0, slots := 0, locals := 22 }
set_option maxRecDepth 100000 in
set_option maxHeartbeats 4000000 in
theorem ww_f10_closesSums_b37  (C0 : Cx cX10_closesSums 2 none RX10 p s m args meth c G DA) {h0 : Nat} {a0 : Nat → Nat} {p1 : Int32}  {k0 : (Nat → Nat → Int32) → (Nat → Int32) → Option ((Nat → Nat → Int32) × (Nat → Int32))} {res : (Nat → Nat → Int32) × (Nat → Int32)} (hk0 : ∀ (A0 : Nat → Nat → Int32) (f0 : Nat → Int32), k0 A0 f0 = some res → ∀ (H : Heap) (locs : List Loc) (ls : Array Slot), WD G DA (wX10 G h0 a0 f0 A0) H → va_S DA s.heap H locs → lv_has ls 2 [(0, .ref h0), (1, .int p1)] → W p l e rmX10_closesSums s m args below meth c H locs 0 0 (MQ below (QV G DA (wX10 G h0 a0 res.2 res.1)) args s 0 0 DA) (F0 m 0 ls [])) : ∀ (A0 : Nat → Nat → Int32) (f0 : Nat → Int32), f10_closesSums_b37 p1 k0 A0 f0 = some res → ∀ (H : Heap) (locs : List Loc) (ls : Array Slot), WD G DA (wX10 G h0 a0 f0 A0) H → va_S DA s.heap H locs → lv_has ls 2 [(0, .ref h0), (1, .int p1)] → W p l e rmX10_closesSums s m args below meth c H locs 0 0 (MQ below (QV G DA (wX10 G h0 a0 res.2 res.1)) args s 0 0 DA) (F0 m 37 ls []) := by
  obtain ⟨hx, hb, hml, hown, hts⟩ := C0.1
  have hK := C0.2.2.2.1
  intro A0 f0 h _ _ _ hPD hS hl
  unfold f10_closesSums_b37 at h
  refine lv_aload_n hx hb dX10_closesSums_37 rfl (lv_at hl 0 rfl) ?_
  refine lv_aload_n hx hb dX10_closesSums_38 rfl (lv_at hl 0 rfl) ?_
  obtain ⟨q_3, hq_3, h⟩ := ob2 h
  refine kVI (As := []) (rest := [.ref h0]) C0 (kt_X10_waitTop l G h0 a0 f0 A0 hq_3) gi_V_X10_170_X10_waitTop (n := 0) rfl (by decide +kernel) rfl ⟨rfl, rfl, Nat.le_of_ble_eq_true rfl, Nat.le_of_ble_eq_true rfl⟩ hPD hS 0 10 rfl rfl rfl [0, 1, 2, 3, 4, 5, 6, 7, 8, 9, 10, 11, 12, 13, 14, 15, 16, 17, 18, 19, 20, 21, 22, 23, 24, 25, 26, 27, 28, 29, 30, 31, 32, 33] [] [0, 1, 2, 3, 4, 5, 6, 7, 8, 9, 10, 11, 12, 13, 14, 15, 16, 17, 18, 19, 20, 21, 22, 23, 24, 25, 26, 27, 28, 29, 30, 31, 32, 33] (wr := ([] : va_W)) (wN := (wX10 G h0 a0 f0 A0)) rfl rfl rfl rfl rfl hl.1 (Nat.le_of_ble_eq_true rfl) dX10_closesSums_39 (fun H locs hPD hS => ?_)
  refine lv_iconst (v := 0) hx hb dX10_closesSums_42 (by decide) ?_
  obtain ⟨q_4, hq_4, h⟩ := ob2 h
  refine kVV (As := [.int q_3, .int 0]) (rest := []) C0 (kt_X10_notes l G h0 a0 f0 A0 q_3 0 hq_4) gi_V_X10_173_X10_notes (n := 2) rfl (by decide +kernel) rfl ⟨rfl, rfl, Nat.le_of_ble_eq_true rfl, Nat.le_of_ble_eq_true rfl⟩ hPD hS 0 10 rfl rfl rfl [0, 1, 2, 3, 4, 5, 6, 7, 8, 9, 10, 11, 12, 13, 14, 15, 16, 17, 18, 19, 20, 21, 22, 23, 24, 25, 26, 27, 28, 29, 30, 31, 32, 33] [] [0, 1, 2, 3, 4, 5, 6, 7, 8, 9, 10, 11, 12, 13, 14, 15, 16, 17, 18, 19, 20, 21, 22, 23, 24, 25, 26, 27, 28, 29, 30, 31, 32, 33] (wr := ([] : va_W)) (wN := (wX10 G h0 a0 q_4.2 q_4.1)) rfl rfl rfl rfl rfl hl.1 (Nat.le_of_ble_eq_true rfl) dX10_closesSums_43 (fun H locs hPD hS => ?_)
  refine lv_aload_n hx hb dX10_closesSums_46 rfl (lv_at hl 0 rfl) ?_
  refine lv_aload_n hx hb dX10_closesSums_47 rfl (lv_at hl 0 rfl) ?_
  refine va_get (D := G.1) (ci := 10) (v := .int (q_4.2 15)) (C := RX10) (T := TX10) (N := 52) hx hb hts inlX10 hown hK hPD.1 0 rfl rfl 15 (by decide) (hts _ gw_572) (fun _ h9 => h9) rfl dX10_closesSums_48 ?_
  refine lv_iconst (v := 1) hx hb dX10_closesSums_51 (by decide) ?_
  refine lv_isub hx hb dX10_closesSums_52 ?_
  refine va_put (D := G.1) (ci := 10) (v := .int ((q_4.2 15) - 1)) (ty := .int) (C := RX10) (T := TX10) (N := 52) hx hb hts inlX10 tyX10 tyX10_ok nmX10 hown hK hPD.1 hPD.2 hS 0 rfl rfl 15 (by decide) (hts _ gw_572) (fun _ h9 => h9) rfl (by decide +kernel) rfl rfl (Nat.le_of_ble_eq_true rfl) dX10_closesSums_53 (fun H locs hP hD hS => ?_)
  obtain ⟨f0_5, ef0_5, h⟩ := lvl h
  have hPD : WD G DA (wX10 G h0 a0 f0_5 q_4.1) H := by rw [ef0_5]; exact ⟨hP, hD⟩
  clear ef0_5 hP hD
  refine lv_goto (tgt := 0) hx hb dX10_closesSums_56 (by decide) ?_
  exact hk0 q_4.1 f0_5 h _ _ _ hPD hS (lv_sub hl [0, 1] rfl)
set_option maxRecDepth 100000 in
set_option maxHeartbeats 4000000 in
theorem ww_f10_closesSums_b17  (C0 : Cx cX10_closesSums 2 none RX10 p s m args meth c G DA) {h0 : Nat} {a0 : Nat → Nat} {p1 : Int32}  {k0 : (Nat → Nat → Int32) → (Nat → Int32) → Option ((Nat → Nat → Int32) × (Nat → Int32))} {res : (Nat → Nat → Int32) × (Nat → Int32)} (hk0 : ∀ (A0 : Nat → Nat → Int32) (f0 : Nat → Int32), k0 A0 f0 = some res → ∀ (H : Heap) (locs : List Loc) (ls : Array Slot), WD G DA (wX10 G h0 a0 f0 A0) H → va_S DA s.heap H locs → lv_has ls 2 [(0, .ref h0), (1, .int p1)] → W p l e rmX10_closesSums s m args below meth c H locs 0 0 (MQ below (QV G DA (wX10 G h0 a0 res.2 res.1)) args s 0 0 DA) (F0 m 0 ls [])) : ∀ (A0 : Nat → Nat → Int32) (f0 : Nat → Int32), f10_closesSums_b17 p1 k0 A0 f0 = some res → ∀ (H : Heap) (locs : List Loc) (ls : Array Slot), WD G DA (wX10 G h0 a0 f0 A0) H → va_S DA s.heap H locs → lv_has ls 2 [(0, .ref h0), (1, .int p1)] → W p l e rmX10_closesSums s m args below meth c H locs 0 0 (MQ below (QV G DA (wX10 G h0 a0 res.2 res.1)) args s 0 0 DA) (F0 m 17 ls []) := by
  obtain ⟨hx, hb, hml, hown, hts⟩ := C0.1
  have hK := C0.2.2.2.1
  intro A0 f0 h _ _ _ hPD hS hl
  unfold f10_closesSums_b17 at h
  refine lv_iload_n hx hb dX10_closesSums_17 rfl (lv_at hl 1 rfl) ?_
  refine lv_if_eq (tgt := 59) hx hb dX10_closesSums_18 (by decide) (fun cc1 => ?_) (fun cc1 => ?_)
  · have h := (if_pos cc1).symm.trans h
    obtain rfl := Option.some.inj h
    exact eV C0 hPD.1 hPD.2 hS dX10_closesSums_59
  · have h := (if_neg cc1).symm.trans h
    refine lv_aload_n hx hb dX10_closesSums_21 rfl (lv_at hl 0 rfl) ?_
    obtain ⟨q_2, hq_2, h⟩ := ob2 h
    refine kVI (As := []) (rest := []) C0 (kt_X10_waitTop l G h0 a0 f0 A0 hq_2) gi_V_X10_170_X10_waitTop (n := 0) rfl (by decide +kernel) rfl ⟨rfl, rfl, Nat.le_of_ble_eq_true rfl, Nat.le_of_ble_eq_true rfl⟩ hPD hS 0 10 rfl rfl rfl [0, 1, 2, 3, 4, 5, 6, 7, 8, 9, 10, 11, 12, 13, 14, 15, 16, 17, 18, 19, 20, 21, 22, 23, 24, 25, 26, 27, 28, 29, 30, 31, 32, 33] [] [0, 1, 2, 3, 4, 5, 6, 7, 8, 9, 10, 11, 12, 13, 14, 15, 16, 17, 18, 19, 20, 21, 22, 23, 24, 25, 26, 27, 28, 29, 30, 31, 32, 33] (wr := ([] : va_W)) (wN := (wX10 G h0 a0 f0 A0)) rfl rfl rfl rfl rfl hl.1 (Nat.le_of_ble_eq_true rfl) dX10_closesSums_22 (fun H locs hPD hS => ?_)
    refine lv_iconst (v := 2) hx hb dX10_closesSums_25 (by decide) ?_
    refine lv_icmp_eq (tgt := 37) hx hb dX10_closesSums_26 (by decide) (fun cc1 => ?_) (fun cc1 => ?_)
    · have h := (if_pos cc1).symm.trans h
      exact ww_f10_closesSums_b37 C0 hk0 A0 f0 h _ _ _ hPD hS (lv_sub hl [0, 1] rfl)
    · have h := (if_neg cc1).symm.trans h
      refine lv_aload_n hx hb dX10_closesSums_29 rfl (lv_at hl 0 rfl) ?_
      obtain ⟨q_6, hq_6, h⟩ := ob2 h
      refine kVI (As := []) (rest := []) C0 (kt_X10_waitTop l G h0 a0 f0 A0 hq_6) gi_V_X10_170_X10_waitTop (n := 0) rfl (by decide +kernel) rfl ⟨rfl, rfl, Nat.le_of_ble_eq_true rfl, Nat.le_of_ble_eq_true rfl⟩ hPD hS 0 10 rfl rfl rfl [0, 1, 2, 3, 4, 5, 6, 7, 8, 9, 10, 11, 12, 13, 14, 15, 16, 17, 18, 19, 20, 21, 22, 23, 24, 25, 26, 27, 28, 29, 30, 31, 32, 33] [] [0, 1, 2, 3, 4, 5, 6, 7, 8, 9, 10, 11, 12, 13, 14, 15, 16, 17, 18, 19, 20, 21, 22, 23, 24, 25, 26, 27, 28, 29, 30, 31, 32, 33] (wr := ([] : va_W)) (wN := (wX10 G h0 a0 f0 A0)) rfl rfl rfl rfl rfl hl.1 (Nat.le_of_ble_eq_true rfl) dX10_closesSums_30 (fun H locs hPD hS => ?_)
      refine lv_iconst (v := 3) hx hb dX10_closesSums_33 (by decide) ?_
      refine lv_icmp_ne (tgt := 59) hx hb dX10_closesSums_34 (by decide) (fun cc1 => ?_) (fun cc1 => ?_)
      · have h := (if_neg cc1).symm.trans h
        obtain rfl := Option.some.inj h
        exact eV C0 hPD.1 hPD.2 hS dX10_closesSums_59
      · have h := (if_pos cc1).symm.trans h
        exact ww_f10_closesSums_b37 C0 hk0 A0 f0 h _ _ _ hPD hS (lv_sub hl [0, 1] rfl)
set_option maxRecDepth 100000 in
set_option maxHeartbeats 4000000 in
theorem ww_f10_closesSums_b0  (C0 : Cx cX10_closesSums 2 none RX10 p s m args meth c G DA) {h0 : Nat} {a0 : Nat → Nat} {p1 : Int32}  {k0 : (Nat → Nat → Int32) → (Nat → Int32) → Option ((Nat → Nat → Int32) × (Nat → Int32))} {res : (Nat → Nat → Int32) × (Nat → Int32)}  (hk0 : ∀ (A0 : Nat → Nat → Int32) (f0 : Nat → Int32), k0 A0 f0 = some res → ∀ (H : Heap) (locs : List Loc) (ls : Array Slot), WD G DA (wX10 G h0 a0 f0 A0) H → va_S DA s.heap H locs → lv_has ls 2 [(0, .ref h0), (1, .int p1)] → W p l e rmX10_closesSums s m args below meth c H locs 0 0 (MQ below (QV G DA (wX10 G h0 a0 res.2 res.1)) args s 0 0 DA) (F0 m 0 ls [])) : ∀ (A0 : Nat → Nat → Int32) (f0 : Nat → Int32), f10_closesSums_b0 p1  k0 A0 f0 = some res → ∀ (H : Heap) (locs : List Loc) (ls : Array Slot), WD G DA (wX10 G h0 a0 f0 A0) H → va_S DA s.heap H locs → lv_has ls 2 [(0, .ref h0), (1, .int p1)] → W p l e rmX10_closesSums s m args below meth c H locs 0 0 (MQ below (QV G DA (wX10 G h0 a0 res.2 res.1)) args s 0 0 DA) (F0 m 0 ls []) := by
  obtain ⟨hx, hb, hml, hown, hts⟩ := C0.1
  have hK := C0.2.2.2.1
  intro A0 f0 h _ _ _ hPD hS hl
  unfold f10_closesSums_b0 at h
  refine lv_aload_n hx hb dX10_closesSums_0 rfl (lv_at hl 0 rfl) ?_
  obtain ⟨q_1, hq_1, h⟩ := ob2 h
  refine kVI (As := []) (rest := []) C0 (kt_X10_waitTop l G h0 a0 f0 A0 hq_1) gi_V_X10_170_X10_waitTop (n := 0) rfl (by decide +kernel) rfl ⟨rfl, rfl, Nat.le_of_ble_eq_true rfl, Nat.le_of_ble_eq_true rfl⟩ hPD hS 0 10 rfl rfl rfl [0, 1, 2, 3, 4, 5, 6, 7, 8, 9, 10, 11, 12, 13, 14, 15, 16, 17, 18, 19, 20, 21, 22, 23, 24, 25, 26, 27, 28, 29, 30, 31, 32, 33] [] [0, 1, 2, 3, 4, 5, 6, 7, 8, 9, 10, 11, 12, 13, 14, 15, 16, 17, 18, 19, 20, 21, 22, 23, 24, 25, 26, 27, 28, 29, 30, 31, 32, 33] (wr := ([] : va_W)) (wN := (wX10 G h0 a0 f0 A0)) rfl rfl rfl rfl rfl hl.1 (Nat.le_of_ble_eq_true rfl) dX10_closesSums_1 (fun H locs hPD hS => ?_)
  refine lv_iconst (v := 4) hx hb dX10_closesSums_4 (by decide) ?_
  refine lv_icmp_lt (tgt := 17) hx hb dX10_closesSums_5 (by decide) (fun cc1 => ?_) (fun cc1 => ?_)
  · have h := (if_pos cc1).symm.trans h
    exact ww_f10_closesSums_b17 C0 hk0 A0 f0 h _ _ _ hPD hS (lv_sub hl [0, 1] rfl)
  · have h := (if_neg cc1).symm.trans h
    refine lv_aload_n hx hb dX10_closesSums_8 rfl (lv_at hl 0 rfl) ?_
    obtain ⟨q_7, hq_7, h⟩ := ob2 h
    refine kVI (As := []) (rest := []) C0 (kt_X10_waitTop l G h0 a0 f0 A0 hq_7) gi_V_X10_170_X10_waitTop (n := 0) rfl (by decide +kernel) rfl ⟨rfl, rfl, Nat.le_of_ble_eq_true rfl, Nat.le_of_ble_eq_true rfl⟩ hPD hS 0 10 rfl rfl rfl [0, 1, 2, 3, 4, 5, 6, 7, 8, 9, 10, 11, 12, 13, 14, 15, 16, 17, 18, 19, 20, 21, 22, 23, 24, 25, 26, 27, 28, 29, 30, 31, 32, 33] [] [0, 1, 2, 3, 4, 5, 6, 7, 8, 9, 10, 11, 12, 13, 14, 15, 16, 17, 18, 19, 20, 21, 22, 23, 24, 25, 26, 27, 28, 29, 30, 31, 32, 33] (wr := ([] : va_W)) (wN := (wX10 G h0 a0 f0 A0)) rfl rfl rfl rfl rfl hl.1 (Nat.le_of_ble_eq_true rfl) dX10_closesSums_9 (fun H locs hPD hS => ?_)
    refine lv_bipush (v := 6) hx hb dX10_closesSums_12 (by decide) ?_
    refine lv_icmp_le (tgt := 37) hx hb dX10_closesSums_14 (by decide) (fun cc1 => ?_) (fun cc1 => ?_)
    · have h := (if_pos cc1).symm.trans h
      exact ww_f10_closesSums_b37 C0 hk0 A0 f0 h _ _ _ hPD hS (lv_sub hl [0, 1] rfl)
    · have h := (if_neg cc1).symm.trans h
      exact ww_f10_closesSums_b17 C0 hk0 A0 f0 h _ _ _ hPD hS (lv_sub hl [0, 1] rfl)
set_option maxRecDepth 100000 in
set_option maxHeartbeats 4000000 in
theorem ww_f10_closesSums_l0  (C0 : Cx cX10_closesSums 2 none RX10 p s m args meth c G DA) {h0 : Nat} {a0 : Nat → Nat} {p1 : Int32}   {res : (Nat → Nat → Int32) × (Nat → Int32)}  : ∀ (n : Nat) (A0 : Nat → Nat → Int32) (f0 : Nat → Int32), f10_closesSums_l0 p1  n A0 f0 = some res → ∀ (H : Heap) (locs : List Loc) (ls : Array Slot), WD G DA (wX10 G h0 a0 f0 A0) H → va_S DA s.heap H locs → lv_has ls 2 [(0, .ref h0), (1, .int p1)] → W p l e rmX10_closesSums s m args below meth c H locs 0 0 (MQ below (QV G DA (wX10 G h0 a0 res.2 res.1)) args s 0 0 DA) (F0 m 0 ls []) := by
  intro n
  induction n with
  | zero => intro A0 f0 h; cases h
  | succ n ih => intro A0 f0 h; exact ww_f10_closesSums_b0 C0  ih A0 f0 h
set_option maxRecDepth 100000 in
set_option maxHeartbeats 4000000 in
theorem kt_X10_closesSums (l : Launch) (G : Gp) (h0 : Nat) (a0 : Nat → Nat) (f0 : Nat → Int32) (A0 : Nat → Nat → Int32) (p1 : Int32) : ∀ {r : (Nat → Nat → Int32) × (Nat → Int32)}, f10_closesSums f0 A0 p1 = some r → CtrV l yX10_closesSums cX10_closesSums 2 none rmX10_closesSums G [.ref h0, .int p1] (wX10 G h0 a0 f0 A0) (wX10 G h0 a0 r.2 r.1) := by
  intro res h
  refine ctrV_of (cc := cX10_closesSums) (maxL := 2) (ret := none) (by decide +kernel) rfl (Nat.le_of_ble_eq_true rfl) (fun p e s m below meth c DA C0 hP hD ls hl => ?_)
  have hPD : WD G DA (wX10 G h0 a0 f0 A0) s.heap := ⟨hP, hD⟩
  have hS : va_S DA s.heap s.heap [] := va_S.rf
  have hl : lv_has ls 2 [(0, .ref h0), (1, .int p1)] := hl
  obtain ⟨hx, hb, hml, hown, hts⟩ := C0.1
  have hK := C0.2.2.2.1
  unfold f10_closesSums at h
  exact ww_f10_closesSums_l0 C0 NF A0 f0 h _ _ _ hPD hS (lv_sub hl [0, 1] rfl)
abbrev rmX10_readsFactor : Room := { frames := 3, cells := 0, slots := 0, locals := 61 }
set_option maxRecDepth 100000 in
set_option maxHeartbeats 4000000 in
theorem ww_f10_readsFactor_b0  (C0 : Cx cX10_readsFactor 2 (some .boolean) RX10 p s m args meth c G DA) {h0 : Nat} {a0 : Nat → Nat}  {k0 : (Nat → Nat → Int32) → (Nat → Int32) → Option (Int32 × (Nat → Nat → Int32) × (Nat → Int32))} {res : Int32 × (Nat → Nat → Int32) × (Nat → Int32)}  (hk0 : ∀ (A0 : Nat → Nat → Int32) (f0 : Nat → Int32), k0 A0 f0 = some res → ∀ (H : Heap) (locs : List Loc) (ls : Array Slot), WD G DA (wX10 G h0 a0 f0 A0) H → va_S DA s.heap H locs → lv_has ls 2 [(0, .ref h0)] → W p l e rmX10_readsFactor s m args below meth c H locs 0 0 (MQ below (QI G DA res.1 (wX10 G h0 a0 res.2.2 res.2.1)) args s 0 0 DA) (F0 m 0 ls [])) : ∀ (A0 : Nat → Nat → Int32) (f0 : Nat → Int32), f10_readsFactor_b0   k0 A0 f0 = some res → ∀ (H : Heap) (locs : List Loc) (ls : Array Slot), WD G DA (wX10 G h0 a0 f0 A0) H → va_S DA s.heap H locs → lv_has ls 2 [(0, .ref h0)] → W p l e rmX10_readsFactor s m args below meth c H locs 0 0 (MQ below (QI G DA res.1 (wX10 G h0 a0 res.2.2 res.2.1)) args s 0 0 DA) (F0 m 0 ls []) := by
  obtain ⟨hx, hb, hml, hown, hts⟩ := C0.1
  have hK := C0.2.2.2.1
  intro A0 f0 h _ _ _ hPD hS hl
  unfold f10_readsFactor_b0 at h
  refine lv_aload_n hx hb dX10_readsFactor_0 rfl (lv_at hl 0 rfl) ?_
  obtain ⟨q_1, hq_1, h⟩ := ob2 h
  refine kVI (As := []) (rest := []) C0 (kt_X10_here l G h0 a0 f0 A0 hq_1) gi_V_X10_144_X10_here (n := 0) rfl (by decide +kernel) rfl ⟨rfl, rfl, Nat.le_of_ble_eq_true rfl, Nat.le_of_ble_eq_true rfl⟩ hPD hS 0 10 rfl rfl rfl [0, 1, 2, 3, 4, 5, 6, 7, 8, 9, 10, 11, 12, 13, 14, 15, 16, 17, 18, 19, 20, 21, 22, 23, 24, 25, 26, 27, 28, 29, 30, 31, 32, 33] [] [0, 1, 2, 3, 4, 5, 6, 7, 8, 9, 10, 11, 12, 13, 14, 15, 16, 17, 18, 19, 20, 21, 22, 23, 24, 25, 26, 27, 28, 29, 30, 31, 32, 33] (wr := ([] : va_W)) (wN := (wX10 G h0 a0 f0 A0)) rfl rfl rfl rfl rfl hl.1 (Nat.le_of_ble_eq_true rfl) dX10_readsFactor_1 (fun H locs hPD hS => ?_)
  refine lv_bipush (v := 91) hx hb dX10_readsFactor_4 (by decide) ?_
  refine lv_icmp_ne (tgt := 20) hx hb dX10_readsFactor_6 (by decide) (fun cc1 => ?_) (fun cc1 => ?_)
  · have h := (if_neg cc1).symm.trans h
    refine lv_aload_n hx hb dX10_readsFactor_20 rfl (lv_at hl 0 rfl) ?_
    obtain ⟨q_2, hq_2, h⟩ := ob2 h
    refine kVI (As := []) (rest := []) C0 (kt_X10_isDigit l G h0 a0 f0 A0 hq_2) gi_V_X10_157_X10_isDigit (n := 0) rfl (by decide +kernel) rfl ⟨rfl, rfl, Nat.le_of_ble_eq_true rfl, Nat.le_of_ble_eq_true rfl⟩ hPD hS 0 10 rfl rfl rfl [0, 1, 2, 3, 4, 5, 6, 7, 8, 9, 10, 11, 12, 13, 14, 15, 16, 17, 18, 19, 20, 21, 22, 23, 24, 25, 26, 27, 28, 29, 30, 31, 32, 33] [] [0, 1, 2, 3, 4, 5, 6, 7, 8, 9, 10, 11, 12, 13, 14, 15, 16, 17, 18, 19, 20, 21, 22, 23, 24, 25, 26, 27, 28, 29, 30, 31, 32, 33] (wr := ([] : va_W)) (wN := (wX10 G h0 a0 f0 A0)) rfl rfl rfl rfl rfl hl.1 (Nat.le_of_ble_eq_true rfl) dX10_readsFactor_21 (fun H locs hPD hS => ?_)
    refine lv_if_eq (tgt := 47) hx hb dX10_readsFactor_24 (by decide) (fun cc1 => ?_) (fun cc1 => ?_)
    · have h := (if_pos cc1).symm.trans h
      refine lv_aload_n hx hb dX10_readsFactor_47 rfl (lv_at hl 0 rfl) ?_
      obtain ⟨q_3, hq_3, h⟩ := ob2 h
      refine kVI (As := []) (rest := []) C0 (kt_X10_here l G h0 a0 f0 A0 hq_3) gi_V_X10_144_X10_here (n := 0) rfl (by decide +kernel) rfl ⟨rfl, rfl, Nat.le_of_ble_eq_true rfl, Nat.le_of_ble_eq_true rfl⟩ hPD hS 0 10 rfl rfl rfl [0, 1, 2, 3, 4, 5, 6, 7, 8, 9, 10, 11, 12, 13, 14, 15, 16, 17, 18, 19, 20, 21, 22, 23, 24, 25, 26, 27, 28, 29, 30, 31, 32, 33] [] [0, 1, 2, 3, 4, 5, 6, 7, 8, 9, 10, 11, 12, 13, 14, 15, 16, 17, 18, 19, 20, 21, 22, 23, 24, 25, 26, 27, 28, 29, 30, 31, 32, 33] (wr := ([] : va_W)) (wN := (wX10 G h0 a0 f0 A0)) rfl rfl rfl rfl rfl hl.1 (Nat.le_of_ble_eq_true rfl) dX10_readsFactor_48 (fun H locs hPD hS => ?_)
      refine kSI (As := [.int q_3]) (rest := []) C0 (kt_X10_factOf l G  q_3) gi_S_X10_183_X10_factOf (n := 1) rfl (by decide +kernel) ⟨rfl, rfl, Nat.le_of_ble_eq_true rfl, Nat.le_of_ble_eq_true rfl⟩ hPD hS [] [0, 1, 2, 3, 4, 5, 6, 7, 8, 9, 10, 11, 12, 13, 14, 15, 16, 17, 18, 19, 20, 21, 22, 23, 24, 25, 26, 27, 28, 29, 30, 31, 32, 33] [0, 1, 2, 3, 4, 5, 6, 7, 8, 9, 10, 11, 12, 13, 14, 15, 16, 17, 18, 19, 20, 21, 22, 23, 24, 25, 26, 27, 28, 29, 30, 31, 32, 33] (wr := (wX10 G h0 a0 f0 A0)) (wN := (wX10 G h0 a0 f0 A0)) rfl rfl rfl rfl rfl hl.1 (Nat.le_of_ble_eq_true rfl) dX10_readsFactor_51 (fun H locs hPD hS => ?_)
      refine lv_istore_n (lv' := [(1, .int (f10_factOf q_3)), (0, .ref h0)]) hx hb dX10_readsFactor_54 rfl hl (by decide) rfl (fun ls hl => ?_)
      refine lv_iload_n hx hb dX10_readsFactor_55 rfl (lv_at hl 0 rfl) ?_
      refine lv_iconst (v := (-1)) hx hb dX10_readsFactor_56 (by decide) ?_
      refine lv_icmp_ne (tgt := 70) hx hb dX10_readsFactor_57 (by decide) (fun cc1 => ?_) (fun cc1 => ?_)
      · have h := (if_neg cc1).symm.trans h
        refine lv_aload_n hx hb dX10_readsFactor_70 rfl (lv_at hl 1 rfl) ?_
        refine lv_iconst (v := 1) hx hb dX10_readsFactor_71 (by decide) ?_
        refine lv_iload_n hx hb dX10_readsFactor_72 rfl (lv_at hl 0 rfl) ?_
        obtain ⟨q_4, hq_4, h⟩ := ob2 h
        refine kVV (As := [.int 1, .int (f10_factOf q_3)]) (rest := []) C0 (kt_X10_notes l G h0 a0 f0 A0 1 (f10_factOf q_3) hq_4) gi_V_X10_173_X10_notes (n := 2) rfl (by decide +kernel) rfl ⟨rfl, rfl, Nat.le_of_ble_eq_true rfl, Nat.le_of_ble_eq_true rfl⟩ hPD hS 0 10 rfl rfl rfl [0, 1, 2, 3, 4, 5, 6, 7, 8, 9, 10, 11, 12, 13, 14, 15, 16, 17, 18, 19, 20, 21, 22, 23, 24, 25, 26, 27, 28, 29, 30, 31, 32, 33] [] [0, 1, 2, 3, 4, 5, 6, 7, 8, 9, 10, 11, 12, 13, 14, 15, 16, 17, 18, 19, 20, 21, 22, 23, 24, 25, 26, 27, 28, 29, 30, 31, 32, 33] (wr := ([] : va_W)) (wN := (wX10 G h0 a0 q_4.2 q_4.1)) rfl rfl rfl rfl rfl hl.1 (Nat.le_of_ble_eq_true rfl) dX10_readsFactor_73 (fun H locs hPD hS => ?_)
        refine lv_aload_n hx hb dX10_readsFactor_76 rfl (lv_at hl 1 rfl) ?_
        refine lv_aload_n hx hb dX10_readsFactor_77 rfl (lv_at hl 1 rfl) ?_
        refine va_get (D := G.1) (ci := 10) (v := .int (q_4.2 9)) (C := RX10) (T := TX10) (N := 52) hx hb hts inlX10 hown hK hPD.1 0 rfl rfl 9 (by decide) (hts _ gw_551) (fun _ h9 => h9) rfl dX10_readsFactor_78 ?_
        refine lv_iconst (v := 1) hx hb dX10_readsFactor_81 (by decide) ?_
        refine lv_iadd hx hb dX10_readsFactor_82 ?_
        refine va_put (D := G.1) (ci := 10) (v := .int ((q_4.2 9) + 1)) (ty := .int) (C := RX10) (T := TX10) (N := 52) hx hb hts inlX10 tyX10 tyX10_ok nmX10 hown hK hPD.1 hPD.2 hS 0 rfl rfl 9 (by decide) (hts _ gw_551) (fun _ h9 => h9) rfl (by decide +kernel) rfl rfl (Nat.le_of_ble_eq_true rfl) dX10_readsFactor_83 (fun H locs hP hD hS => ?_)
        obtain ⟨f0_5, ef0_5, h⟩ := lvl h
        have hPD : WD G DA (wX10 G h0 a0 f0_5 q_4.1) H := by rw [ef0_5]; exact ⟨hP, hD⟩
        clear ef0_5 hP hD
        refine lv_iconst (v := 1) hx hb dX10_readsFactor_86 (by decide) ?_
        obtain rfl := Option.some.inj h
        exact eZ C0 hPD.1 hPD.2 hS rfl rfl dX10_readsFactor_87
      · have h := (if_pos cc1).symm.trans h
        refine lv_aload_n hx hb dX10_readsFactor_60 rfl (lv_at hl 1 rfl) ?_
        refine lv_iconst (v := 1) hx hb dX10_readsFactor_61 (by decide) ?_
        refine lv_aload_n hx hb dX10_readsFactor_62 rfl (lv_at hl 1 rfl) ?_
        refine va_get (D := G.1) (ci := 10) (v := .int (f0 9)) (C := RX10) (T := TX10) (N := 52) hx hb hts inlX10 hown hK hPD.1 0 rfl rfl 9 (by decide) (hts _ gw_551) (fun _ h9 => h9) rfl dX10_readsFactor_63 ?_
        obtain ⟨q_6, hq_6, h⟩ := ob2 h
        refine kVI (As := [.int 1, .int (f0 9)]) (rest := []) C0 (kt_X10_wrongAt l G h0 a0 f0 A0 1 (f0 9) hq_6) gi_V_X10_151_X10_wrongAt (n := 2) rfl (by decide +kernel) rfl ⟨rfl, rfl, Nat.le_of_ble_eq_true rfl, Nat.le_of_ble_eq_true rfl⟩ hPD hS 0 10 rfl rfl rfl [0, 1, 2, 3, 4, 5, 6, 7, 8, 9, 10, 11, 12, 13, 14, 15, 16, 17, 18, 19, 20, 21, 22, 23, 24, 25, 26, 27, 28, 29, 30, 31, 32, 33] [] [0, 1, 2, 3, 4, 5, 6, 7, 8, 9, 10, 11, 12, 13, 14, 15, 16, 17, 18, 19, 20, 21, 22, 23, 24, 25, 26, 27, 28, 29, 30, 31, 32, 33] (wr := ([] : va_W)) (wN := (wX10 G h0 a0 q_6.2 A0)) rfl rfl rfl rfl rfl hl.1 (Nat.le_of_ble_eq_true rfl) dX10_readsFactor_66 (fun H locs hPD hS => ?_)
        obtain ⟨hz, h⟩ := ob h
        obtain rfl := Option.some.inj h
        exact eZ C0 hPD.1 hPD.2 hS rfl (nbool (Classical.not_not.mp hz)) dX10_readsFactor_69
    · have h := (if_neg cc1).symm.trans h
      refine lv_aload_n hx hb dX10_readsFactor_27 rfl (lv_at hl 0 rfl) ?_
      obtain ⟨q_7, hq_7, h⟩ := ob2 h
      refine kVI (As := []) (rest := []) C0 (kt_X10_readsNumber l G h0 a0 f0 A0 hq_7) gi_V_X10_180_X10_readsNumber (n := 0) rfl (by decide +kernel) rfl ⟨rfl, rfl, Nat.le_of_ble_eq_true rfl, Nat.le_of_ble_eq_true rfl⟩ hPD hS 0 10 rfl rfl rfl [0, 1, 2, 3, 4, 5, 6, 7, 8, 9, 10, 11, 12, 13, 14, 15, 16, 17, 18, 19, 20, 21, 22, 23, 24, 25, 26, 27, 28, 29, 30, 31, 32, 33] [] [0, 1, 2, 3, 4, 5, 6, 7, 8, 9, 10, 11, 12, 13, 14, 15, 16, 17, 18, 19, 20, 21, 22, 23, 24, 25, 26, 27, 28, 29, 30, 31, 32, 33] (wr := ([] : va_W)) (wN := (wX10 G h0 a0 q_7.2 A0)) rfl rfl rfl rfl rfl hl.1 (Nat.le_of_ble_eq_true rfl) dX10_readsFactor_28 (fun H locs hPD hS => ?_)
      refine lv_if_ne (tgt := 36) hx hb dX10_readsFactor_31 (by decide) (fun cc1 => ?_) (fun cc1 => ?_)
      · have h := (if_neg cc1).symm.trans h
        refine lv_aload_n hx hb dX10_readsFactor_36 rfl (lv_at hl 0 rfl) ?_
        refine lv_iconst (v := 0) hx hb dX10_readsFactor_37 (by decide) ?_
        refine lv_aload_n hx hb dX10_readsFactor_38 rfl (lv_at hl 0 rfl) ?_
        refine va_get (D := G.1) (ci := 10) (v := .int (q_7.2 12)) (C := RX10) (T := TX10) (N := 52) hx hb hts inlX10 hown hK hPD.1 0 rfl rfl 12 (by decide) (hts _ gw_562) (fun _ h9 => h9) rfl dX10_readsFactor_39 ?_
        obtain ⟨q_8, hq_8, h⟩ := ob2 h
        refine kVV (As := [.int 0, .int (q_7.2 12)]) (rest := []) C0 (kt_X10_notes l G h0 a0 q_7.2 A0 0 (q_7.2 12) hq_8) gi_V_X10_173_X10_notes (n := 2) rfl (by decide +kernel) rfl ⟨rfl, rfl, Nat.le_of_ble_eq_true rfl, Nat.le_of_ble_eq_true rfl⟩ hPD hS 0 10 rfl rfl rfl [0, 1, 2, 3, 4, 5, 6, 7, 8, 9, 10, 11, 12, 13, 14, 15, 16, 17, 18, 19, 20, 21, 22, 23, 24, 25, 26, 27, 28, 29, 30, 31, 32, 33] [] [0, 1, 2, 3, 4, 5, 6, 7, 8, 9, 10, 11, 12, 13, 14, 15, 16, 17, 18, 19, 20, 21, 22, 23, 24, 25, 26, 27, 28, 29, 30, 31, 32, 33] (wr := ([] : va_W)) (wN := (wX10 G h0 a0 q_8.2 q_8.1)) rfl rfl rfl rfl rfl hl.1 (Nat.le_of_ble_eq_true rfl) dX10_readsFactor_42 (fun H locs hPD hS => ?_)
        refine lv_iconst (v := 1) hx hb dX10_readsFactor_45 (by decide) ?_
        obtain rfl := Option.some.inj h
        exact eZ C0 hPD.1 hPD.2 hS rfl rfl dX10_readsFactor_46
      · have h := (if_pos cc1).symm.trans h
        refine lv_iconst (v := 0) hx hb dX10_readsFactor_34 (by decide) ?_
        obtain rfl := Option.some.inj h
        exact eZ C0 hPD.1 hPD.2 hS rfl rfl dX10_readsFactor_35
  · have h := (if_pos cc1).symm.trans h
    refine lv_aload_n hx hb dX10_readsFactor_9 rfl (lv_at hl 0 rfl) ?_
    refine lv_bipush (v := 14) hx hb dX10_readsFactor_10 (by decide) ?_
    obtain ⟨q_9, hq_9, h⟩ := ob2 h
    refine kVI (As := [.int 14]) (rest := []) C0 (kt_X10_opens l G h0 a0 f0 A0 14 hq_9) gi_V_X10_177_X10_opens (n := 1) rfl (by decide +kernel) rfl ⟨rfl, rfl, Nat.le_of_ble_eq_true rfl, Nat.le_of_ble_eq_true rfl⟩ hPD hS 0 10 rfl rfl rfl [0, 1, 2, 3, 4, 5, 6, 7, 8, 9, 10, 11, 12, 13, 14, 15, 16, 17, 18, 19, 20, 21, 22, 23, 24, 25, 26, 27, 28, 29, 30, 31, 32, 33] [] [0, 1, 2, 3, 4, 5, 6, 7, 8, 9, 10, 11, 12, 13, 14, 15, 16, 17, 18, 19, 20, 21, 22, 23, 24, 25, 26, 27, 28, 29, 30, 31, 32, 33] (wr := ([] : va_W)) (wN := (wX10 G h0 a0 q_9.2.2 q_9.2.1)) rfl rfl rfl rfl rfl hl.1 (Nat.le_of_ble_eq_true rfl) dX10_readsFactor_12 (fun H locs hPD hS => ?_)
    refine lv_if_ne (tgt := 0) hx hb dX10_readsFactor_15 (by decide) (fun cc1 => ?_) (fun cc1 => ?_)
    · have h := (if_neg cc1).symm.trans h
      exact hk0 q_9.2.1 q_9.2.2 h _ _ _ hPD hS (lv_sub hl [0] rfl)
    · have h := (if_pos cc1).symm.trans h
      refine lv_iconst (v := 0) hx hb dX10_readsFactor_18 (by decide) ?_
      obtain rfl := Option.some.inj h
      exact eZ C0 hPD.1 hPD.2 hS rfl rfl dX10_readsFactor_19
set_option maxRecDepth 100000 in
set_option maxHeartbeats 4000000 in
theorem ww_f10_readsFactor_l0  (C0 : Cx cX10_readsFactor 2 (some .boolean) RX10 p s m args meth c G DA) {h0 : Nat} {a0 : Nat → Nat}   {res : Int32 × (Nat → Nat → Int32) × (Nat → Int32)}  : ∀ (n : Nat) (A0 : Nat → Nat → Int32) (f0 : Nat → Int32), f10_readsFactor_l0   n A0 f0 = some res → ∀ (H : Heap) (locs : List Loc) (ls : Array Slot), WD G DA (wX10 G h0 a0 f0 A0) H → va_S DA s.heap H locs → lv_has ls 2 [(0, .ref h0)] → W p l e rmX10_readsFactor s m args below meth c H locs 0 0 (MQ below (QI G DA res.1 (wX10 G h0 a0 res.2.2 res.2.1)) args s 0 0 DA) (F0 m 0 ls []) := by
  intro n
  induction n with
  | zero => intro A0 f0 h; cases h
  | succ n ih => intro A0 f0 h; exact ww_f10_readsFactor_b0 C0  ih A0 f0 h
set_option maxRecDepth 100000 in
set_option maxHeartbeats 4000000 in
theorem kt_X10_readsFactor (l : Launch) (G : Gp) (h0 : Nat) (a0 : Nat → Nat) (f0 : Nat → Int32) (A0 : Nat → Nat → Int32) : ∀ {r : Int32 × (Nat → Nat → Int32) × (Nat → Int32)}, f10_readsFactor f0 A0 = some r → CtrI l yX10_readsFactor cX10_readsFactor 2 (some .boolean) rmX10_readsFactor G [.ref h0] (wX10 G h0 a0 f0 A0) r.1 (wX10 G h0 a0 r.2.2 r.2.1) := by
  intro res h
  refine ctrI_of (cc := cX10_readsFactor) (maxL := 2) (ret := (some .boolean)) (by decide +kernel) rfl (Nat.le_of_ble_eq_true rfl) (fun p e s m below meth c DA C0 hP hD ls hl => ?_)
  have hPD : WD G DA (wX10 G h0 a0 f0 A0) s.heap := ⟨hP, hD⟩
  have hS : va_S DA s.heap s.heap [] := va_S.rf
  have hl : lv_has ls 2 [(0, .ref h0)] := hl
  obtain ⟨hx, hb, hml, hown, hts⟩ := C0.1
  have hK := C0.2.2.2.1
  unfold f10_readsFactor at h
  exact ww_f10_readsFactor_l0 C0 NF A0 f0 h _ _ _ hPD hS (lv_sub hl [0] rfl)
abbrev rmX10_hasOpenSum : Room := { frames := 0, cells := 0, slots := 0, locals := 0 }
set_option maxRecDepth 100000 in
set_option maxHeartbeats 4000000 in
theorem ww_f10_hasOpenSum_b2  (C0 : Cx cX10_hasOpenSum 3 (some .boolean) RX10 p s m args meth c G DA) {h0 : Nat} {a0 : Nat → Nat} {f0 : Nat → Int32} {A0 : Nat → Nat → Int32} {p1 : Int32}  {k2 : Int32 → Option (Int32)} {res : Int32}  (hk2 : ∀ (l2 : Int32), k2 l2 = some res → ∀ (H : Heap) (locs : List Loc) (ls : Array Slot), WD G DA (wX10 G h0 a0 f0 A0) H → va_S DA s.heap H locs → lv_has ls 3 [(0, .ref h0), (1, .int p1), (2, .int l2)] → W p l e rmX10_hasOpenSum s m args below meth c H locs 0 0 (MQ below (QI G DA res (wX10 G h0 a0 f0 A0)) args s 0 0 DA) (F0 m 2 ls [])) : ∀ (l2 : Int32), f10_hasOpenSum_b2 f0 A0 p1  k2 l2 = some res → ∀ (H : Heap) (locs : List Loc) (ls : Array Slot), WD G DA (wX10 G h0 a0 f0 A0) H → va_S DA s.heap H locs → lv_has ls 3 [(0, .ref h0), (1, .int p1), (2, .int l2)] → W p l e rmX10_hasOpenSum s m args below meth c H locs 0 0 (MQ below (QI G DA res (wX10 G h0 a0 f0 A0)) args s 0 0 DA) (F0 m 2 ls []) := by
  obtain ⟨hx, hb, hml, hown, hts⟩ := C0.1
  have hK := C0.2.2.2.1
  intro l2 h _ _ _ hPD hS hl
  unfold f10_hasOpenSum_b2 at h
  refine lv_iload_n hx hb dX10_hasOpenSum_2 rfl (lv_at hl 2 rfl) ?_
  refine lv_aload_n hx hb dX10_hasOpenSum_3 rfl (lv_at hl 0 rfl) ?_
  refine va_get (D := G.1) (ci := 10) (v := .int (f0 15)) (C := RX10) (T := TX10) (N := 52) hx hb hts inlX10 hown hK hPD.1 0 rfl rfl 15 (by decide) (hts _ gw_572) (fun _ h9 => h9) rfl dX10_hasOpenSum_4 ?_
  refine lv_icmp_ge (tgt := 32) hx hb dX10_hasOpenSum_7 (by decide) (fun cc1 => ?_) (fun cc1 => ?_)
  · have h := (if_pos cc1).symm.trans h
    refine lv_iconst (v := 0) hx hb dX10_hasOpenSum_32 (by decide) ?_
    obtain rfl := Option.some.inj h
    exact eZ C0 hPD.1 hPD.2 hS rfl rfl dX10_hasOpenSum_33
  · have h := (if_neg cc1).symm.trans h
    refine lv_aload_n hx hb dX10_hasOpenSum_10 rfl (lv_at hl 0 rfl) ?_
    refine va_get (D := G.1) (ci := 10) (v := .ref (a0 19)) (C := RX10) (T := TX10) (N := 52) hx hb hts inlX10 hown hK hPD.1 0 rfl rfl 19 (by decide) (hts _ gw_571) (fun _ h9 => h9) rfl dX10_hasOpenSum_11 ?_
    refine lv_iload_n hx hb dX10_hasOpenSum_14 rfl (lv_at hl 2 rfl) ?_
    obtain ⟨hi_1, h⟩ := ob h
    refine va_iald hx hb hK hPD.1 9 1 rfl rfl hi_1 dX10_hasOpenSum_15 ?_
    refine lv_ldc (v := 1048576) hx hb hown (hts _ gw_569) dX10_hasOpenSum_16 ?_
    refine lv_idiv hx hb dX10_hasOpenSum_18 (by decide) ?_
    refine lv_bipush (v := 14) hx hb dX10_hasOpenSum_19 (by decide) ?_
    refine lv_icmp_ne (tgt := 26) hx hb dX10_hasOpenSum_21 (by decide) (fun cc1 => ?_) (fun cc1 => ?_)
    · have h := (if_neg cc1).symm.trans h
      refine lv_iinc (v := l2 + 1) (lv' := [(2, .int (l2 + 1)), (0, .ref h0), (1, .int p1)]) hx hb dX10_hasOpenSum_26 hl (k := 2) rfl rfl (by decide) rfl (fun ls hl => ?_)
      refine lv_goto (tgt := 2) hx hb dX10_hasOpenSum_29 (by decide) ?_
      exact hk2 (l2 + 1) h _ _ _ hPD hS (lv_sub hl [1, 2, 0] rfl)
    · have h := (if_pos cc1).symm.trans h
      refine lv_iconst (v := 1) hx hb dX10_hasOpenSum_24 (by decide) ?_
      obtain rfl := Option.some.inj h
      exact eZ C0 hPD.1 hPD.2 hS rfl rfl dX10_hasOpenSum_25
end WALK
