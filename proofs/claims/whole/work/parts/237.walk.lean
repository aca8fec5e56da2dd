section WALK
variable {p : Program} {l : Launch} {e : Env} {s : State} {m : MethodId} {args : Array Value} {below : List Frame} {meth : Method} {c : Code} {G : Gp} {DA : Nat → Prop}
set_option maxRecDepth 100000 in
set_option maxHeartbeats 4000000 in
theorem ww_f10_readsLine_b128  (C0 : Cx cX10_readsLine 3 (some .boolean) RX10 p s m args meth c G DA) {h0 : Nat} {a0 : Nat → Nat}   {res : Int32 × (Nat → Nat → Int32) × (Nat → Int32)}  : ∀ (A0 : Nat → Nat → Int32) (f0 : Nat → Int32) (l1 : Int32) (l2 : Int32), f10_readsLine_b128   A0 f0 l1 l2 = some res → ∀ (H : Heap) (locs : List Loc) (ls : Array Slot), WD G DA (wX10 G h0 a0 f0 A0) H → va_S DA s.heap H locs → lv_has ls 3 [(0, .ref h0), (1, .int l1), (2, .int l2)] → W p l e rmX10_readsLine s m args below meth c H locs 0 0 (MQ below (QI G DA res.1 (wX10 G h0 a0 res.2.2 res.2.1)) args s 0 0 DA) (F0 m 128 ls []) := by
  obtain ⟨hx, hb, hml, hown, hts⟩ := C0.1
  have hK := C0.2.2.2.1
  intro A0 f0 l1 l2 h _ _ _ hPD hS hl
  unfold f10_readsLine_b128 at h
  refine lv_aload_n hx hb dX10_readsLine_128 rfl (lv_at hl 0 rfl) ?_
  refine lv_aload_n hx hb dX10_readsLine_129 rfl (lv_at hl 0 rfl) ?_
  refine va_get (D := G.1) (ci := 10) (v := .int (f0 9)) (C := RX10) (T := TX10) (N := 52) hx hb hts inlX10 hown hK hPD.1 0 rfl rfl 9 (by decide) (hts _ gw_551) (fun _ h9 => h9) rfl dX10_readsLine_130 ?_
  refine lv_iconst (v := 1) hx hb dX10_readsLine_133 (by decide) ?_
  refine lv_iadd hx hb dX10_readsLine_134 ?_
  refine va_put (D := G.1) (ci := 10) (v := .int ((f0 9) + 1)) (ty := .int) (C := RX10) (T := TX10) (N := 52) hx hb hts inlX10 tyX10 tyX10_ok nmX10 hown hK hPD.1 hPD.2 hS 0 rfl rfl 9 (by decide) (hts _ gw_551) (fun _ h9 => h9) rfl (by decide +kernel) rfl rfl (Nat.le_of_ble_eq_true rfl) dX10_readsLine_135 (fun H locs hP hD hS => ?_)
  obtain ⟨f0_6, ef0_6, h⟩ := lvl h
  have hPD : WD G DA (wX10 G h0 a0 f0_6 A0) H := by rw [ef0_6]; exact ⟨hP, hD⟩
  clear ef0_6 hP hD
  refine lv_iload_n hx hb dX10_readsLine_138 rfl (lv_at hl 2 rfl) ?_
  refine lv_bipush (v := 38) hx hb dX10_readsLine_139 (by decide) ?_
  refine lv_icmp_eq (tgt := 150) hx hb dX10_readsLine_141 (by decide) (fun cc1 => ?_) (fun cc1 => ?_)
  · have h := (if_pos cc1).symm.trans h
    exact ww_f10_readsLine_b150 C0 A0 f0_6 l1 l2 h _ _ _ hPD hS (lv_sub hl [0, 1, 2] rfl)
  · have h := (if_neg cc1).symm.trans h
    refine lv_iload_n hx hb dX10_readsLine_144 rfl (lv_at hl 2 rfl) ?_
    refine lv_bipush (v := 47) hx hb dX10_readsLine_145 (by decide) ?_
    refine lv_icmp_ne (tgt := 167) hx hb dX10_readsLine_147 (by decide) (fun cc1 => ?_) (fun cc1 => ?_)
    · have h := (if_neg cc1).symm.trans h
      refine lv_aload_n hx hb dX10_readsLine_167 rfl (lv_at hl 0 rfl) ?_
      refine lv_iload_n hx hb dX10_readsLine_168 rfl (lv_at hl 2 rfl) ?_
      refine lv_bipush (v := 61) hx hb dX10_readsLine_169 (by decide) ?_
      refine lv_icmp_ne (tgt := 178) hx hb dX10_readsLine_171 (by decide) (fun cc1 => ?_) (fun cc1 => ?_)
      · have h := (if_neg cc1).symm.trans h
        refine lv_iconst (v := 2) hx hb dX10_readsLine_178 (by decide) ?_
        exact ww_f10_readsLine_b179 C0 A0 f0_6 l1 l2 2 h _ _ _ hPD hS (lv_sub hl [0, 1, 2] rfl)
      · have h := (if_pos cc1).symm.trans h
        refine lv_iconst (v := 3) hx hb dX10_readsLine_174 (by decide) ?_
        refine lv_goto (tgt := 179) hx hb dX10_readsLine_175 (by decide) ?_
        exact ww_f10_readsLine_b179 C0 A0 f0_6 l1 l2 3 h _ _ _ hPD hS (lv_sub hl [0, 1, 2] rfl)
    · have h := (if_pos cc1).symm.trans h
      exact ww_f10_readsLine_b150 C0 A0 f0_6 l1 l2 h _ _ _ hPD hS (lv_sub hl [0, 1, 2] rfl)
set_option maxRecDepth 100000 in
set_option maxHeartbeats 4000000 in
theorem kt_X10_readsLine (l : Launch) (G : Gp) (h0 : Nat) (a0 : Nat → Nat) (f0 : Nat → Int32) (A0 : Nat → Nat → Int32) : ∀ {r : Int32 × (Nat → Nat → Int32) × (Nat → Int32)}, f10_readsLine f0 A0 = some r → CtrI l yX10_readsLine cX10_readsLine 3 (some .boolean) rmX10_readsLine G [.ref h0] (wX10 G h0 a0 f0 A0) r.1 (wX10 G h0 a0 r.2.2 r.2.1) := by
  intro res h
  refine ctrI_of (cc := cX10_readsLine) (maxL := 3) (ret := (some .boolean)) (by decide +kernel) rfl (Nat.le_of_ble_eq_true rfl) (fun p e s m below meth c DA C0 hP hD ls hl => ?_)
  have hPD : WD G DA (wX10 G h0 a0 f0 A0) s.heap := ⟨hP, hD⟩
  have hS : va_S DA s.heap s.heap [] := va_S.rf
  have hl : lv_has ls 3 [(0, .ref h0)] := hl
  obtain ⟨hx, hb, hml, hown, hts⟩ := C0.1
  have hK := C0.2.2.2.1
  unfold f10_readsLine at h
  refine lv_aload_n hx hb dX10_readsLine_0 rfl (lv_at hl 0 rfl) ?_
  obtain ⟨q_1, hq_1, h⟩ := ob2 h
  refine kVI (As := []) (rest := []) C0 (kt_X10_isLetter l G h0 a0 f0 A0 hq_1) gi_V_X10_271_X10_isLetter (n := 0) rfl (by decide +kernel) rfl ⟨rfl, rfl, Nat.le_of_ble_eq_true rfl, Nat.le_of_ble_eq_true rfl⟩ hPD hS 0 10 rfl rfl rfl [0, 1, 2, 3, 4, 5, 6, 7, 8, 9, 10, 11, 12, 13, 14, 15, 16, 17, 18, 19, 20, 21, 22, 23, 24, 25, 26, 27, 28, 29, 30, 31, 32, 33] [] [0, 1, 2, 3, 4, 5, 6, 7, 8, 9, 10, 11, 12, 13, 14, 15, 16, 17, 18, 19, 20, 21, 22, 23, 24, 25, 26, 27, 28, 29, 30, 31, 32, 33] (wr := ([] : va_W)) (wN := (wX10 G h0 a0 f0 A0)) rfl rfl rfl rfl rfl hl.1 (Nat.le_of_ble_eq_true rfl) dX10_readsLine_1 (fun H locs hPD hS => ?_)
  refine lv_if_ne (tgt := 17) hx hb dX10_readsLine_4 (by decide) (fun cc1 => ?_) (fun cc1 => ?_)
  · have h := (if_neg cc1).symm.trans h
    refine lv_aload_n hx hb dX10_readsLine_17 rfl (lv_at hl 0 rfl) ?_
    refine va_get (D := G.1) (ci := 10) (v := .int (f0 39)) (C := RX10) (T := TX10) (N := 52) hx hb hts inlX10 hown hK hPD.1 0 rfl rfl 39 (by decide) (hts _ gw_701) (fun _ h9 => h9) rfl dX10_readsLine_18 ?_
    refine lv_bipush (v := 20) hx hb dX10_readsLine_21 (by decide) ?_
    refine lv_icmp_ne (tgt := 36) hx hb dX10_readsLine_23 (by decide) (fun cc1 => ?_) (fun cc1 => ?_)
    · have h := (if_neg cc1).symm.trans h
      refine lv_aload_n hx hb dX10_readsLine_36 rfl (lv_at hl 0 rfl) ?_
      refine lv_aload_n hx hb dX10_readsLine_37 rfl (lv_at hl 0 rfl) ?_
      refine va_get (D := G.1) (ci := 10) (v := .int (f0 39)) (C := RX10) (T := TX10) (N := 52) hx hb hts inlX10 hown hK hPD.1 0 rfl rfl 39 (by decide) (hts _ gw_701) (fun _ h9 => h9) rfl dX10_readsLine_38 ?_
      refine lv_iconst (v := 1) hx hb dX10_readsLine_41 (by decide) ?_
      refine lv_iadd hx hb dX10_readsLine_42 ?_
      refine va_put (D := G.1) (ci := 10) (v := .int ((f0 39) + 1)) (ty := .int) (C := RX10) (T := TX10) (N := 52) hx hb hts inlX10 tyX10 tyX10_ok nmX10 hown hK hPD.1 hPD.2 hS 0 rfl rfl 39 (by decide) (hts _ gw_701) (fun _ h9 => h9) rfl (by decide +kernel) rfl rfl (Nat.le_of_ble_eq_true rfl) dX10_readsLine_43 (fun H locs hP hD hS => ?_)
      obtain ⟨f0_2, ef0_2, h⟩ := lvl h
      have hPD : WD G DA (wX10 G h0 a0 f0_2 A0) H := by rw [ef0_2]; exact ⟨hP, hD⟩
      clear ef0_2 hP hD
      refine lv_aload_n hx hb dX10_readsLine_46 rfl (lv_at hl 0 rfl) ?_
      obtain ⟨q_3, hq_3, h⟩ := ob2 h
      refine kVI (As := []) (rest := []) C0 (kt_X10_here l G h0 a0 f0_2 A0 hq_3) gi_V_X10_144_X10_here (n := 0) rfl (by decide +kernel) rfl ⟨rfl, rfl, Nat.le_of_ble_eq_true rfl, Nat.le_of_ble_eq_true rfl⟩ hPD hS 0 10 rfl rfl rfl [0, 1, 2, 3, 4, 5, 6, 7, 8, 9, 10, 11, 12, 13, 14, 15, 16, 17, 18, 19, 20, 21, 22, 23, 24, 25, 26, 27, 28, 29, 30, 31, 32, 33] [] [0, 1, 2, 3, 4, 5, 6, 7, 8, 9, 10, 11, 12, 13, 14, 15, 16, 17, 18, 19, 20, 21, 22, 23, 24, 25, 26, 27, 28, 29, 30, 31, 32, 33] (wr := ([] : va_W)) (wN := (wX10 G h0 a0 f0_2 A0)) rfl rfl rfl rfl rfl hl.1 (Nat.le_of_ble_eq_true rfl) dX10_readsLine_47 (fun H locs hPD hS => ?_)
      refine lv_bipush (v := 97) hx hb dX10_readsLine_50 (by decide) ?_
      refine lv_isub hx hb dX10_readsLine_52 ?_
      refine lv_istore_n (lv' := [(1, .int (q_3 - 97)), (0, .ref h0)]) hx hb dX10_readsLine_53 rfl hl (by decide) rfl (fun ls hl => ?_)
      refine lv_aload_n hx hb dX10_readsLine_54 rfl (lv_at hl 1 rfl) ?_
      refine lv_iload_n hx hb dX10_readsLine_55 rfl (lv_at hl 0 rfl) ?_
      refine kVI (As := [.int (q_3 - 97)]) (rest := []) C0 (kt_X10_isTold l G h0 a0 f0_2 A0 (q_3 - 97)) gi_V_X10_128_X10_isTold (n := 1) rfl (by decide +kernel) rfl ⟨rfl, rfl, Nat.le_of_ble_eq_true rfl, Nat.le_of_ble_eq_true rfl⟩ hPD hS 0 10 rfl rfl rfl [0, 1, 2, 3, 4, 5, 6, 7, 8, 9, 10, 11, 12, 13, 14, 15, 16, 17, 18, 19, 20, 21, 22, 23, 24, 25, 26, 27, 28, 29, 30, 31, 32, 33] [] [0, 1, 2, 3, 4, 5, 6, 7, 8, 9, 10, 11, 12, 13, 14, 15, 16, 17, 18, 19, 20, 21, 22, 23, 24, 25, 26, 27, 28, 29, 30, 31, 32, 33] (wr := ([] : va_W)) (wN := (wX10 G h0 a0 f0_2 A0)) rfl rfl rfl rfl rfl hl.1 (Nat.le_of_ble_eq_true rfl) dX10_readsLine_56 (fun H locs hPD hS => ?_)
      refine lv_if_ne (tgt := 73) hx hb dX10_readsLine_59 (by decide) (fun cc1 => ?_) (fun cc1 => ?_)
      · have h := (if_neg cc1).symm.trans h
        refine lv_aload_n hx hb dX10_readsLine_73 rfl (lv_at hl 1 rfl) ?_
        refine lv_aload_n hx hb dX10_readsLine_74 rfl (lv_at hl 1 rfl) ?_
        refine va_get (D := G.1) (ci := 10) (v := .int (f0_2 9)) (C := RX10) (T := TX10) (N := 52) hx hb hts inlX10 hown hK hPD.1 0 rfl rfl 9 (by decide) (hts _ gw_551) (fun _ h9 => h9) rfl dX10_readsLine_75 ?_
        refine lv_iconst (v := 1) hx hb dX10_readsLine_78 (by decide) ?_
        refine lv_iadd hx hb dX10_readsLine_79 ?_
        refine va_put (D := G.1) (ci := 10) (v := .int ((f0_2 9) + 1)) (ty := .int) (C := RX10) (T := TX10) (N := 52) hx hb hts inlX10 tyX10 tyX10_ok nmX10 hown hK hPD.1 hPD.2 hS 0 rfl rfl 9 (by decide) (hts _ gw_551) (fun _ h9 => h9) rfl (by decide +kernel) rfl rfl (Nat.le_of_ble_eq_true rfl) dX10_readsLine_80 (fun H locs hP hD hS => ?_)
        obtain ⟨f0_4, ef0_4, h⟩ := lvl h
        have hPD : WD G DA (wX10 G h0 a0 f0_4 A0) H := by rw [ef0_4]; exact ⟨hP, hD⟩
        clear ef0_4 hP hD
        refine lv_aload_n hx hb dX10_readsLine_83 rfl (lv_at hl 1 rfl) ?_
        obtain ⟨q_5, hq_5, h⟩ := ob2 h
        refine kVI (As := []) (rest := []) C0 (kt_X10_here l G h0 a0 f0_4 A0 hq_5) gi_V_X10_144_X10_here (n := 0) rfl (by decide +kernel) rfl ⟨rfl, rfl, Nat.le_of_ble_eq_true rfl, Nat.le_of_ble_eq_true rfl⟩ hPD hS 0 10 rfl rfl rfl [0, 1, 2, 3, 4, 5, 6, 7, 8, 9, 10, 11, 12, 13, 14, 15, 16, 17, 18, 19, 20, 21, 22, 23, 24, 25, 26, 27, 28, 29, 30, 31, 32, 33] [] [0, 1, 2, 3, 4, 5, 6, 7, 8, 9, 10, 11, 12, 13, 14, 15, 16, 17, 18, 19, 20, 21, 22, 23, 24, 25, 26, 27, 28, 29, 30, 31, 32, 33] (wr := ([] : va_W)) (wN := (wX10 G h0 a0 f0_4 A0)) rfl rfl rfl rfl rfl hl.1 (Nat.le_of_ble_eq_true rfl) dX10_readsLine_84 (fun H locs hPD hS => ?_)
        refine lv_istore_n (lv' := [(2, .int q_5), (1, .int (q_3 - 97)), (0, .ref h0)]) hx hb dX10_readsLine_87 rfl hl (by decide) rfl (fun ls hl => ?_)
        refine lv_iload_n hx hb dX10_readsLine_88 rfl (lv_at hl 0 rfl) ?_
        refine lv_bipush (v := 43) hx hb dX10_readsLine_89 (by decide) ?_
        refine lv_icmp_eq (tgt := 128) hx hb dX10_readsLine_91 (by decide) (fun cc1 => ?_) (fun cc1 => ?_)
        · have h := (if_pos cc1).symm.trans h
          exact ww_f10_readsLine_b128 C0 A0 f0_4 (q_3 - 97) q_5 h _ _ _ hPD hS (lv_sub hl [2, 1, 0] rfl)
        · have h := (if_neg cc1).symm.trans h
          refine lv_iload_n hx hb dX10_readsLine_94 rfl (lv_at hl 0 rfl) ?_
          refine lv_bipush (v := 45) hx hb dX10_readsLine_95 (by decide) ?_
          refine lv_icmp_eq (tgt := 128) hx hb dX10_readsLine_97 (by decide) (fun cc1 => ?_) (fun cc1 => ?_)
          · have h := (if_pos cc1).symm.trans h
            exact ww_f10_readsLine_b128 C0 A0 f0_4 (q_3 - 97) q_5 h _ _ _ hPD hS (lv_sub hl [2, 1, 0] rfl)
          · have h := (if_neg cc1).symm.trans h
            refine lv_iload_n hx hb dX10_readsLine_100 rfl (lv_at hl 0 rfl) ?_
            refine lv_bipush (v := 61) hx hb dX10_readsLine_101 (by decide) ?_
            refine lv_icmp_eq (tgt := 128) hx hb dX10_readsLine_103 (by decide) (fun cc1 => ?_) (fun cc1 => ?_)
            · have h := (if_pos cc1).symm.trans h
              exact ww_f10_readsLine_b128 C0 A0 f0_4 (q_3 - 97) q_5 h _ _ _ hPD hS (lv_sub hl [2, 1, 0] rfl)
            · have h := (if_neg cc1).symm.trans h
              refine lv_iload_n hx hb dX10_readsLine_106 rfl (lv_at hl 0 rfl) ?_
              refine lv_bipush (v := 38) hx hb dX10_readsLine_107 (by decide) ?_
              refine lv_icmp_eq (tgt := 128) hx hb dX10_readsLine_109 (by decide) (fun cc1 => ?_) (fun cc1 => ?_)
              · have h := (if_pos cc1).symm.trans h
                exact ww_f10_readsLine_b128 C0 A0 f0_4 (q_3 - 97) q_5 h _ _ _ hPD hS (lv_sub hl [2, 1, 0] rfl)
              · have h := (if_neg cc1).symm.trans h
                refine lv_iload_n hx hb dX10_readsLine_112 rfl (lv_at hl 0 rfl) ?_
                refine lv_bipush (v := 47) hx hb dX10_readsLine_113 (by decide) ?_
                refine lv_icmp_eq (tgt := 128) hx hb dX10_readsLine_115 (by decide) (fun cc1 => ?_) (fun cc1 => ?_)
                · have h := (if_pos cc1).symm.trans h
                  exact ww_f10_readsLine_b128 C0 A0 f0_4 (q_3 - 97) q_5 h _ _ _ hPD hS (lv_sub hl [2, 1, 0] rfl)
                · have h := (if_neg cc1).symm.trans h
                  refine lv_aload_n hx hb dX10_readsLine_118 rfl (lv_at hl 2 rfl) ?_
                  refine lv_iconst (v := 1) hx hb dX10_readsLine_119 (by decide) ?_
                  refine lv_aload_n hx hb dX10_readsLine_120 rfl (lv_at hl 2 rfl) ?_
                  refine va_get (D := G.1) (ci := 10) (v := .int (f0_4 9)) (C := RX10) (T := TX10) (N := 52) hx hb hts inlX10 hown hK hPD.1 0 rfl rfl 9 (by decide) (hts _ gw_551) (fun _ h9 => h9) rfl dX10_readsLine_121 ?_
                  obtain ⟨q_15, hq_15, h⟩ := ob2 h
                  refine kVI (As := [.int 1, .int (f0_4 9)]) (rest := []) C0 (kt_X10_wrongAt l G h0 a0 f0_4 A0 1 (f0_4 9) hq_15) gi_V_X10_151_X10_wrongAt (n := 2) rfl (by decide +kernel) rfl ⟨rfl, rfl, Nat.le_of_ble_eq_true rfl, Nat.le_of_ble_eq_true rfl⟩ hPD hS 0 10 rfl rfl rfl [0, 1, 2, 3, 4, 5, 6, 7, 8, 9, 10, 11, 12, 13, 14, 15, 16, 17, 18, 19, 20, 21, 22, 23, 24, 25, 26, 27, 28, 29, 30, 31, 32, 33] [] [0, 1, 2, 3, 4, 5, 6, 7, 8, 9, 10, 11, 12, 13, 14, 15, 16, 17, 18, 19, 20, 21, 22, 23, 24, 25, 26, 27, 28, 29, 30, 31, 32, 33] (wr := ([] : va_W)) (wN := (wX10 G h0 a0 q_15.2 A0)) rfl rfl rfl rfl rfl hl.1 (Nat.le_of_ble_eq_true rfl) dX10_readsLine_124 (fun H locs hPD hS => ?_)
                  obtain ⟨hz, h⟩ := ob h
                  obtain rfl := Option.some.inj h
                  exact eZ C0 hPD.1 hPD.2 hS rfl (nbool (Classical.not_not.mp hz)) dX10_readsLine_127
      · have h := (if_pos cc1).symm.trans h
        refine lv_aload_n hx hb dX10_readsLine_62 rfl (lv_at hl 1 rfl) ?_
        refine lv_bipush (v := 7) hx hb dX10_readsLine_63 (by decide) ?_
        refine lv_aload_n hx hb dX10_readsLine_65 rfl (lv_at hl 1 rfl) ?_
        refine va_get (D := G.1) (ci := 10) (v := .int (f0_2 9)) (C := RX10) (T := TX10) (N := 52) hx hb hts inlX10 hown hK hPD.1 0 rfl rfl 9 (by decide) (hts _ gw_551) (fun _ h9 => h9) rfl dX10_readsLine_66 ?_
        obtain ⟨q_16, hq_16, h⟩ := ob2 h
        refine kVI (As := [.int 7, .int (f0_2 9)]) (rest := []) C0 (kt_X10_wrongAt l G h0 a0 f0_2 A0 7 (f0_2 9) hq_16) gi_V_X10_151_X10_wrongAt (n := 2) rfl (by decide +kernel) rfl ⟨rfl, rfl, Nat.le_of_ble_eq_true rfl, Nat.le_of_ble_eq_true rfl⟩ hPD hS 0 10 rfl rfl rfl [0, 1, 2, 3, 4, 5, 6, 7, 8, 9, 10, 11, 12, 13, 14, 15, 16, 17, 18, 19, 20, 21, 22, 23, 24, 25, 26, 27, 28, 29, 30, 31, 32, 33] [] [0, 1, 2, 3, 4, 5, 6, 7, 8, 9, 10, 11, 12, 13, 14, 15, 16, 17, 18, 19, 20, 21, 22, 23, 24, 25, 26, 27, 28, 29, 30, 31, 32, 33] (wr := ([] : va_W)) (wN := (wX10 G h0 a0 q_16.2 A0)) rfl rfl rfl rfl rfl hl.1 (Nat.le_of_ble_eq_true rfl) dX10_readsLine_69 (fun H locs hPD hS => ?_)
        obtain ⟨hz, h⟩ := ob h
        obtain rfl := Option.some.inj h
        exact eZ C0 hPD.1 hPD.2 hS rfl (nbool (Classical.not_not.mp hz)) dX10_readsLine_72
    · have h := (if_pos cc1).symm.trans h
      refine lv_aload_n hx hb dX10_readsLine_26 rfl (lv_at hl 0 rfl) ?_
      refine lv_iconst (v := 4) hx hb dX10_readsLine_27 (by decide) ?_
      refine lv_aload_n hx hb dX10_readsLine_28 rfl (lv_at hl 0 rfl) ?_
      refine va_get (D := G.1) (ci := 10) (v := .int (f0 9)) (C := RX10) (T := TX10) (N := 52) hx hb hts inlX10 hown hK hPD.1 0 rfl rfl 9 (by decide) (hts _ gw_551) (fun _ h9 => h9) rfl dX10_readsLine_29 ?_
      obtain ⟨q_17, hq_17, h⟩ := ob2 h
      refine kVI (As := [.int 4, .int (f0 9)]) (rest := []) C0 (kt_X10_wrongAt l G h0 a0 f0 A0 4 (f0 9) hq_17) gi_V_X10_151_X10_wrongAt (n := 2) rfl (by decide +kernel) rfl ⟨rfl, rfl, Nat.le_of_ble_eq_true rfl, Nat.le_of_ble_eq_true rfl⟩ hPD hS 0 10 rfl rfl rfl [0, 1, 2, 3, 4, 5, 6, 7, 8, 9, 10, 11, 12, 13, 14, 15, 16, 17, 18, 19, 20, 21, 22, 23, 24, 25, 26, 27, 28, 29, 30, 31, 32, 33] [] [0, 1, 2, 3, 4, 5, 6, 7, 8, 9, 10, 11, 12, 13, 14, 15, 16, 17, 18, 19, 20, 21, 22, 23, 24, 25, 26, 27, 28, 29, 30, 31, 32, 33] (wr := ([] : va_W)) (wN := (wX10 G h0 a0 q_17.2 A0)) rfl rfl rfl rfl rfl hl.1 (Nat.le_of_ble_eq_true rfl) dX10_readsLine_32 (fun H locs hPD hS => ?_)
      obtain ⟨hz, h⟩ := ob h
      obtain rfl := Option.some.inj h
      exact eZ C0 hPD.1 hPD.2 hS rfl (nbool (Classical.not_not.mp hz)) dX10_readsLine_35
  · have h := (if_pos cc1).symm.trans h
    refine lv_aload_n hx hb dX10_readsLine_7 rfl (lv_at hl 0 rfl) ?_
    refine lv_iconst (v := 1) hx hb dX10_readsLine_8 (by decide) ?_
    refine lv_aload_n hx hb dX10_readsLine_9 rfl (lv_at hl 0 rfl) ?_
    refine va_get (D := G.1) (ci := 10) (v := .int (f0 9)) (C := RX10) (T := TX10) (N := 52) hx hb hts inlX10 hown hK hPD.1 0 rfl rfl 9 (by decide) (hts _ gw_551) (fun _ h9 => h9) rfl dX10_readsLine_10 ?_
    obtain ⟨q_18, hq_18, h⟩ := ob2 h
    refine kVI (As := [.int 1, .int (f0 9)]) (rest := []) C0 (kt_X10_wrongAt l G h0 a0 f0 A0 1 (f0 9) hq_18) gi_V_X10_151_X10_wrongAt (n := 2) rfl (by decide +kernel) rfl ⟨rfl, rfl, Nat.le_of_ble_eq_true rfl, Nat.le_of_ble_eq_true rfl⟩ hPD hS 0 10 rfl rfl rfl [0, 1, 2, 3, 4, 5, 6, 7, 8, 9, 10, 11, 12, 13, 14, 15, 16, 17, 18, 19, 20, 21, 22, 23, 24, 25, 26, 27, 28, 29, 30, 31, 32, 33] [] [0, 1, 2, 3, 4, 5, 6, 7, 8, 9, 10, 11, 12, 13, 14, 15, 16, 17, 18, 19, 20, 21, 22, 23, 24, 25, 26, 27, 28, 29, 30, 31, 32, 33] (wr := ([] : va_W)) (wN := (wX10 G h0 a0 q_18.2 A0)) rfl rfl rfl rfl rfl hl.1 (Nat.le_of_ble_eq_true rfl) dX10_readsLine_13 (fun H locs hPD hS => ?_)
    obtain ⟨hz, h⟩ := ob h
    obtain rfl := Option.some.inj h
    exact eZ C0 hPD.1 hPD.2 hS rfl (nbool (Classical.not_not.mp hz)) dX10_readsLine_16
abbrev rmX10_pleas : Room := { frames := 4, cells := 0, slots := 0, locals := 88 }
set_option maxRecDepth 100000 in
set_option maxHeartbeats 4000000 in
theorem ww_f10_pleas_b139  (C0 : Cx cX10_pleas 4 (some .int) RX10 p s m args meth c G DA) {h0 : Nat} {a0 : Nat → Nat} {p1 : Int32}  {k139 : (Nat → Nat → Int32) → (Nat → Int32) → Int32 → Option (Int32 × (Nat → Nat → Int32) × (Nat → Int32))} {res : Int32 × (Nat → Nat → Int32) × (Nat → Int32)}  (hk139 : ∀ (A0 : Nat → Nat → Int32) (f0 : Nat → Int32) (l3 : Int32), k139 A0 f0 l3 = some res → ∀ (H : Heap) (locs : List Loc) (ls : Array Slot), WD G DA (wX10 G h0 a0 f0 A0) H → va_S DA s.heap H locs → lv_has ls 4 [(0, .ref h0), (1, .int p1), (3, .int l3)] → W p l e rmX10_pleas s m args below meth c H locs 0 0 (MQ below (QI G DA res.1 (wX10 G h0 a0 res.2.2 res.2.1)) args s 0 0 DA) (F0 m 139 ls [])) : ∀ (A0 : Nat → Nat → Int32) (f0 : Nat → Int32) (l3 : Int32), f10_pleas_b139 p1  k139 A0 f0 l3 = some res → ∀ (H : Heap) (locs : List Loc) (ls : Array Slot), WD G DA (wX10 G h0 a0 f0 A0) H → va_S DA s.heap H locs → lv_has ls 4 [(0, .ref h0), (1, .int p1), (3, .int l3)] → W p l e rmX10_pleas s m args below meth c H locs 0 0 (MQ below (QI G DA res.1 (wX10 G h0 a0 res.2.2 res.2.1)) args s 0 0 DA) (F0 m 139 ls []) := by
  obtain ⟨hx, hb, hml, hown, hts⟩ := C0.1
  have hK := C0.2.2.2.1
  intro A0 f0 l3 h _ _ _ hPD hS hl
  unfold f10_pleas_b139 at h
  refine lv_iload_n hx hb dX10_pleas_139 rfl (lv_at hl 2 rfl) ?_
  refine lv_bipush (v := 16) hx hb dX10_pleas_140 (by decide) ?_
  refine lv_icmp_ge (tgt := 163) hx hb dX10_pleas_142 (by decide) (fun cc1 => ?_) (fun cc1 => ?_)
  · have h := (if_pos cc1).symm.trans h
    refine lv_aload_n hx hb dX10_pleas_163 rfl (lv_at hl 0 rfl) ?_
    refine va_get (D := G.1) (ci := 10) (v := .int (f0 11)) (C := RX10) (T := TX10) (N := 52) hx hb hts inlX10 hown hK hPD.1 0 rfl rfl 11 (by decide) (hts _ gw_557) (fun _ h9 => h9) rfl dX10_pleas_164 ?_
    obtain rfl := Option.some.inj h
    exact eI C0 hPD.1 hPD.2 hS rfl dX10_pleas_167
  · have h := (if_neg cc1).symm.trans h
    refine lv_aload_n hx hb dX10_pleas_145 rfl (lv_at hl 0 rfl) ?_
    refine va_get (D := G.1) (ci := 10) (v := .ref (a0 3)) (C := RX10) (T := TX10) (N := 52) hx hb hts inlX10 hown hK hPD.1 0 rfl rfl 3 (by decide) (hts _ gw_663) (fun _ h9 => h9) rfl dX10_pleas_146 ?_
    refine lv_iload_n hx hb dX10_pleas_149 rfl (lv_at hl 2 rfl) ?_
    refine lv_aload_n hx hb dX10_pleas_150 rfl (lv_at hl 0 rfl) ?_
    refine va_get (D := G.1) (ci := 10) (v := .ref (a0 40)) (C := RX10) (T := TX10) (N := 52) hx hb hts inlX10 hown hK hPD.1 0 rfl rfl 40 (by decide) (hts _ gw_724) (fun _ h9 => h9) rfl dX10_pleas_151 ?_
    refine lv_iload_n hx hb dX10_pleas_154 rfl (lv_at hl 2 rfl) ?_
    obtain ⟨hi_9, h⟩ := ob h
    refine va_iald hx hb hK hPD.1 25 1 rfl rfl hi_9 dX10_pleas_155 ?_
    obtain ⟨hi_10, h⟩ := ob h
    refine va_iast hx hb hK hPD.1 hPD.2 hS 4 1 rfl rfl hi_10 dX10_pleas_156 (fun H locs hP hD hS => ?_)
    obtain ⟨A0_11, eA0_11, h⟩ := lvl h
    have hPD : WD G DA (wX10 G h0 a0 f0 A0_11) H := by rw [eA0_11]; exact ⟨hP, hD⟩
    clear eA0_11 hP hD
    refine lv_iinc (v := l3 + 1) (lv' := [(3, .int (l3 + 1)), (0, .ref h0), (1, .int p1)]) hx hb dX10_pleas_157 hl (k := 2) rfl rfl (by decide) rfl (fun ls hl => ?_)
    refine lv_goto (tgt := 139) hx hb dX10_pleas_160 (by decide) ?_
    exact hk139 A0_11 f0 (l3 + 1) h _ _ _ hPD hS (lv_sub hl [1, 2, 0] rfl)
set_option maxRecDepth 100000 in
set_option maxHeartbeats 4000000 in
theorem ww_f10_pleas_l139  (C0 : Cx cX10_pleas 4 (some .int) RX10 p s m args meth c G DA) {h0 : Nat} {a0 : Nat → Nat} {p1 : Int32}   {res : Int32 × (Nat → Nat → Int32) × (Nat → Int32)}  : ∀ (n : Nat) (A0 : Nat → Nat → Int32) (f0 : Nat → Int32) (l3 : Int32), f10_pleas_l139 p1  n A0 f0 l3 = some res → ∀ (H : Heap) (locs : List Loc) (ls : Array Slot), WD G DA (wX10 G h0 a0 f0 A0) H → va_S DA s.heap H locs → lv_has ls 4 [(0, .ref h0), (1, .int p1), (3, .int l3)] → W p l e rmX10_pleas s m args below meth c H locs 0 0 (MQ below (QI G DA res.1 (wX10 G h0 a0 res.2.2 res.2.1)) args s 0 0 DA) (F0 m 139 ls []) := by
  intro n
  induction n with
  | zero => intro A0 f0 l3 h; cases h
  | succ n ih => intro A0 f0 l3 h; exact ww_f10_pleas_b139 C0  ih A0 f0 l3 h
set_option maxRecDepth 100000 in
set_option maxHeartbeats 4000000 in
theorem ww_f10_pleas_b112  (C0 : Cx cX10_pleas 4 (some .int) RX10 p s m args meth c G DA) {h0 : Nat} {a0 : Nat → Nat} {p1 : Int32}   {res : Int32 × (Nat → Nat → Int32) × (Nat → Int32)}  : ∀ (A0 : Nat → Nat → Int32) (f0 : Nat → Int32) (l2 : Int32), f10_pleas_b112 p1  A0 f0 l2 = some res → ∀ (H : Heap) (locs : List Loc) (ls : Array Slot), WD G DA (wX10 G h0 a0 f0 A0) H → va_S DA s.heap H locs → lv_has ls 4 [(0, .ref h0), (1, .int p1), (2, .int l2)] → W p l e rmX10_pleas s m args below meth c H locs 0 0 (MQ below (QI G DA res.1 (wX10 G h0 a0 res.2.2 res.2.1)) args s 0 0 DA) (F0 m 112 ls []) := by
  obtain ⟨hx, hb, hml, hown, hts⟩ := C0.1
  have hK := C0.2.2.2.1
  intro A0 f0 l2 h _ _ _ hPD hS hl
  unfold f10_pleas_b112 at h
  refine lv_aload_n hx hb dX10_pleas_112 rfl (lv_at hl 0 rfl) ?_
  refine lv_iconst (v := 0) hx hb dX10_pleas_113 (by decide) ?_
  refine va_put (D := G.1) (ci := 10) (v := .int 0) (ty := .int) (C := RX10) (T := TX10) (N := 52) hx hb hts inlX10 tyX10 tyX10_ok nmX10 hown hK hPD.1 hPD.2 hS 0 rfl rfl 8 (by decide) (hts _ gw_546) (fun _ h9 => h9) rfl (by decide +kernel) rfl rfl (Nat.le_of_ble_eq_true rfl) dX10_pleas_114 (fun H locs hP hD hS => ?_)
  obtain ⟨f0_6, ef0_6, h⟩ := lvl h
  have hPD : WD G DA (wX10 G h0 a0 f0_6 A0) H := by rw [ef0_6]; exact ⟨hP, hD⟩
  clear ef0_6 hP hD
  refine lv_iload_n hx hb dX10_pleas_117 rfl (lv_at hl 2 rfl) ?_
  refine lv_if_eq (tgt := 126) hx hb dX10_pleas_118 (by decide) (fun cc1 => ?_) (fun cc1 => ?_)
  · have h := (if_pos cc1).symm.trans h
    refine lv_aload_n hx hb dX10_pleas_126 rfl (lv_at hl 0 rfl) ?_
    refine va_get (D := G.1) (ci := 10) (v := .ref (a0 1)) (C := RX10) (T := TX10) (N := 52) hx hb hts inlX10 hown hK hPD.1 0 rfl rfl 1 (by decide) (hts _ gw_716) (fun _ h9 => h9) rfl dX10_pleas_127 ?_
    refine lv_aload_n hx hb dX10_pleas_130 rfl (lv_at hl 0 rfl) ?_
    refine va_get (D := G.1) (ci := 10) (v := .ref (a0 0)) (C := RX10) (T := TX10) (N := 52) hx hb hts inlX10 hown hK hPD.1 0 rfl rfl 0 (by decide) (hts _ gw_536) (fun _ h9 => h9) rfl dX10_pleas_131 ?_
    obtain ⟨q_7, hq_7, h⟩ := ob2 h
    refine kSV (As := [.ref (a0 1), .ref (a0 0)]) (rest := []) C0 (kt_X10_copies l G (a0 1) (a0 0) 76 (A0 1) 76 (A0 0) (by decide) (by decide) hq_7) gi_S_X10_290_X10_copies (n := 2) rfl (by decide +kernel) ⟨rfl, rfl, Nat.le_of_ble_eq_true rfl, Nat.le_of_ble_eq_true rfl⟩ hPD hS [2, 1] [0, 3, 4, 5, 6, 7, 8, 9, 10, 11, 12, 13, 14, 15, 16, 17, 18, 19, 20, 21, 22, 23, 24, 25, 26, 27, 28, 29, 30, 31, 32, 33] [0, 33, 32, 1, 2, 3, 4, 5, 6, 7, 8, 9, 10, 11, 12, 13, 14, 15, 16, 17, 18, 19, 20, 21, 22, 23, 24, 25, 26, 27, 28, 29, 30, 31] (wr := pick (wX10 G h0 a0 f0_6 A0) [0, 3, 4, 5, 6, 7, 8, 9, 10, 11, 12, 13, 14, 15, 16, 17, 18, 19, 20, 21, 22, 23, 24, 25, 26, 27, 28, 29, 30, 31, 32, 33]) (wN := (wX10 G h0 a0 f0_6 (updA A0 0 q_7))) rfl rfl rfl rfl rfl hl.1 (Nat.le_of_ble_eq_true rfl) dX10_pleas_134 (fun H locs hPD hS => ?_)
    obtain ⟨A0_8, eA0_8, h⟩ := lvl h
    have hPD : WD G DA (wX10 G h0 a0 f0_6 A0_8) H := by rw [eA0_8]; exact hPD
    clear eA0_8
    refine lv_iconst (v := 0) hx hb dX10_pleas_137 (by decide) ?_
    refine lv_istore_n (lv' := [(3, .int 0), (0, .ref h0), (1, .int p1), (2, .int l2)]) hx hb dX10_pleas_138 rfl hl (by decide) rfl (fun ls hl => ?_)
    exact ww_f10_pleas_l139 C0 NF A0_8 f0_6 0 h _ _ _ hPD hS (lv_sub hl [1, 2, 0] rfl)
  · have h := (if_neg cc1).symm.trans h
    refine lv_aload_n hx hb dX10_pleas_121 rfl (lv_at hl 0 rfl) ?_
    refine va_get (D := G.1) (ci := 10) (v := .int (f0_6 39)) (C := RX10) (T := TX10) (N := 52) hx hb hts inlX10 hown hK hPD.1 0 rfl rfl 39 (by decide) (hts _ gw_701) (fun _ h9 => h9) rfl dX10_pleas_122 ?_
    obtain rfl := Option.some.inj h
    exact eI C0 hPD.1 hPD.2 hS rfl dX10_pleas_125
set_option maxRecDepth 100000 in
set_option maxHeartbeats 4000000 in
theorem ww_f10_pleas_b72  (C0 : Cx cX10_pleas 4 (some .int) RX10 p s m args meth c G DA) {h0 : Nat} {a0 : Nat → Nat} {p1 : Int32}  {k72 : (Nat → Nat → Int32) → (Nat → Int32) → Int32 → Option (Int32 × (Nat → Nat → Int32) × (Nat → Int32))} {res : Int32 × (Nat → Nat → Int32) × (Nat → Int32)}  (hk72 : ∀ (A0 : Nat → Nat → Int32) (f0 : Nat → Int32) (l2 : Int32), k72 A0 f0 l2 = some res → ∀ (H : Heap) (locs : List Loc) (ls : Array Slot), WD G DA (wX10 G h0 a0 f0 A0) H → va_S DA s.heap H locs → lv_has ls 4 [(0, .ref h0), (1, .int p1), (2, .int l2)] → W p l e rmX10_pleas s m args below meth c H locs 0 0 (MQ below (QI G DA res.1 (wX10 G h0 a0 res.2.2 res.2.1)) args s 0 0 DA) (F0 m 72 ls [])) : ∀ (A0 : Nat → Nat → Int32) (f0 : Nat → Int32) (l2 : Int32), f10_pleas_b72 p1  k72 A0 f0 l2 = some res → ∀ (H : Heap) (locs : List Loc) (ls : Array Slot), WD G DA (wX10 G h0 a0 f0 A0) H → va_S DA s.heap H locs → lv_has ls 4 [(0, .ref h0), (1, .int p1), (2, .int l2)] → W p l e rmX10_pleas s m args below meth c H locs 0 0 (MQ below (QI G DA res.1 (wX10 G h0 a0 res.2.2 res.2.1)) args s 0 0 DA) (F0 m 72 ls []) := by
  obtain ⟨hx, hb, hml, hown, hts⟩ := C0.1
  have hK := C0.2.2.2.1
  intro A0 f0 l2 h _ _ _ hPD hS hl
  unfold f10_pleas_b72 at h
  refine lv_iload_n hx hb dX10_pleas_72 rfl (lv_at hl 2 rfl) ?_
  refine lv_if_eq (tgt := 112) hx hb dX10_pleas_73 (by decide) (fun cc1 => ?_) (fun cc1 => ?_)
  · have h := (if_pos cc1).symm.trans h
    exact ww_f10_pleas_b112 C0 A0 f0 l2 h _ _ _ hPD hS (lv_sub hl [0, 1, 2] rfl)
  · have h := (if_neg cc1).symm.trans h
    refine lv_aload_n hx hb dX10_pleas_76 rfl (lv_at hl 0 rfl) ?_
    refine va_get (D := G.1) (ci := 10) (v := .int (f0 9)) (C := RX10) (T := TX10) (N := 52) hx hb hts inlX10 hown hK hPD.1 0 rfl rfl 9 (by decide) (hts _ gw_551) (fun _ h9 => h9) rfl dX10_pleas_77 ?_
    refine lv_aload_n hx hb dX10_pleas_80 rfl (lv_at hl 0 rfl) ?_
    refine va_get (D := G.1) (ci := 10) (v := .int (f0 10)) (C := RX10) (T := TX10) (N := 52) hx hb hts inlX10 hown hK hPD.1 0 rfl rfl 10 (by decide) (hts _ gw_552) (fun _ h9 => h9) rfl dX10_pleas_81 ?_
    refine lv_icmp_ge (tgt := 112) hx hb dX10_pleas_84 (by decide) (fun cc1 => ?_) (fun cc1 => ?_)
    · have h := (if_pos cc1).symm.trans h
      exact ww_f10_pleas_b112 C0 A0 f0 l2 h _ _ _ hPD hS (lv_sub hl [0, 1, 2] rfl)
    · have h := (if_neg cc1).symm.trans h
      refine lv_aload_n hx hb dX10_pleas_87 rfl (lv_at hl 0 rfl) ?_
      refine lv_bipush (v := 59) hx hb dX10_pleas_88 (by decide) ?_
      obtain ⟨q_12, hq_12, h⟩ := ob2 h
      refine kVI (As := [.int 59]) (rest := []) C0 (kt_X10_takes l G h0 a0 f0 A0 59 hq_12) gi_V_X10_227_X10_takes (n := 1) rfl (by decide +kernel) rfl ⟨rfl, rfl, Nat.le_of_ble_eq_true rfl, Nat.le_of_ble_eq_true rfl⟩ hPD hS 0 10 rfl rfl rfl [0, 1, 2, 3, 4, 5, 6, 7, 8, 9, 10, 11, 12, 13, 14, 15, 16, 17, 18, 19, 20, 21, 22, 23, 24, 25, 26, 27, 28, 29, 30, 31, 32, 33] [] [0, 1, 2, 3, 4, 5, 6, 7, 8, 9, 10, 11, 12, 13, 14, 15, 16, 17, 18, 19, 20, 21, 22, 23, 24, 25, 26, 27, 28, 29, 30, 31, 32, 33] (wr := ([] : va_W)) (wN := (wX10 G h0 a0 q_12.2 A0)) rfl rfl rfl rfl rfl hl.1 (Nat.le_of_ble_eq_true rfl) dX10_pleas_90 (fun H locs hPD hS => ?_)
      refine lv_if_eq (tgt := 107) hx hb dX10_pleas_93 (by decide) (fun cc1 => ?_) (fun cc1 => ?_)
      · have h := (if_pos cc1).symm.trans h
        refine lv_iconst (v := 0) hx hb dX10_pleas_107 (by decide) ?_
        refine lv_istore_n (lv' := [(2, .int 0), (0, .ref h0), (1, .int p1)]) hx hb dX10_pleas_108 rfl hl (by decide) rfl (fun ls hl => ?_)
        refine lv_goto (tgt := 72) hx hb dX10_pleas_109 (by decide) ?_
        exact hk72 A0 q_12.2 0 h _ _ _ hPD hS (lv_sub hl [1, 2, 0] rfl)
      · have h := (if_neg cc1).symm.trans h
        refine lv_aload_n hx hb dX10_pleas_96 rfl (lv_at hl 0 rfl) ?_
        obtain ⟨q_13, hq_13, h⟩ := ob2 h
        refine kVI (As := []) (rest := []) C0 (kt_X10_readsLine l G h0 a0 q_12.2 A0 hq_13) gi_V_X10_294_X10_readsLine (n := 0) rfl (by decide +kernel) rfl ⟨rfl, rfl, Nat.le_of_ble_eq_true rfl, Nat.le_of_ble_eq_true rfl⟩ hPD hS 0 10 rfl rfl rfl [0, 1, 2, 3, 4, 5, 6, 7, 8, 9, 10, 11, 12, 13, 14, 15, 16, 17, 18, 19, 20, 21, 22, 23, 24, 25, 26, 27, 28, 29, 30, 31, 32, 33] [] [0, 1, 2, 3, 4, 5, 6, 7, 8, 9, 10, 11, 12, 13, 14, 15, 16, 17, 18, 19, 20, 21, 22, 23, 24, 25, 26, 27, 28, 29, 30, 31, 32, 33] (wr := ([] : va_W)) (wN := (wX10 G h0 a0 q_13.2.2 q_13.2.1)) rfl rfl rfl rfl rfl hl.1 (Nat.le_of_ble_eq_true rfl) dX10_pleas_97 (fun H locs hPD hS => ?_)
        refine lv_if_eq (tgt := 107) hx hb dX10_pleas_100 (by decide) (fun cc1 => ?_) (fun cc1 => ?_)
        · have h := (if_pos cc1).symm.trans h
          refine lv_iconst (v := 0) hx hb dX10_pleas_107 (by decide) ?_
          refine lv_istore_n (lv' := [(2, .int 0), (0, .ref h0), (1, .int p1)]) hx hb dX10_pleas_108 rfl hl (by decide) rfl (fun ls hl => ?_)
          refine lv_goto (tgt := 72) hx hb dX10_pleas_109 (by decide) ?_
          exact hk72 q_13.2.1 q_13.2.2 0 h _ _ _ hPD hS (lv_sub hl [1, 2, 0] rfl)
        · have h := (if_neg cc1).symm.trans h
          refine lv_iconst (v := 1) hx hb dX10_pleas_103 (by decide) ?_
          refine lv_goto (tgt := 108) hx hb dX10_pleas_104 (by decide) ?_
          refine lv_istore_n (lv' := [(2, .int 1), (0, .ref h0), (1, .int p1)]) hx hb dX10_pleas_108 rfl hl (by decide) rfl (fun ls hl => ?_)
          refine lv_goto (tgt := 72) hx hb dX10_pleas_109 (by decide) ?_
          exact hk72 q_13.2.1 q_13.2.2 1 h _ _ _ hPD hS (lv_sub hl [1, 2, 0] rfl)
set_option maxRecDepth 100000 in
set_option maxHeartbeats 4000000 in
theorem ww_f10_pleas_l72  (C0 : Cx cX10_pleas 4 (some .int) RX10 p s m args meth c G DA) {h0 : Nat} {a0 : Nat → Nat} {p1 : Int32}   {res : Int32 × (Nat → Nat → Int32) × (Nat → Int32)}  : ∀ (n : Nat) (A0 : Nat → Nat → Int32) (f0 : Nat → Int32) (l2 : Int32), f10_pleas_l72 p1  n A0 f0 l2 = some res → ∀ (H : Heap) (locs : List Loc) (ls : Array Slot), WD G DA (wX10 G h0 a0 f0 A0) H → va_S DA s.heap H locs → lv_has ls 4 [(0, .ref h0), (1, .int p1), (2, .int l2)] → W p l e rmX10_pleas s m args below meth c H locs 0 0 (MQ below (QI G DA res.1 (wX10 G h0 a0 res.2.2 res.2.1)) args s 0 0 DA) (F0 m 72 ls []) := by
  intro n
  induction n with
  | zero => intro A0 f0 l2 h; cases h
  | succ n ih => intro A0 f0 l2 h; exact ww_f10_pleas_b72 C0  ih A0 f0 l2 h
set_option maxRecDepth 100000 in
set_option maxHeartbeats 4000000 in
theorem ww_f10_pleas_b43  (C0 : Cx cX10_pleas 4 (some .int) RX10 p s m args meth c G DA) {h0 : Nat} {a0 : Nat → Nat} {p1 : Int32}  {k43 : (Nat → Nat → Int32) → (Nat → Int32) → Int32 → Option (Int32 × (Nat → Nat → Int32) × (Nat → Int32))} {res : Int32 × (Nat → Nat → Int32) × (Nat → Int32)}  (hk43 : ∀ (A0 : Nat → Nat → Int32) (f0 : Nat → Int32) (l2 : Int32), k43 A0 f0 l2 = some res → ∀ (H : Heap) (locs : List Loc) (ls : Array Slot), WD G DA (wX10 G h0 a0 f0 A0) H → va_S DA s.heap H locs → lv_has ls 4 [(0, .ref h0), (1, .int p1), (2, .int l2)] → W p l e rmX10_pleas s m args below meth c H locs 0 0 (MQ below (QI G DA res.1 (wX10 G h0 a0 res.2.2 res.2.1)) args s 0 0 DA) (F0 m 43 ls [])) : ∀ (A0 : Nat → Nat → Int32) (f0 : Nat → Int32) (l2 : Int32), f10_pleas_b43 p1  k43 A0 f0 l2 = some res → ∀ (H : Heap) (locs : List Loc) (ls : Array Slot), WD G DA (wX10 G h0 a0 f0 A0) H → va_S DA s.heap H locs → lv_has ls 4 [(0, .ref h0), (1, .int p1), (2, .int l2)] → W p l e rmX10_pleas s m args below meth c H locs 0 0 (MQ below (QI G DA res.1 (wX10 G h0 a0 res.2.2 res.2.1)) args s 0 0 DA) (F0 m 43 ls []) := by
  obtain ⟨hx, hb, hml, hown, hts⟩ := C0.1
  have hK := C0.2.2.2.1
  intro A0 f0 l2 h _ _ _ hPD hS hl
  unfold f10_pleas_b43 at h
  refine lv_iload_n hx hb dX10_pleas_43 rfl (lv_at hl 2 rfl) ?_
  refine lv_bipush (v := 16) hx hb dX10_pleas_44 (by decide) ?_
  refine lv_icmp_ge (tgt := 67) hx hb dX10_pleas_46 (by decide) (fun cc1 => ?_) (fun cc1 => ?_)
  · have h := (if_pos cc1).symm.trans h
    refine lv_aload_n hx hb dX10_pleas_67 rfl (lv_at hl 0 rfl) ?_
    obtain ⟨q_5, hq_5, h⟩ := ob2 h
    refine kVI (As := []) (rest := []) C0 (kt_X10_readsLine l G h0 a0 f0 A0 hq_5) gi_V_X10_294_X10_readsLine (n := 0) rfl (by decide +kernel) rfl ⟨rfl, rfl, Nat.le_of_ble_eq_true rfl, Nat.le_of_ble_eq_true rfl⟩ hPD hS 0 10 rfl rfl rfl [0, 1, 2, 3, 4, 5, 6, 7, 8, 9, 10, 11, 12, 13, 14, 15, 16, 17, 18, 19, 20, 21, 22, 23, 24, 25, 26, 27, 28, 29, 30, 31, 32, 33] [] [0, 1, 2, 3, 4, 5, 6, 7, 8, 9, 10, 11, 12, 13, 14, 15, 16, 17, 18, 19, 20, 21, 22, 23, 24, 25, 26, 27, 28, 29, 30, 31, 32, 33] (wr := ([] : va_W)) (wN := (wX10 G h0 a0 q_5.2.2 q_5.2.1)) rfl rfl rfl rfl rfl hl.1 (Nat.le_of_ble_eq_true rfl) dX10_pleas_68 (fun H locs hPD hS => ?_)
    refine lv_istore_n (lv' := [(2, .int q_5.1), (0, .ref h0), (1, .int p1)]) hx hb dX10_pleas_71 rfl hl (by decide) rfl (fun ls hl => ?_)
    exact ww_f10_pleas_l72 C0 NF q_5.2.1 q_5.2.2 q_5.1 h _ _ _ hPD hS (lv_sub hl [1, 2, 0] rfl)
  · have h := (if_neg cc1).symm.trans h
    refine lv_aload_n hx hb dX10_pleas_49 rfl (lv_at hl 0 rfl) ?_
    refine va_get (D := G.1) (ci := 10) (v := .ref (a0 40)) (C := RX10) (T := TX10) (N := 52) hx hb hts inlX10 hown hK hPD.1 0 rfl rfl 40 (by decide) (hts _ gw_724) (fun _ h9 => h9) rfl dX10_pleas_50 ?_
    refine lv_iload_n hx hb dX10_pleas_53 rfl (lv_at hl 2 rfl) ?_
    refine lv_aload_n hx hb dX10_pleas_54 rfl (lv_at hl 0 rfl) ?_
    refine va_get (D := G.1) (ci := 10) (v := .ref (a0 3)) (C := RX10) (T := TX10) (N := 52) hx hb hts inlX10 hown hK hPD.1 0 rfl rfl 3 (by decide) (hts _ gw_663) (fun _ h9 => h9) rfl dX10_pleas_55 ?_
    refine lv_iload_n hx hb dX10_pleas_58 rfl (lv_at hl 2 rfl) ?_
    obtain ⟨hi_14, h⟩ := ob h
    refine va_iald hx hb hK hPD.1 4 1 rfl rfl hi_14 dX10_pleas_59 ?_
    obtain ⟨hi_15, h⟩ := ob h
    refine va_iast hx hb hK hPD.1 hPD.2 hS 25 1 rfl rfl hi_15 dX10_pleas_60 (fun H locs hP hD hS => ?_)
    obtain ⟨A0_16, eA0_16, h⟩ := lvl h
    have hPD : WD G DA (wX10 G h0 a0 f0 A0_16) H := by rw [eA0_16]; exact ⟨hP, hD⟩
    clear eA0_16 hP hD
    refine lv_iinc (v := l2 + 1) (lv' := [(2, .int (l2 + 1)), (0, .ref h0), (1, .int p1)]) hx hb dX10_pleas_61 hl (k := 2) rfl rfl (by decide) rfl (fun ls hl => ?_)
    refine lv_goto (tgt := 43) hx hb dX10_pleas_64 (by decide) ?_
    exact hk43 A0_16 f0 (l2 + 1) h _ _ _ hPD hS (lv_sub hl [1, 2, 0] rfl)
set_option maxRecDepth 100000 in
set_option maxHeartbeats 4000000 in
theorem ww_f10_pleas_l43  (C0 : Cx cX10_pleas 4 (some .int) RX10 p s m args meth c G DA) {h0 : Nat} {a0 : Nat → Nat} {p1 : Int32}   {res : Int32 × (Nat → Nat → Int32) × (Nat → Int32)}  : ∀ (n : Nat) (A0 : Nat → Nat → Int32) (f0 : Nat → Int32) (l2 : Int32), f10_pleas_l43 p1  n A0 f0 l2 = some res → ∀ (H : Heap) (locs : List Loc) (ls : Array Slot), WD G DA (wX10 G h0 a0 f0 A0) H → va_S DA s.heap H locs → lv_has ls 4 [(0, .ref h0), (1, .int p1), (2, .int l2)] → W p l e rmX10_pleas s m args below meth c H locs 0 0 (MQ below (QI G DA res.1 (wX10 G h0 a0 res.2.2 res.2.1)) args s 0 0 DA) (F0 m 43 ls []) := by
  intro n
  induction n with
  | zero => intro A0 f0 l2 h; cases h
  | succ n ih => intro A0 f0 l2 h; exact ww_f10_pleas_b43 C0  ih A0 f0 l2 h
set_option maxRecDepth 100000 in
set_option maxHeartbeats 4000000 in
theorem kt_X10_pleas (l : Launch) (G : Gp) (h0 : Nat) (a0 : Nat → Nat) (f0 : Nat → Int32) (A0 : Nat → Nat → Int32) (p1 : Int32) : ∀ {r : Int32 × (Nat → Nat → Int32) × (Nat → Int32)}, f10_pleas f0 A0 p1 = some r → CtrI l yX10_pleas cX10_pleas 4 (some .int) rmX10_pleas G [.ref h0, .int p1] (wX10 G h0 a0 f0 A0) r.1 (wX10 G h0 a0 r.2.2 r.2.1) := by
  intro res h
  refine ctrI_of (cc := cX10_pleas) (maxL := 4) (ret := (some .int)) (by decide +kernel) rfl (Nat.le_of_ble_eq_true rfl) (fun p e s m below meth c DA C0 hP hD ls hl => ?_)
  have hPD : WD G DA (wX10 G h0 a0 f0 A0) s.heap := ⟨hP, hD⟩
  have hS : va_S DA s.heap s.heap [] := va_S.rf
  have hl : lv_has ls 4 [(0, .ref h0), (1, .int p1)] := hl
  obtain ⟨hx, hb, hml, hown, hts⟩ := C0.1
  have hK := C0.2.2.2.1
  unfold f10_pleas at h
  refine lv_iload_n hx hb dX10_pleas_0 rfl (lv_at hl 1 rfl) ?_
  refine lv_iconst (v := 1) hx hb dX10_pleas_1 (by decide) ?_
  refine lv_bipush (v := 120) hx hb dX10_pleas_2 (by decide) ?_
  refine kSI (As := [.int p1, .int 1, .int 120]) (rest := []) C0 (kt_X10_in l G  p1 1 120) gi_S_X10_112_X10_in (n := 3) rfl (by decide +kernel) ⟨rfl, rfl, Nat.le_of_ble_eq_true rfl, Nat.le_of_ble_eq_true rfl⟩ hPD hS [] [0, 1, 2, 3, 4, 5, 6, 7, 8, 9, 10, 11, 12, 13, 14, 15, 16, 17, 18, 19, 20, 21, 22, 23, 24, 25, 26, 27, 28, 29, 30, 31, 32, 33] [0, 1, 2, 3, 4, 5, 6, 7, 8, 9, 10, 11, 12, 13, 14, 15, 16, 17, 18, 19, 20, 21, 22, 23, 24, 25, 26, 27, 28, 29, 30, 31, 32, 33] (wr := (wX10 G h0 a0 f0 A0)) (wN := (wX10 G h0 a0 f0 A0)) rfl rfl rfl rfl rfl hl.1 (Nat.le_of_ble_eq_true rfl) dX10_pleas_4 (fun H locs hPD hS => ?_)
  refine lv_if_eq (tgt := 18) hx hb dX10_pleas_7 (by decide) (fun cc1 => ?_) (fun cc1 => ?_)
  · have h := (if_pos cc1).symm.trans h
    refine lv_iconst (v := (-1)) hx hb dX10_pleas_18 (by decide) ?_
    obtain rfl := Option.some.inj h
    exact eI C0 hPD.1 hPD.2 hS rfl dX10_pleas_19
  · have h := (if_neg cc1).symm.trans h
    refine lv_iload_n hx hb dX10_pleas_10 rfl (lv_at hl 1 rfl) ?_
    refine lv_aload_n hx hb dX10_pleas_11 rfl (lv_at hl 0 rfl) ?_
    refine va_get (D := G.1) (ci := 10) (v := .int (f0 8)) (C := RX10) (T := TX10) (N := 52) hx hb hts inlX10 hown hK hPD.1 0 rfl rfl 8 (by decide) (hts _ gw_546) (fun _ h9 => h9) rfl dX10_pleas_12 ?_
    refine lv_icmp_le (tgt := 20) hx hb dX10_pleas_15 (by decide) (fun cc1 => ?_) (fun cc1 => ?_)
    · have h := (if_pos cc1).symm.trans h
      refine lv_aload_n hx hb dX10_pleas_20 rfl (lv_at hl 0 rfl) ?_
      refine lv_iload_n hx hb dX10_pleas_21 rfl (lv_at hl 1 rfl) ?_
      obtain ⟨z_1, ez_1, h⟩ := lvl h
      have kc := kt_X10_beginsText l G h0 a0 f0 A0 p1
      rw [← ez_1] at kc
      clear ez_1
      refine kVV (As := [.int p1]) (rest := []) C0 (kc) gi_V_X10_221_X10_beginsText (n := 1) rfl (by decide +kernel) rfl ⟨rfl, rfl, Nat.le_of_ble_eq_true rfl, Nat.le_of_ble_eq_true rfl⟩ hPD hS 0 10 rfl rfl rfl [0, 1, 2, 3, 4, 5, 6, 7, 8, 9, 10, 11, 12, 13, 14, 15, 16, 17, 18, 19, 20, 21, 22, 23, 24, 25, 26, 27, 28, 29, 30, 31, 32, 33] [] [0, 1, 2, 3, 4, 5, 6, 7, 8, 9, 10, 11, 12, 13, 14, 15, 16, 17, 18, 19, 20, 21, 22, 23, 24, 25, 26, 27, 28, 29, 30, 31, 32, 33] (wr := ([] : va_W)) (wN := (wX10 G h0 a0 z_1 A0)) rfl rfl rfl rfl rfl hl.1 (Nat.le_of_ble_eq_true rfl) dX10_pleas_22 (fun H locs hPD hS => ?_)
      refine lv_aload_n hx hb dX10_pleas_25 rfl (lv_at hl 0 rfl) ?_
      refine lv_iconst (v := 0) hx hb dX10_pleas_26 (by decide) ?_
      refine va_put (D := G.1) (ci := 10) (v := .int 0) (ty := .int) (C := RX10) (T := TX10) (N := 52) hx hb hts inlX10 tyX10 tyX10_ok nmX10 hown hK hPD.1 hPD.2 hS 0 rfl rfl 39 (by decide) (hts _ gw_701) (fun _ h9 => h9) rfl (by decide +kernel) rfl rfl (Nat.le_of_ble_eq_true rfl) dX10_pleas_27 (fun H locs hP hD hS => ?_)
      obtain ⟨f0_2, ef0_2, h⟩ := lvl h
      have hPD : WD G DA (wX10 G h0 a0 f0_2 A0) H := by rw [ef0_2]; exact ⟨hP, hD⟩
      clear ef0_2 hP hD
      refine lv_aload_n hx hb dX10_pleas_30 rfl (lv_at hl 0 rfl) ?_
      refine va_get (D := G.1) (ci := 10) (v := .ref (a0 0)) (C := RX10) (T := TX10) (N := 52) hx hb hts inlX10 hown hK hPD.1 0 rfl rfl 0 (by decide) (hts _ gw_536) (fun _ h9 => h9) rfl dX10_pleas_31 ?_
      refine lv_aload_n hx hb dX10_pleas_34 rfl (lv_at hl 0 rfl) ?_
      refine va_get (D := G.1) (ci := 10) (v := .ref (a0 1)) (C := RX10) (T := TX10) (N := 52) hx hb hts inlX10 hown hK hPD.1 0 rfl rfl 1 (by decide) (hts _ gw_716) (fun _ h9 => h9) rfl dX10_pleas_35 ?_
      obtain ⟨q_3, hq_3, h⟩ := ob2 h
      refine kSV (As := [.ref (a0 0), .ref (a0 1)]) (rest := []) C0 (kt_X10_copies l G (a0 0) (a0 1) 76 (A0 0) 76 (A0 1) (by decide) (by decide) hq_3) gi_S_X10_290_X10_copies (n := 2) rfl (by decide +kernel) ⟨rfl, rfl, Nat.le_of_ble_eq_true rfl, Nat.le_of_ble_eq_true rfl⟩ hPD hS [1, 2] [0, 3, 4, 5, 6, 7, 8, 9, 10, 11, 12, 13, 14, 15, 16, 17, 18, 19, 20, 21, 22, 23, 24, 25, 26, 27, 28, 29, 30, 31, 32, 33] [0, 32, 33, 1, 2, 3, 4, 5, 6, 7, 8, 9, 10, 11, 12, 13, 14, 15, 16, 17, 18, 19, 20, 21, 22, 23, 24, 25, 26, 27, 28, 29, 30, 31] (wr := pick (wX10 G h0 a0 f0_2 A0) [0, 3, 4, 5, 6, 7, 8, 9, 10, 11, 12, 13, 14, 15, 16, 17, 18, 19, 20, 21, 22, 23, 24, 25, 26, 27, 28, 29, 30, 31, 32, 33]) (wN := (wX10 G h0 a0 f0_2 (updA A0 1 q_3))) rfl rfl rfl rfl rfl hl.1 (Nat.le_of_ble_eq_true rfl) dX10_pleas_38 (fun H locs hPD hS => ?_)
      obtain ⟨A0_4, eA0_4, h⟩ := lvl h
      have hPD : WD G DA (wX10 G h0 a0 f0_2 A0_4) H := by rw [eA0_4]; exact hPD
      clear eA0_4
      refine lv_iconst (v := 0) hx hb dX10_pleas_41 (by decide) ?_
      refine lv_istore_n (lv' := [(2, .int 0), (0, .ref h0), (1, .int p1)]) hx hb dX10_pleas_42 rfl hl (by decide) rfl (fun ls hl => ?_)
      exact ww_f10_pleas_l43 C0 NF A0_4 f0_2 0 h _ _ _ hPD hS (lv_sub hl [1, 2, 0] rfl)
    · have h := (if_neg cc1).symm.trans h
      refine lv_iconst (v := (-1)) hx hb dX10_pleas_18 (by decide) ?_
      obtain rfl := Option.some.inj h
      exact eI C0 hPD.1 hPD.2 hS rfl dX10_pleas_19
abbrev rmX10_walks : Room := { frames := 2, cells := 0, slots := 0, locals := 43 }
set_option maxRecDepth 100000 in
set_option maxHeartbeats 4000000 in
theorem kt_X10_walks (l : Launch) (G : Gp) (h0 : Nat) (a0 : Nat → Nat) (f0 : Nat → Int32) (A0 : Nat → Nat → Int32) (p1 : Int32) : ∀ {r : (Nat → Nat → Int32)}, f10_walks f0 A0 p1 = some r → CtrV l yX10_walks cX10_walks 3 none rmX10_walks G [.ref h0, .int p1] (wX10 G h0 a0 f0 A0) (wX10 G h0 a0 f0 r) := by
  intro res h
  refine ctrV_of (cc := cX10_walks) (maxL := 3) (ret := none) (by decide +kernel) rfl (Nat.le_of_ble_eq_true rfl) (fun p e s m below meth c DA C0 hP hD ls hl => ?_)
  have hPD : WD G DA (wX10 G h0 a0 f0 A0) s.heap := ⟨hP, hD⟩
  have hS : va_S DA s.heap s.heap [] := va_S.rf
  have hl : lv_has ls 3 [(0, .ref h0), (1, .int p1)] := hl
  obtain ⟨hx, hb, hml, hown, hts⟩ := C0.1
  have hK := C0.2.2.2.1
  unfold f10_walks at h
  refine lv_aload_n hx hb dX10_walks_0 rfl (lv_at hl 0 rfl) ?_
  refine lv_iload_n hx hb dX10_walks_1 rfl (lv_at hl 1 rfl) ?_
  obtain ⟨q_1, hq_1, h⟩ := ob2 h
  refine kVI (As := [.int p1]) (rest := []) C0 (kt_X10_isMan l G h0 a0 f0 A0 p1 hq_1) gi_V_X10_124_X10_isMan (n := 1) rfl (by decide +kernel) rfl ⟨rfl, rfl, Nat.le_of_ble_eq_true rfl, Nat.le_of_ble_eq_true rfl⟩ hPD hS 0 10 rfl rfl rfl [0, 1, 2, 3, 4, 5, 6, 7, 8, 9, 10, 11, 12, 13, 14, 15, 16, 17, 18, 19, 20, 21, 22, 23, 24, 25, 26, 27, 28, 29, 30, 31, 32, 33] [] [0, 1, 2, 3, 4, 5, 6, 7, 8, 9, 10, 11, 12, 13, 14, 15, 16, 17, 18, 19, 20, 21, 22, 23, 24, 25, 26, 27, 28, 29, 30, 31, 32, 33] (wr := ([] : va_W)) (wN := (wX10 G h0 a0 f0 A0)) rfl rfl rfl rfl rfl hl.1 (Nat.le_of_ble_eq_true rfl) dX10_walks_2 (fun H locs hPD hS => ?_)
  refine lv_if_eq (tgt := 17) hx hb dX10_walks_5 (by decide) (fun cc1 => ?_) (fun cc1 => ?_)
  · have h := (if_pos cc1).symm.trans h
    obtain rfl := Option.some.inj h
    exact eV C0 hPD.1 hPD.2 hS dX10_walks_17
  · have h := (if_neg cc1).symm.trans h
    refine lv_aload_n hx hb dX10_walks_8 rfl (lv_at hl 0 rfl) ?_
    refine va_get (D := G.1) (ci := 10) (v := .ref (a0 4)) (C := RX10) (T := TX10) (N := 52) hx hb hts inlX10 hown hK hPD.1 0 rfl rfl 4 (by decide) (hts _ gw_695) (fun _ h9 => h9) rfl dX10_walks_9 ?_
    refine lv_iload_n hx hb dX10_walks_12 rfl (lv_at hl 1 rfl) ?_
    obtain ⟨hi_2, h⟩ := ob h
    refine va_iald hx hb hK hPD.1 5 1 rfl rfl hi_2 dX10_walks_13 ?_
    refine lv_if_ne (tgt := 18) hx hb dX10_walks_14 (by decide) (fun cc1 => ?_) (fun cc1 => ?_)
    · have h := (if_neg cc1).symm.trans h
      refine lv_aload_n hx hb dX10_walks_18 rfl (lv_at hl 0 rfl) ?_
      refine va_get (D := G.1) (ci := 10) (v := .ref (a0 5)) (C := RX10) (T := TX10) (N := 52) hx hb hts inlX10 hown hK hPD.1 0 rfl rfl 5 (by decide) (hts _ gw_696) (fun _ h9 => h9) rfl dX10_walks_19 ?_
      refine lv_bipush (v := 48) hx hb dX10_walks_22 (by decide) ?_
      refine lv_iload_n hx hb dX10_walks_24 rfl (lv_at hl 1 rfl) ?_
      refine lv_imul hx hb dX10_walks_25 ?_
      refine lv_aload_n hx hb dX10_walks_26 rfl (lv_at hl 0 rfl) ?_
      refine va_get (D := G.1) (ci := 10) (v := .ref (a0 0)) (C := RX10) (T := TX10) (N := 52) hx hb hts inlX10 hown hK hPD.1 0 rfl rfl 0 (by decide) (hts _ gw_536) (fun _ h9 => h9) rfl dX10_walks_27 ?_
      refine lv_bipush (v := 74) hx hb dX10_walks_30 (by decide) ?_
      refine va_iald hx hb hK hPD.1 1 1 rfl rfl (vin rfl) dX10_walks_32 ?_
      refine lv_aload_n hx hb dX10_walks_33 rfl (lv_at hl 0 rfl) ?_
      refine va_get (D := G.1) (ci := 10) (v := .ref (a0 4)) (C := RX10) (T := TX10) (N := 52) hx hb hts inlX10 hown hK hPD.1 0 rfl rfl 4 (by decide) (hts _ gw_695) (fun _ h9 => h9) rfl dX10_walks_34 ?_
      refine lv_iload_n hx hb dX10_walks_37 rfl (lv_at hl 1 rfl) ?_
      obtain ⟨hi_3, h⟩ := ob h
      refine va_iald hx hb hK hPD.1 5 1 rfl rfl hi_3 dX10_walks_38 ?_
      obtain ⟨hz, h⟩ := ob h
      refine lv_irem hx hb dX10_walks_39 hz ?_
      refine lv_iadd hx hb dX10_walks_40 ?_
      obtain ⟨hi_4, h⟩ := ob h
      refine va_iald hx hb hK hPD.1 6 1 rfl rfl hi_4 dX10_walks_41 ?_
      obtain ⟨x_5, ex_5, h⟩ := lvl h
      refine lv_nm ex_5 ?_
      refine lv_istore_n (lv' := [(2, .int x_5), (0, .ref h0), (1, .int p1)]) hx hb dX10_walks_42 rfl hl (by decide) rfl (fun ls hl => ?_)
      refine lv_iload_n hx hb dX10_walks_43 rfl (lv_at hl 0 rfl) ?_
      refine lv_iconst (v := (-1)) hx hb dX10_walks_44 (by decide) ?_
      refine lv_icmp_eq (tgt := 87) hx hb dX10_walks_45 (by decide) (fun cc1 => ?_) (fun cc1 => ?_)
      · have h := (if_pos cc1).symm.trans h
        obtain rfl := Option.some.inj h
        exact eV C0 hPD.1 hPD.2 hS dX10_walks_87
      · have h := (if_neg cc1).symm.trans h
        refine lv_aload_n hx hb dX10_walks_48 rfl (lv_at hl 1 rfl) ?_
        refine lv_iload_n hx hb dX10_walks_49 rfl (lv_at hl 0 rfl) ?_
        refine kVI (As := [.int x_5]) (rest := []) C0 (kt_X10_isTold l G h0 a0 f0 A0 x_5) gi_V_X10_128_X10_isTold (n := 1) rfl (by decide +kernel) rfl ⟨rfl, rfl, Nat.le_of_ble_eq_true rfl, Nat.le_of_ble_eq_true rfl⟩ hPD hS 0 10 rfl rfl rfl [0, 1, 2, 3, 4, 5, 6, 7, 8, 9, 10, 11, 12, 13, 14, 15, 16, 17, 18, 19, 20, 21, 22, 23, 24, 25, 26, 27, 28, 29, 30, 31, 32, 33] [] [0, 1, 2, 3, 4, 5, 6, 7, 8, 9, 10, 11, 12, 13, 14, 15, 16, 17, 18, 19, 20, 21, 22, 23, 24, 25, 26, 27, 28, 29, 30, 31, 32, 33] (wr := ([] : va_W)) (wN := (wX10 G h0 a0 f0 A0)) rfl rfl rfl rfl rfl hl.1 (Nat.le_of_ble_eq_true rfl) dX10_walks_50 (fun H locs hPD hS => ?_)
        refine lv_if_eq (tgt := 87) hx hb dX10_walks_53 (by decide) (fun cc1 => ?_) (fun cc1 => ?_)
        · have h := (if_pos cc1).symm.trans h
          obtain rfl := Option.some.inj h
          exact eV C0 hPD.1 hPD.2 hS dX10_walks_87
        · have h := (if_neg cc1).symm.trans h
          refine lv_aload_n hx hb dX10_walks_56 rfl (lv_at hl 1 rfl) ?_
          refine va_get (D := G.1) (ci := 10) (v := .ref (a0 3)) (C := RX10) (T := TX10) (N := 52) hx hb hts inlX10 hown hK hPD.1 0 rfl rfl 3 (by decide) (hts _ gw_663) (fun _ h9 => h9) rfl dX10_walks_57 ?_
          refine lv_aload_n hx hb dX10_walks_60 rfl (lv_at hl 1 rfl) ?_
          refine va_get (D := G.1) (ci := 10) (v := .ref (a0 0)) (C := RX10) (T := TX10) (N := 52) hx hb hts inlX10 hown hK hPD.1 0 rfl rfl 0 (by decide) (hts _ gw_536) (fun _ h9 => h9) rfl dX10_walks_61 ?_
          refine lv_bipush (v := 56) hx hb dX10_walks_64 (by decide) ?_
          refine lv_iload_n hx hb dX10_walks_66 rfl (lv_at hl 2 rfl) ?_
          refine lv_iadd hx hb dX10_walks_67 ?_
          obtain ⟨hi_6, h⟩ := ob h
          refine va_iald hx hb hK hPD.1 1 1 rfl rfl hi_6 dX10_walks_68 ?_
          obtain ⟨hi_7, h⟩ := ob h
          refine va_iald hx hb hK hPD.1 4 1 rfl rfl hi_7 dX10_walks_69 ?_
          refine lv_iload_n hx hb dX10_walks_70 rfl (lv_at hl 0 rfl) ?_
          refine kSI (As := [.int (gx (A0 3) (gx (A0 0) (56 + p1))), .int x_5]) (rest := []) C0 (kt_X10_has l G  (gx (A0 3) (gx (A0 0) (56 + p1))) x_5) gi_S_X10_120_X10_has (n := 2) rfl (by decide +kernel) ⟨rfl, rfl, Nat.le_of_ble_eq_true rfl, Nat.le_of_ble_eq_true rfl⟩ hPD hS [] [0, 1, 2, 3, 4, 5, 6, 7, 8, 9, 10, 11, 12, 13, 14, 15, 16, 17, 18, 19, 20, 21, 22, 23, 24, 25, 26, 27, 28, 29, 30, 31, 32, 33] [0, 1, 2, 3, 4, 5, 6, 7, 8, 9, 10, 11, 12, 13, 14, 15, 16, 17, 18, 19, 20, 21, 22, 23, 24, 25, 26, 27, 28, 29, 30, 31, 32, 33] (wr := (wX10 G h0 a0 f0 A0)) (wN := (wX10 G h0 a0 f0 A0)) rfl rfl rfl rfl rfl hl.1 (Nat.le_of_ble_eq_true rfl) dX10_walks_71 (fun H locs hPD hS => ?_)
          refine lv_if_eq (tgt := 87) hx hb dX10_walks_74 (by decide) (fun cc1 => ?_) (fun cc1 => ?_)
          · have h := (if_pos cc1).symm.trans h
            obtain rfl := Option.some.inj h
            exact eV C0 hPD.1 hPD.2 hS dX10_walks_87
          · have h := (if_neg cc1).symm.trans h
            refine lv_aload_n hx hb dX10_walks_77 rfl (lv_at hl 1 rfl) ?_
            refine va_get (D := G.1) (ci := 10) (v := .ref (a0 0)) (C := RX10) (T := TX10) (N := 52) hx hb hts inlX10 hown hK hPD.1 0 rfl rfl 0 (by decide) (hts _ gw_536) (fun _ h9 => h9) rfl dX10_walks_78 ?_
            refine lv_bipush (v := 56) hx hb dX10_walks_81 (by decide) ?_
            refine lv_iload_n hx hb dX10_walks_83 rfl (lv_at hl 2 rfl) ?_
            refine lv_iadd hx hb dX10_walks_84 ?_
            refine lv_iload_n hx hb dX10_walks_85 rfl (lv_at hl 0 rfl) ?_
            obtain ⟨hi_8, h⟩ := ob h
            refine va_iast hx hb hK hPD.1 hPD.2 hS 1 1 rfl rfl hi_8 dX10_walks_86 (fun H locs hP hD hS => ?_)
            obtain ⟨A0_9, eA0_9, h⟩ := lvl h
            have hPD : WD G DA (wX10 G h0 a0 f0 A0_9) H := by rw [eA0_9]; exact ⟨hP, hD⟩
            clear eA0_9 hP hD
            obtain rfl := Option.some.inj h
            exact eV C0 hPD.1 hPD.2 hS dX10_walks_87
    · have h := (if_pos cc1).symm.trans h
      obtain rfl := Option.some.inj h
      exact eV C0 hPD.1 hPD.2 hS dX10_walks_17
end WALK
