section WALK
variable {p : Program} {l : Launch} {e : Env} {s : State} {m : MethodId} {args : Array Value} {below : List Frame} {meth : Method} {c : Code} {G : Gp} {DA : Nat → Prop}
set_option maxRecDepth 100000 in
set_option maxHeartbeats 4000000 in
theorem ww_f10_wages_l4  (C0 : Cx cX10_wages 3 (some .int) RX10 p s m args meth c G DA) {h0 : Nat} {a0 : Nat → Nat} {f0 : Nat → Int32} {A0 : Nat → Nat → Int32}   {res : Int32}  : ∀ (n : Nat) (l1 : Int32) (l2 : Int32), f10_wages_l4 f0 A0  n l1 l2 = some res → ∀ (H : Heap) (locs : List Loc) (ls : Array Slot), WD G DA (wX10 G h0 a0 f0 A0) H → va_S DA s.heap H locs → lv_has ls 3 [(0, .ref h0), (1, .int l1), (2, .int l2)] → W p l e rmX10_wages s m args below meth c H locs 0 0 (MQ below (QI G DA res (wX10 G h0 a0 f0 A0)) args s 0 0 DA) (F0 m 4 ls []) := by
  intro n
  induction n with
  | zero => intro l1 l2 h; cases h
  | succ n ih => intro l1 l2 h; exact ww_f10_wages_b4 C0  ih l1 l2 h
set_option maxRecDepth 100000 in
set_option maxHeartbeats 4000000 in
theorem kt_X10_wages (l : Launch) (G : Gp) (h0 : Nat) (a0 : Nat → Nat) (f0 : Nat → Int32) (A0 : Nat → Nat → Int32) : ∀ {r : Int32}, f10_wages f0 A0 = some r → CtrI l yX10_wages cX10_wages 3 (some .int) rmX10_wages G [.ref h0] (wX10 G h0 a0 f0 A0) r (wX10 G h0 a0 f0 A0) := by
  intro res h
  refine ctrI_of (cc := cX10_wages) (maxL := 3) (ret := (some .int)) (by decide +kernel) rfl (Nat.le_of_ble_eq_true rfl) (fun p e s m below meth c DA C0 hP hD ls hl => ?_)
  have hPD : WD G DA (wX10 G h0 a0 f0 A0) s.heap := ⟨hP, hD⟩
  have hS : va_S DA s.heap s.heap [] := va_S.rf
  have hl : lv_has ls 3 [(0, .ref h0)] := hl
  obtain ⟨hx, hb, hml, hown, hts⟩ := C0.1
  have hK := C0.2.2.2.1
  unfold f10_wages at h
  refine lv_iconst (v := 0) hx hb dX10_wages_0 (by decide) ?_
  refine lv_istore_n (lv' := [(1, .int 0), (0, .ref h0)]) hx hb dX10_wages_1 rfl hl (by decide) rfl (fun ls hl => ?_)
  refine lv_iconst (v := 0) hx hb dX10_wages_2 (by decide) ?_
  refine lv_istore_n (lv' := [(2, .int 0), (1, .int 0), (0, .ref h0)]) hx hb dX10_wages_3 rfl hl (by decide) rfl (fun ls hl => ?_)
  exact ww_f10_wages_l4 C0 NF 0 0 h _ _ _ hPD hS (lv_sub hl [2, 1, 0] rfl)
abbrev rmX10_count : Room := { frames := 3, cells := 0, slots := 0, locals := 65 }
set_option maxRecDepth 100000 in
set_option maxHeartbeats 4000000 in
theorem kt_X10_count (l : Launch) (G : Gp) (h0 : Nat) (a0 : Nat → Nat) (f0 : Nat → Int32) (A0 : Nat → Nat → Int32) (p1 : Int32) : ∀ {r : Int32}, f10_count f0 A0 p1 = some r → CtrI l yX10_count cX10_count 2 (some .int) rmX10_count G [.ref h0, .int p1] (wX10 G h0 a0 f0 A0) r (wX10 G h0 a0 f0 A0) := by
  intro res h
  refine ctrI_of (cc := cX10_count) (maxL := 2) (ret := (some .int)) (by decide +kernel) rfl (Nat.le_of_ble_eq_true rfl) (fun p e s m below meth c DA C0 hP hD ls hl => ?_)
  have hPD : WD G DA (wX10 G h0 a0 f0 A0) s.heap := ⟨hP, hD⟩
  have hS : va_S DA s.heap s.heap [] := va_S.rf
  have hl : lv_has ls 2 [(0, .ref h0), (1, .int p1)] := hl
  obtain ⟨hx, hb, hml, hown, hts⟩ := C0.1
  have hK := C0.2.2.2.1
  unfold f10_count at h
  refine lv_iload_n hx hb dX10_count_0 rfl (lv_at hl 1 rfl) ?_
  by_cases cc0 : p1 = 0
  · have h := (if_pos cc0).symm.trans h
    refine lv_swT (tgt := 52) (k := 0) hx hb dX10_count_1 cc0 (by decide) (by decide) ?_
    refine lv_aload_n hx hb dX10_count_52 rfl (lv_at hl 0 rfl) ?_
    refine va_get (D := G.1) (ci := 10) (v := .ref (a0 0)) (C := RX10) (T := TX10) (N := 52) hx hb hts inlX10 hown hK hPD.1 0 rfl rfl 0 (by decide) (hts _ gw_536) (fun _ h9 => h9) rfl dX10_count_53 ?_
    refine lv_bipush (v := 74) hx hb dX10_count_56 (by decide) ?_
    refine va_iald hx hb hK hPD.1 1 1 rfl rfl (vin rfl) dX10_count_58 ?_
    obtain rfl := Option.some.inj h
    exact eI C0 hPD.1 hPD.2 hS rfl dX10_count_59
  have h := (if_neg cc0).symm.trans h
  by_cases cc1 : p1 = 1
  · have h := (if_pos cc1).symm.trans h
    refine lv_swT (tgt := 60) (k := 1) hx hb dX10_count_1 cc1 (by decide) (by decide) ?_
    refine lv_aload_n hx hb dX10_count_60 rfl (lv_at hl 0 rfl) ?_
    refine va_get (D := G.1) (ci := 10) (v := .ref (a0 0)) (C := RX10) (T := TX10) (N := 52) hx hb hts inlX10 hown hK hPD.1 0 rfl rfl 0 (by decide) (hts _ gw_536) (fun _ h9 => h9) rfl dX10_count_61 ?_
    refine lv_bipush (v := 73) hx hb dX10_count_64 (by decide) ?_
    refine va_iald hx hb hK hPD.1 1 1 rfl rfl (vin rfl) dX10_count_66 ?_
    obtain rfl := Option.some.inj h
    exact eI C0 hPD.1 hPD.2 hS rfl dX10_count_67
  have h := (if_neg cc1).symm.trans h
  by_cases cc2 : p1 = 2
  · have h := (if_pos cc2).symm.trans h
    refine lv_swT (tgt := 68) (k := 2) hx hb dX10_count_1 cc2 (by decide) (by decide) ?_
    refine lv_aload_n hx hb dX10_count_68 rfl (lv_at hl 0 rfl) ?_
    refine va_get (D := G.1) (ci := 10) (v := .ref (a0 0)) (C := RX10) (T := TX10) (N := 52) hx hb hts inlX10 hown hK hPD.1 0 rfl rfl 0 (by decide) (hts _ gw_536) (fun _ h9 => h9) rfl dX10_count_69 ?_
    refine lv_bipush (v := 72) hx hb dX10_count_72 (by decide) ?_
    refine va_iald hx hb hK hPD.1 1 1 rfl rfl (vin rfl) dX10_count_74 ?_
    obtain rfl := Option.some.inj h
    exact eI C0 hPD.1 hPD.2 hS rfl dX10_count_75
  have h := (if_neg cc2).symm.trans h
  by_cases cc3 : p1 = 3
  · have h := (if_pos cc3).symm.trans h
    refine lv_swT (tgt := 76) (k := 3) hx hb dX10_count_1 cc3 (by decide) (by decide) ?_
    refine lv_aload_n hx hb dX10_count_76 rfl (lv_at hl 0 rfl) ?_
    refine va_get (D := G.1) (ci := 10) (v := .int (f0 6)) (C := RX10) (T := TX10) (N := 52) hx hb hts inlX10 hown hK hPD.1 0 rfl rfl 6 (by decide) (hts _ gw_532) (fun _ h9 => h9) rfl dX10_count_77 ?_
    obtain rfl := Option.some.inj h
    exact eI C0 hPD.1 hPD.2 hS rfl dX10_count_80
  have h := (if_neg cc3).symm.trans h
  by_cases cc4 : p1 = 4
  · have h := (if_pos cc4).symm.trans h
    refine lv_swT (tgt := 81) (k := 4) hx hb dX10_count_1 cc4 (by decide) (by decide) ?_
    refine lv_aload_n hx hb dX10_count_81 rfl (lv_at hl 0 rfl) ?_
    obtain ⟨q_1, hq_1, h⟩ := ob2 h
    refine kVI (As := []) (rest := []) C0 (kt_X10_menSet l G h0 a0 f0 A0 hq_1) gi_V_X10_389_X10_menSet (n := 0) rfl (by decide +kernel) rfl ⟨rfl, rfl, Nat.le_of_ble_eq_true rfl, Nat.le_of_ble_eq_true rfl⟩ hPD hS 0 10 rfl rfl rfl [0, 1, 2, 3, 4, 5, 6, 7, 8, 9, 10, 11, 12, 13, 14, 15, 16, 17, 18, 19, 20, 21, 22, 23, 24, 25, 26, 27, 28, 29, 30, 31, 32, 33] [] [0, 1, 2, 3, 4, 5, 6, 7, 8, 9, 10, 11, 12, 13, 14, 15, 16, 17, 18, 19, 20, 21, 22, 23, 24, 25, 26, 27, 28, 29, 30, 31, 32, 33] (wr := ([] : va_W)) (wN := (wX10 G h0 a0 f0 A0)) rfl rfl rfl rfl rfl hl.1 (Nat.le_of_ble_eq_true rfl) dX10_count_82 (fun H locs hPD hS => ?_)
    obtain rfl := Option.some.inj h
    exact eI C0 hPD.1 hPD.2 hS rfl dX10_count_85
  have h := (if_neg cc4).symm.trans h
  by_cases cc5 : p1 = 5
  · have h := (if_pos cc5).symm.trans h
    refine lv_swT (tgt := 86) (k := 5) hx hb dX10_count_1 cc5 (by decide) (by decide) ?_
    refine lv_aload_n hx hb dX10_count_86 rfl (lv_at hl 0 rfl) ?_
    obtain ⟨q_2, hq_2, h⟩ := ob2 h
    refine kVI (As := []) (rest := []) C0 (kt_X10_wages l G h0 a0 f0 A0 hq_2) gi_V_X10_392_X10_wages (n := 0) rfl (by decide +kernel) rfl ⟨rfl, rfl, Nat.le_of_ble_eq_true rfl, Nat.le_of_ble_eq_true rfl⟩ hPD hS 0 10 rfl rfl rfl [0, 1, 2, 3, 4, 5, 6, 7, 8, 9, 10, 11, 12, 13, 14, 15, 16, 17, 18, 19, 20, 21, 22, 23, 24, 25, 26, 27, 28, 29, 30, 31, 32, 33] [] [0, 1, 2, 3, 4, 5, 6, 7, 8, 9, 10, 11, 12, 13, 14, 15, 16, 17, 18, 19, 20, 21, 22, 23, 24, 25, 26, 27, 28, 29, 30, 31, 32, 33] (wr := ([] : va_W)) (wN := (wX10 G h0 a0 f0 A0)) rfl rfl rfl rfl rfl hl.1 (Nat.le_of_ble_eq_true rfl) dX10_count_87 (fun H locs hPD hS => ?_)
    obtain rfl := Option.some.inj h
    exact eI C0 hPD.1 hPD.2 hS rfl dX10_count_90
  have h := (if_neg cc5).symm.trans h
  by_cases cc6 : p1 = 6
  · have h := (if_pos cc6).symm.trans h
    refine lv_swT (tgt := 91) (k := 6) hx hb dX10_count_1 cc6 (by decide) (by decide) ?_
    refine lv_aload_n hx hb dX10_count_91 rfl (lv_at hl 0 rfl) ?_
    refine va_get (D := G.1) (ci := 10) (v := .int (f0 17)) (C := RX10) (T := TX10) (N := 52) hx hb hts inlX10 hown hK hPD.1 0 rfl rfl 17 (by decide) (hts _ gw_644) (fun _ h9 => h9) rfl dX10_count_92 ?_
    obtain rfl := Option.some.inj h
    exact eI C0 hPD.1 hPD.2 hS rfl dX10_count_95
  have h := (if_neg cc6).symm.trans h
  by_cases cc7 : p1 = 7
  · have h := (if_pos cc7).symm.trans h
    refine lv_swT (tgt := 96) (k := 7) hx hb dX10_count_1 cc7 (by decide) (by decide) ?_
    refine lv_aload_n hx hb dX10_count_96 rfl (lv_at hl 0 rfl) ?_
    refine va_get (D := G.1) (ci := 10) (v := .int (f0 8)) (C := RX10) (T := TX10) (N := 52) hx hb hts inlX10 hown hK hPD.1 0 rfl rfl 8 (by decide) (hts _ gw_546) (fun _ h9 => h9) rfl dX10_count_97 ?_
    obtain rfl := Option.some.inj h
    exact eI C0 hPD.1 hPD.2 hS rfl dX10_count_100
  have h := (if_neg cc7).symm.trans h
  by_cases cc8 : p1 = 8
  · have h := (if_pos cc8).symm.trans h
    refine lv_swT (tgt := 101) (k := 8) hx hb dX10_count_1 cc8 (by decide) (by decide) ?_
    refine lv_aload_n hx hb dX10_count_101 rfl (lv_at hl 0 rfl) ?_
    refine va_get (D := G.1) (ci := 10) (v := .ref (a0 0)) (C := RX10) (T := TX10) (N := 52) hx hb hts inlX10 hown hK hPD.1 0 rfl rfl 0 (by decide) (hts _ gw_536) (fun _ h9 => h9) rfl dX10_count_102 ?_
    refine lv_bipush (v := 75) hx hb dX10_count_105 (by decide) ?_
    refine va_iald hx hb hK hPD.1 1 1 rfl rfl (vin rfl) dX10_count_107 ?_
    obtain rfl := Option.some.inj h
    exact eI C0 hPD.1 hPD.2 hS rfl dX10_count_108
  have h := (if_neg cc8).symm.trans h
  refine lv_swTD (tgt := 109) (ks := [0, 1, 2, 3, 4, 5, 6, 7, 8]) hx hb dX10_count_1 (by decide) (by decide) ⟨cc0, cc1, cc2, cc3, cc4, cc5, cc6, cc7, cc8, trivial⟩ (by decide) ?_
  refine lv_iconst (v := (-1)) hx hb dX10_count_109 (by decide) ?_
  obtain rfl := Option.some.inj h
  exact eI C0 hPD.1 hPD.2 hS rfl dX10_count_110
end WALK
