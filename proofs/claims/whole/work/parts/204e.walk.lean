section WALK
variable {p : Program} {l : Launch} {e : Env} {s : State} {m : MethodId} {args : Array Value} {below : List Frame} {meth : Method} {c : Code} {G : Gp} {DA : Nat → Prop}
set_option maxRecDepth 100000 in
set_option maxHeartbeats 4000000 in
theorem ww_f8_best_l22  (C0 : Cx cX8_best 11 (some .int) RX8 p s m args meth c G DA) {h0 : Nat} {a0 : Nat → Nat} {q1 : Nat} {h2 : Nat} {a2 : Nat → Nat} {n1 : Nat} {xs1 : Nat → Int32} {f2 : Nat → Int32} {A2 : Nat → Nat → Int32} {p1 : Int32} {p2 : Int32} (hn1 : n1 < 2147483648)  {res : Int32 × (Nat → Nat → Int32) × (Nat → Int32)}  : ∀ (n : Nat) (A0 : Nat → Nat → Int32) (f0 : Nat → Int32) (l5 : Int32), f8_best_l22 n1 xs1 f2 A2 p1 p2  n A0 f0 l5 = some res → ∀ (H : Heap) (locs : List Loc) (ls : Array Slot), WD G DA (wX8 G h0 a0 f0 A0 ++ (wI G q1 n1 xs1 ++ (wX1 G h2 a2 f2 A2))) H → va_S DA s.heap H locs → lv_has ls 11 [(0, .ref h0), (1, .int p1), (2, .int p2), (3, .ref q1), (4, .ref h2), (5, .int l5)] → W p l e rmX8_best s m args below meth c H locs 0 0 (MQ below (QI G DA res.1 (wX8 G h0 a0 res.2.2 res.2.1 ++ (wI G q1 n1 xs1 ++ (wX1 G h2 a2 f2 A2)))) args s 0 0 DA) (F0 m 22 ls []) := by
  intro n
  induction n with
  | zero => intro A0 f0 l5 h; cases h
  | succ n ih => intro A0 f0 l5 h; exact ww_f8_best_b22 C0 hn1  ih A0 f0 l5 h
set_option maxRecDepth 100000 in
set_option maxHeartbeats 4000000 in
theorem kt_X8_best (l : Launch) (G : Gp) (h0 : Nat) (a0 : Nat → Nat) (q1 : Nat) (h2 : Nat) (a2 : Nat → Nat) (f0 : Nat → Int32) (A0 : Nat → Nat → Int32) (n1 : Nat) (xs1 : Nat → Int32) (f2 : Nat → Int32) (A2 : Nat → Nat → Int32) (p1 : Int32) (p2 : Int32) (hn1 : n1 < 2147483648) : ∀ {r : Int32 × (Nat → Nat → Int32) × (Nat → Int32)}, f8_best f0 A0 n1 xs1 f2 A2 p1 p2 = some r → CtrI l yX8_best cX8_best 11 (some .int) rmX8_best G [.ref h0, .int p1, .int p2, .ref q1, .ref h2] (wX8 G h0 a0 f0 A0 ++ (wI G q1 n1 xs1 ++ (wX1 G h2 a2 f2 A2))) r.1 (wX8 G h0 a0 r.2.2 r.2.1 ++ (wI G q1 n1 xs1 ++ (wX1 G h2 a2 f2 A2))) := by
  intro res h
  refine ctrI_of (cc := cX8_best) (maxL := 11) (ret := (some .int)) (by decide +kernel) rfl (Nat.le_of_ble_eq_true rfl) (fun p e s m below meth c DA C0 hP hD ls hl => ?_)
  have hPD : WD G DA (wX8 G h0 a0 f0 A0 ++ (wI G q1 n1 xs1 ++ (wX1 G h2 a2 f2 A2))) s.heap := ⟨hP, hD⟩
  have hS : va_S DA s.heap s.heap [] := va_S.rf
  have hl : lv_has ls 11 [(0, .ref h0), (1, .int p1), (2, .int p2), (3, .ref q1), (4, .ref h2)] := hl
  obtain ⟨hx, hb, hml, hown, hts⟩ := C0.1
  have hK := C0.2.2.2.1
  unfold f8_best at h
  refine lv_aload_n hx hb dX8_best_0 rfl (lv_at hl 0 rfl) ?_
  refine lv_iconst (v := 0) hx hb dX8_best_1 (by decide) ?_
  refine va_put (D := G.1) (ci := 8) (v := .int 0) (ty := .int) (C := RX8) (T := TX8) (N := 3) hx hb hts inlX8 tyX8 tyX8_ok nmX8 hown hK hPD.1 hPD.2 hS 0 rfl rfl 2 (by decide) (hts _ gw_337) (fun _ h9 => h9) rfl (by decide +kernel) rfl rfl (Nat.le_of_ble_eq_true rfl) dX8_best_2 (fun H locs hP hD hS => ?_)
  obtain ⟨f0_1, ef0_1, h⟩ := lvl h
  have hPD : WD G DA (wX8 G h0 a0 f0_1 A0 ++ (wI G q1 n1 xs1 ++ (wX1 G h2 a2 f2 A2))) H := by rw [ef0_1]; exact ⟨hP, hD⟩
  clear ef0_1 hP hD
  refine lv_aload_n hx hb dX8_best_5 rfl (lv_at hl 0 rfl) ?_
  refine lv_iconst (v := 1) hx hb dX8_best_6 (by decide) ?_
  refine lv_iload_n hx hb dX8_best_7 rfl (lv_at hl 1 rfl) ?_
  refine lv_ishl hx hb dX8_best_8 ?_
  refine lv_iconst (v := 1) hx hb dX8_best_9 (by decide) ?_
  refine lv_iload_n hx hb dX8_best_10 rfl (lv_at hl 1 rfl) ?_
  refine lv_ishl hx hb dX8_best_11 ?_
  obtain ⟨q_2, hq_2, h⟩ := ob2 h
  refine kVV (As := [.int (shl 1 p1), .int (shl 1 p1)]) (rest := []) C0 (kt_X8_add l G h0 a0 f0_1 A0 (shl 1 p1) (shl 1 p1) hq_2) gi_V_X8_23_X8_add (n := 2) rfl (by decide +kernel) rfl ⟨rfl, rfl, Nat.le_of_ble_eq_true rfl, Nat.le_of_ble_eq_true rfl⟩ hPD hS 0 8 rfl rfl rfl [0, 1, 2] [3, 4, 5, 6, 7] [5, 6, 7, 0, 1, 2, 3, 4] (wN := (wX8 G h0 a0 q_2.2 q_2.1 ++ (wI G q1 n1 xs1 ++ (wX1 G h2 a2 f2 A2)))) rfl rfl rfl rfl rfl hl.1 (Nat.le_of_ble_eq_true rfl) dX8_best_12 (fun H locs hPD hS => ?_)
  refine lv_aload_n hx hb dX8_best_15 rfl (lv_at hl 0 rfl) ?_
  obtain ⟨q_3, hq_3, h⟩ := ob2 h
  refine kVV (As := []) (rest := []) C0 (kt_X8_settle l G h0 a0 q_2.2 q_2.1 hq_3) gi_V_X8_27_X8_settle (n := 0) rfl (by decide +kernel) rfl ⟨rfl, rfl, Nat.le_of_ble_eq_true rfl, Nat.le_of_ble_eq_true rfl⟩ hPD hS 0 8 rfl rfl rfl [0, 1, 2] [3, 4, 5, 6, 7] [5, 6, 7, 0, 1, 2, 3, 4] (wN := (wX8 G h0 a0 q_2.2 q_3 ++ (wI G q1 n1 xs1 ++ (wX1 G h2 a2 f2 A2)))) rfl rfl rfl rfl rfl hl.1 (Nat.le_of_ble_eq_true rfl) dX8_best_16 (fun H locs hPD hS => ?_)
  refine lv_iconst (v := 1) hx hb dX8_best_19 (by decide) ?_
  refine lv_istore (lv' := [(5, .int 1), (0, .ref h0), (1, .int p1), (2, .int p2), (3, .ref q1), (4, .ref h2)]) hx hb dX8_best_20 hl (by decide) rfl (fun ls hl => ?_)
  exact ww_f8_best_l22 C0 hn1 NF q_3 q_2.2 1 h _ _ _ hPD hS (lv_sub hl [1, 2, 3, 4, 5, 0] rfl)
end WALK
