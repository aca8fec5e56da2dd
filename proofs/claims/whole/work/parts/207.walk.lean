section WALK
variable {p : Program} {l : Launch} {e : Env} {s : State} {m : MethodId} {args : Array Value} {below : List Frame} {meth : Method} {c : Code} {G : Gp} {DA : Nat → Prop}
set_option maxRecDepth 100000 in
set_option maxHeartbeats 4000000 in
theorem ww_f2_term_l8 {d : Nat} {rec : Nat → (Nat → Int32) → (Nat → Nat → Int32) → (Nat → Int32) → (Nat → Nat → Int32) → Int32 → Option ((Nat → Nat → Int32) × (Nat → Int32) × (Nat → Int32))} (hrec0 : ∀ (l : Launch) (G : Gp) (h0 : Nat) (a0 : Nat → Nat) (h1 : Nat) (a1 : Nat → Nat) (f0 : Nat → Int32) (A0 : Nat → Nat → Int32) (f1 : Nat → Int32) (A1 : Nat → Nat → Int32) (p2 : Int32), ∀ {r : (Nat → Nat → Int32) × (Nat → Int32) × (Nat → Int32)}, rec 0 f0 A0 f1 A1 p2 = some r → CtrV l yX2_anyOf cX2_anyOf 5 none (rmGX2_anyOf d) G [.ref h0, .ref h1, .int p2] (wX2 G h0 a0 f0 A0 ++ (wX7 G h1 a1 f1 A1)) (wX2 G h0 a0 r.2.1 r.1 ++ (wX7 G h1 a1 r.2.2 A1))) (hrec1 : ∀ (l : Launch) (G : Gp) (h0 : Nat) (a0 : Nat → Nat) (h1 : Nat) (a1 : Nat → Nat) (f0 : Nat → Int32) (A0 : Nat → Nat → Int32) (f1 : Nat → Int32) (A1 : Nat → Nat → Int32) (p2 : Int32), ∀ {r : (Nat → Nat → Int32) × (Nat → Int32) × (Nat → Int32)}, rec 1 f0 A0 f1 A1 p2 = some r → CtrV l yX2_allOf cX2_allOf 5 none (rmGX2_anyOf d) G [.ref h0, .ref h1, .int p2] (wX2 G h0 a0 f0 A0 ++ (wX7 G h1 a1 f1 A1)) (wX2 G h0 a0 r.2.1 r.1 ++ (wX7 G h1 a1 r.2.2 A1))) (hrec2 : ∀ (l : Launch) (G : Gp) (h0 : Nat) (a0 : Nat → Nat) (h1 : Nat) (a1 : Nat → Nat) (f0 : Nat → Int32) (A0 : Nat → Nat → Int32) (f1 : Nat → Int32) (A1 : Nat → Nat → Int32) (p2 : Int32), ∀ {r : (Nat → Nat → Int32) × (Nat → Int32) × (Nat → Int32)}, rec 2 f0 A0 f1 A1 p2 = some r → CtrV l yX2_test cX2_test 5 none (rmGX2_anyOf d) G [.ref h0, .ref h1, .int p2] (wX2 G h0 a0 f0 A0 ++ (wX7 G h1 a1 f1 A1)) (wX2 G h0 a0 r.2.1 r.1 ++ (wX7 G h1 a1 r.2.2 A1))) (hrec3 : ∀ (l : Launch) (G : Gp) (h0 : Nat) (a0 : Nat → Nat) (h1 : Nat) (a1 : Nat → Nat) (f0 : Nat → Int32) (A0 : Nat → Nat → Int32) (f1 : Nat → Int32) (A1 : Nat → Nat → Int32) (p2 : Int32), ∀ {r : (Nat → Nat → Int32) × (Nat → Int32) × (Nat → Int32)}, rec 3 f0 A0 f1 A1 p2 = some r → CtrV l yX2_sum cX2_sum 5 none (rmGX2_anyOf d) G [.ref h0, .ref h1, .int p2] (wX2 G h0 a0 f0 A0 ++ (wX7 G h1 a1 f1 A1)) (wX2 G h0 a0 r.2.1 r.1 ++ (wX7 G h1 a1 r.2.2 A1))) (hrec4 : ∀ (l : Launch) (G : Gp) (h0 : Nat) (a0 : Nat → Nat) (h1 : Nat) (a1 : Nat → Nat) (f0 : Nat → Int32) (A0 : Nat → Nat → Int32) (f1 : Nat → Int32) (A1 : Nat → Nat → Int32) (p2 : Int32), ∀ {r : (Nat → Nat → Int32) × (Nat → Int32) × (Nat → Int32)}, rec 4 f0 A0 f1 A1 p2 = some r → CtrV l yX2_term cX2_term 5 none (rmGX2_anyOf d) G [.ref h0, .ref h1, .int p2] (wX2 G h0 a0 f0 A0 ++ (wX7 G h1 a1 f1 A1)) (wX2 G h0 a0 r.2.1 r.1 ++ (wX7 G h1 a1 r.2.2 A1))) (hrec5 : ∀ (l : Launch) (G : Gp) (h0 : Nat) (a0 : Nat → Nat) (h1 : Nat) (a1 : Nat → Nat) (f0 : Nat → Int32) (A0 : Nat → Nat → Int32) (f1 : Nat → Int32) (A1 : Nat → Nat → Int32) (p2 : Int32), ∀ {r : (Nat → Nat → Int32) × (Nat → Int32) × (Nat → Int32)}, rec 5 f0 A0 f1 A1 p2 = some r → CtrV l yX2_factor cX2_factor 4 none (rmGX2_anyOf d) G [.ref h0, .ref h1, .int p2] (wX2 G h0 a0 f0 A0 ++ (wX7 G h1 a1 f1 A1)) (wX2 G h0 a0 r.2.1 r.1 ++ (wX7 G h1 a1 r.2.2 A1))) (hdd : True)  (C0 : Cx cX2_term 5 none RX2 p s m args meth c G DA) {h0 : Nat} {a0 : Nat → Nat} {h1 : Nat} {a1 : Nat → Nat} {A1 : Nat → Nat → Int32} {p2 : Int32}   {res : (Nat → Nat → Int32) × (Nat → Int32) × (Nat → Int32)}  : ∀ (n : Nat) (A0 : Nat → Nat → Int32) (f0 : Nat → Int32) (f1 : Nat → Int32) (l3 : Int32), f2_term_l8 rec A1 p2  n A0 f0 f1 l3 = some res → ∀ (H : Heap) (locs : List Loc) (ls : Array Slot), WD G DA (wX2 G h0 a0 f0 A0 ++ (wX7 G h1 a1 f1 A1)) H → va_S DA s.heap H locs → lv_has ls 5 [(0, .ref h0), (1, .ref h1), (2, .int p2), (3, .int l3)] → W p l e (rmGX2_anyOf (d + 1)) s m args below meth c H locs 0 0 (MQ below (QV G DA (wX2 G h0 a0 res.2.1 res.1 ++ (wX7 G h1 a1 res.2.2 A1))) args s 0 0 DA) (F0 m 8 ls []) := by
  intro n
  induction n with
  | zero => intro A0 f0 f1 l3 h; cases h
  | succ n ih => intro A0 f0 f1 l3 h; exact ww_f2_term_b8 hrec0 hrec1 hrec2 hrec3 hrec4 hrec5 hdd C0  ih A0 f0 f1 l3 h
set_option maxRecDepth 100000 in
set_option maxHeartbeats 4000000 in
theorem ko_X2_term {d : Nat} {rec : Nat → (Nat → Int32) → (Nat → Nat → Int32) → (Nat → Int32) → (Nat → Nat → Int32) → Int32 → Option ((Nat → Nat → Int32) × (Nat → Int32) × (Nat → Int32))} (hrec0 : ∀ (l : Launch) (G : Gp) (h0 : Nat) (a0 : Nat → Nat) (h1 : Nat) (a1 : Nat → Nat) (f0 : Nat → Int32) (A0 : Nat → Nat → Int32) (f1 : Nat → Int32) (A1 : Nat → Nat → Int32) (p2 : Int32), ∀ {r : (Nat → Nat → Int32) × (Nat → Int32) × (Nat → Int32)}, rec 0 f0 A0 f1 A1 p2 = some r → CtrV l yX2_anyOf cX2_anyOf 5 none (rmGX2_anyOf d) G [.ref h0, .ref h1, .int p2] (wX2 G h0 a0 f0 A0 ++ (wX7 G h1 a1 f1 A1)) (wX2 G h0 a0 r.2.1 r.1 ++ (wX7 G h1 a1 r.2.2 A1))) (hrec1 : ∀ (l : Launch) (G : Gp) (h0 : Nat) (a0 : Nat → Nat) (h1 : Nat) (a1 : Nat → Nat) (f0 : Nat → Int32) (A0 : Nat → Nat → Int32) (f1 : Nat → Int32) (A1 : Nat → Nat → Int32) (p2 : Int32), ∀ {r : (Nat → Nat → Int32) × (Nat → Int32) × (Nat → Int32)}, rec 1 f0 A0 f1 A1 p2 = some r → CtrV l yX2_allOf cX2_allOf 5 none (rmGX2_anyOf d) G [.ref h0, .ref h1, .int p2] (wX2 G h0 a0 f0 A0 ++ (wX7 G h1 a1 f1 A1)) (wX2 G h0 a0 r.2.1 r.1 ++ (wX7 G h1 a1 r.2.2 A1))) (hrec2 : ∀ (l : Launch) (G : Gp) (h0 : Nat) (a0 : Nat → Nat) (h1 : Nat) (a1 : Nat → Nat) (f0 : Nat → Int32) (A0 : Nat → Nat → Int32) (f1 : Nat → Int32) (A1 : Nat → Nat → Int32) (p2 : Int32), ∀ {r : (Nat → Nat → Int32) × (Nat → Int32) × (Nat → Int32)}, rec 2 f0 A0 f1 A1 p2 = some r → CtrV l yX2_test cX2_test 5 none (rmGX2_anyOf d) G [.ref h0, .ref h1, .int p2] (wX2 G h0 a0 f0 A0 ++ (wX7 G h1 a1 f1 A1)) (wX2 G h0 a0 r.2.1 r.1 ++ (wX7 G h1 a1 r.2.2 A1))) (hrec3 : ∀ (l : Launch) (G : Gp) (h0 : Nat) (a0 : Nat → Nat) (h1 : Nat) (a1 : Nat → Nat) (f0 : Nat → Int32) (A0 : Nat → Nat → Int32) (f1 : Nat → Int32) (A1 : Nat → Nat → Int32) (p2 : Int32), ∀ {r : (Nat → Nat → Int32) × (Nat → Int32) × (Nat → Int32)}, rec 3 f0 A0 f1 A1 p2 = some r → CtrV l yX2_sum cX2_sum 5 none (rmGX2_anyOf d) G [.ref h0, .ref h1, .int p2] (wX2 G h0 a0 f0 A0 ++ (wX7 G h1 a1 f1 A1)) (wX2 G h0 a0 r.2.1 r.1 ++ (wX7 G h1 a1 r.2.2 A1))) (hrec4 : ∀ (l : Launch) (G : Gp) (h0 : Nat) (a0 : Nat → Nat) (h1 : Nat) (a1 : Nat → Nat) (f0 : Nat → Int32) (A0 : Nat → Nat → Int32) (f1 : Nat → Int32) (A1 : Nat → Nat → Int32) (p2 : Int32), ∀ {r : (Nat → Nat → Int32) × (Nat → Int32) × (Nat → Int32)}, rec 4 f0 A0 f1 A1 p2 = some r → CtrV l yX2_term cX2_term 5 none (rmGX2_anyOf d) G [.ref h0, .ref h1, .int p2] (wX2 G h0 a0 f0 A0 ++ (wX7 G h1 a1 f1 A1)) (wX2 G h0 a0 r.2.1 r.1 ++ (wX7 G h1 a1 r.2.2 A1))) (hrec5 : ∀ (l : Launch) (G : Gp) (h0 : Nat) (a0 : Nat → Nat) (h1 : Nat) (a1 : Nat → Nat) (f0 : Nat → Int32) (A0 : Nat → Nat → Int32) (f1 : Nat → Int32) (A1 : Nat → Nat → Int32) (p2 : Int32), ∀ {r : (Nat → Nat → Int32) × (Nat → Int32) × (Nat → Int32)}, rec 5 f0 A0 f1 A1 p2 = some r → CtrV l yX2_factor cX2_factor 4 none (rmGX2_anyOf d) G [.ref h0, .ref h1, .int p2] (wX2 G h0 a0 f0 A0 ++ (wX7 G h1 a1 f1 A1)) (wX2 G h0 a0 r.2.1 r.1 ++ (wX7 G h1 a1 r.2.2 A1))) (hdd : True) (l : Launch) (G : Gp) (h0 : Nat) (a0 : Nat → Nat) (h1 : Nat) (a1 : Nat → Nat) (f0 : Nat → Int32) (A0 : Nat → Nat → Int32) (f1 : Nat → Int32) (A1 : Nat → Nat → Int32) (p2 : Int32) : ∀ {r : (Nat → Nat → Int32) × (Nat → Int32) × (Nat → Int32)}, f2_term rec f0 A0 f1 A1 p2 = some r → CtrV l yX2_term cX2_term 5 none (rmGX2_anyOf (d + 1)) G [.ref h0, .ref h1, .int p2] (wX2 G h0 a0 f0 A0 ++ (wX7 G h1 a1 f1 A1)) (wX2 G h0 a0 r.2.1 r.1 ++ (wX7 G h1 a1 r.2.2 A1)) := by
  intro res h
  refine ctrV_of (cc := cX2_term) (maxL := 5) (ret := none) (by decide +kernel) rfl (Nat.le_of_ble_eq_true rfl) (fun p e s m below meth c DA C0 hP hD ls hl => ?_)
  have hPD : WD G DA (wX2 G h0 a0 f0 A0 ++ (wX7 G h1 a1 f1 A1)) s.heap := ⟨hP, hD⟩
  have hS : va_S DA s.heap s.heap [] := va_S.rf
  have hl : lv_has ls 5 [(0, .ref h0), (1, .ref h1), (2, .int p2)] := hl
  obtain ⟨hx, hb, hml, hown, hts⟩ := C0.1
  have hK := C0.2.2.2.1
  unfold f2_term at h
  refine lv_aload_n hx hb dX2_term_0 rfl (lv_at hl 0 rfl) ?_
  refine lv_aload_n hx hb dX2_term_1 rfl (lv_at hl 1 rfl) ?_
  refine lv_iload_n hx hb dX2_term_2 rfl (lv_at hl 2 rfl) ?_
  obtain ⟨q_1, hq_1, h⟩ := ob2 h
  refine kVV (As := [.ref h1, .int p2]) (rest := []) C0 (hrec5 l G h0 a0 h1 a1 f0 A0 f1 A1 p2 hq_1) gi_V_X2_100_X2_factor (n := 2) rfl (by decide +kernel) rfl ⟨rfl, rfl, by simp only [rmGX2_anyOf]; omega, by simp only [rmGX2_anyOf]; omega⟩ hPD hS 0 2 rfl rfl rfl [0, 1, 2, 3, 4, 5, 6, 7, 8, 9] [] [0, 1, 2, 3, 4, 5, 6, 7, 8, 9] (wr := ([] : va_W)) (wN := (wX2 G h0 a0 q_1.2.1 q_1.1 ++ (wX7 G h1 a1 q_1.2.2 A1))) rfl rfl rfl rfl rfl hl.1 (Nat.le_of_ble_eq_true rfl) dX2_term_3 (fun H locs hPD hS => ?_)
  refine lv_iconst (v := 0) hx hb dX2_term_6 (by decide) ?_
  refine lv_istore_n (lv' := [(3, .int 0), (0, .ref h0), (1, .ref h1), (2, .int p2)]) hx hb dX2_term_7 rfl hl (by decide) rfl (fun ls hl => ?_)
  exact ww_f2_term_l8 hrec0 hrec1 hrec2 hrec3 hrec4 hrec5 hdd C0 NF q_1.1 q_1.2.1 q_1.2.2 0 h _ _ _ hPD hS (lv_sub hl [1, 2, 3, 0] rfl)
set_option maxRecDepth 100000 in
set_option maxHeartbeats 4000000 in
theorem ko_X2_factor {d : Nat} {rec : Nat → (Nat → Int32) → (Nat → Nat → Int32) → (Nat → Int32) → (Nat → Nat → Int32) → Int32 → Option ((Nat → Nat → Int32) × (Nat → Int32) × (Nat → Int32))} (hrec0 : ∀ (l : Launch) (G : Gp) (h0 : Nat) (a0 : Nat → Nat) (h1 : Nat) (a1 : Nat → Nat) (f0 : Nat → Int32) (A0 : Nat → Nat → Int32) (f1 : Nat → Int32) (A1 : Nat → Nat → Int32) (p2 : Int32), ∀ {r : (Nat → Nat → Int32) × (Nat → Int32) × (Nat → Int32)}, rec 0 f0 A0 f1 A1 p2 = some r → CtrV l yX2_anyOf cX2_anyOf 5 none (rmGX2_anyOf d) G [.ref h0, .ref h1, .int p2] (wX2 G h0 a0 f0 A0 ++ (wX7 G h1 a1 f1 A1)) (wX2 G h0 a0 r.2.1 r.1 ++ (wX7 G h1 a1 r.2.2 A1))) (hrec1 : ∀ (l : Launch) (G : Gp) (h0 : Nat) (a0 : Nat → Nat) (h1 : Nat) (a1 : Nat → Nat) (f0 : Nat → Int32) (A0 : Nat → Nat → Int32) (f1 : Nat → Int32) (A1 : Nat → Nat → Int32) (p2 : Int32), ∀ {r : (Nat → Nat → Int32) × (Nat → Int32) × (Nat → Int32)}, rec 1 f0 A0 f1 A1 p2 = some r → CtrV l yX2_allOf cX2_allOf 5 none (rmGX2_anyOf d) G [.ref h0, .ref h1, .int p2] (wX2 G h0 a0 f0 A0 ++ (wX7 G h1 a1 f1 A1)) (wX2 G h0 a0 r.2.1 r.1 ++ (wX7 G h1 a1 r.2.2 A1))) (hrec2 : ∀ (l : Launch) (G : Gp) (h0 : Nat) (a0 : Nat → Nat) (h1 : Nat) (a1 : Nat → Nat) (f0 : Nat → Int32) (A0 : Nat → Nat → Int32) (f1 : Nat → Int32) (A1 : Nat → Nat → Int32) (p2 : Int32), ∀ {r : (Nat → Nat → Int32) × (Nat → Int32) × (Nat → Int32)}, rec 2 f0 A0 f1 A1 p2 = some r → CtrV l yX2_test cX2_test 5 none (rmGX2_anyOf d) G [.ref h0, .ref h1, .int p2] (wX2 G h0 a0 f0 A0 ++ (wX7 G h1 a1 f1 A1)) (wX2 G h0 a0 r.2.1 r.1 ++ (wX7 G h1 a1 r.2.2 A1))) (hrec3 : ∀ (l : Launch) (G : Gp) (h0 : Nat) (a0 : Nat → Nat) (h1 : Nat) (a1 : Nat → Nat) (f0 : Nat → Int32) (A0 : Nat → Nat → Int32) (f1 : Nat → Int32) (A1 : Nat → Nat → Int32) (p2 : Int32), ∀ {r : (Nat → Nat → Int32) × (Nat → Int32) × (Nat → Int32)}, rec 3 f0 A0 f1 A1 p2 = some r → CtrV l yX2_sum cX2_sum 5 none (rmGX2_anyOf d) G [.ref h0, .ref h1, .int p2] (wX2 G h0 a0 f0 A0 ++ (wX7 G h1 a1 f1 A1)) (wX2 G h0 a0 r.2.1 r.1 ++ (wX7 G h1 a1 r.2.2 A1))) (hrec4 : ∀ (l : Launch) (G : Gp) (h0 : Nat) (a0 : Nat → Nat) (h1 : Nat) (a1 : Nat → Nat) (f0 : Nat → Int32) (A0 : Nat → Nat → Int32) (f1 : Nat → Int32) (A1 : Nat → Nat → Int32) (p2 : Int32), ∀ {r : (Nat → Nat → Int32) × (Nat → Int32) × (Nat → Int32)}, rec 4 f0 A0 f1 A1 p2 = some r → CtrV l yX2_term cX2_term 5 none (rmGX2_anyOf d) G [.ref h0, .ref h1, .int p2] (wX2 G h0 a0 f0 A0 ++ (wX7 G h1 a1 f1 A1)) (wX2 G h0 a0 r.2.1 r.1 ++ (wX7 G h1 a1 r.2.2 A1))) (hrec5 : ∀ (l : Launch) (G : Gp) (h0 : Nat) (a0 : Nat → Nat) (h1 : Nat) (a1 : Nat → Nat) (f0 : Nat → Int32) (A0 : Nat → Nat → Int32) (f1 : Nat → Int32) (A1 : Nat → Nat → Int32) (p2 : Int32), ∀ {r : (Nat → Nat → Int32) × (Nat → Int32) × (Nat → Int32)}, rec 5 f0 A0 f1 A1 p2 = some r → CtrV l yX2_factor cX2_factor 4 none (rmGX2_anyOf d) G [.ref h0, .ref h1, .int p2] (wX2 G h0 a0 f0 A0 ++ (wX7 G h1 a1 f1 A1)) (wX2 G h0 a0 r.2.1 r.1 ++ (wX7 G h1 a1 r.2.2 A1))) (hdd : True) (l : Launch) (G : Gp) (h0 : Nat) (a0 : Nat → Nat) (h1 : Nat) (a1 : Nat → Nat) (f0 : Nat → Int32) (A0 : Nat → Nat → Int32) (f1 : Nat → Int32) (A1 : Nat → Nat → Int32) (p2 : Int32) : ∀ {r : (Nat → Nat → Int32) × (Nat → Int32) × (Nat → Int32)}, f2_factor rec f0 A0 f1 A1 p2 = some r → CtrV l yX2_factor cX2_factor 4 none (rmGX2_anyOf (d + 1)) G [.ref h0, .ref h1, .int p2] (wX2 G h0 a0 f0 A0 ++ (wX7 G h1 a1 f1 A1)) (wX2 G h0 a0 r.2.1 r.1 ++ (wX7 G h1 a1 r.2.2 A1)) := by
  intro res h
  refine ctrV_of (cc := cX2_factor) (maxL := 4) (ret := none) (by decide +kernel) rfl (Nat.le_of_ble_eq_true rfl) (fun p e s m below meth c DA C0 hP hD ls hl => ?_)
  have hPD : WD G DA (wX2 G h0 a0 f0 A0 ++ (wX7 G h1 a1 f1 A1)) s.heap := ⟨hP, hD⟩
  have hS : va_S DA s.heap s.heap [] := va_S.rf
  have hl : lv_has ls 4 [(0, .ref h0), (1, .ref h1), (2, .int p2)] := hl
  obtain ⟨hx, hb, hml, hown, hts⟩ := C0.1
  have hK := C0.2.2.2.1
  unfold f2_factor at h
  refine lv_aload_n hx hb dX2_factor_0 rfl (lv_at hl 1 rfl) ?_
  refine kVI (As := []) (rest := []) C0 (kt_X7_look l G h1 a1 f1 A1) gi_V_X2_54_X7_look (n := 0) rfl (by decide +kernel) rfl ⟨rfl, rfl, by simp only [rmGX2_anyOf, rmX7_look]; omega, by simp only [rmGX2_anyOf, rmX7_look]; omega⟩ hPD hS 8 7 rfl rfl rfl [8, 9] [0, 1, 2, 3, 4, 5, 6, 7] [0, 1, 2, 3, 4, 5, 6, 7, 8, 9] (wr := (wX2 G h0 a0 f0 A0)) (wN := (wX2 G h0 a0 f0 A0 ++ (wX7 G h1 a1 f1 A1))) rfl rfl rfl rfl rfl hl.1 (Nat.le_of_ble_eq_true rfl) dX2_factor_1 (fun H locs hPD hS => ?_)
  refine lv_istore_n (lv' := [(3, .int (f7_look f1 A1)), (0, .ref h0), (1, .ref h1), (2, .int p2)]) hx hb dX2_factor_4 rfl hl (by decide) rfl (fun ls hl => ?_)
  refine lv_iload_n hx hb dX2_factor_5 rfl (lv_at hl 0 rfl) ?_
  refine lv_bipush (v := 91) hx hb dX2_factor_6 (by decide) ?_
  refine lv_icmp_ne (tgt := 37) hx hb dX2_factor_8 (by decide) (fun cc1 => ?_) (fun cc1 => ?_)
  · have h := (if_neg cc1).symm.trans h
    refine lv_iload_n hx hb dX2_factor_37 rfl (lv_at hl 0 rfl) ?_
    obtain ⟨q_1, hq_1, h⟩ := ob2 h
    refine kSI (As := [.int (f7_look f1 A1)]) (rest := []) C0 (kt_X7_isDigit l G  (f7_look f1 A1) hq_1) gi_S_X2_103_X7_isDigit (n := 1) rfl (by decide +kernel) ⟨rfl, rfl, by simp only [rmGX2_anyOf, rmX7_isDigit]; omega, by simp only [rmGX2_anyOf, rmX7_isDigit]; omega⟩ hPD hS [] [0, 1, 2, 3, 4, 5, 6, 7, 8, 9] [0, 1, 2, 3, 4, 5, 6, 7, 8, 9] (wr := (wX2 G h0 a0 f0 A0 ++ (wX7 G h1 a1 f1 A1))) (wN := (wX2 G h0 a0 f0 A0 ++ (wX7 G h1 a1 f1 A1))) rfl rfl rfl rfl rfl hl.1 (Nat.le_of_ble_eq_true rfl) dX2_factor_38 (fun H locs hPD hS => ?_)
    refine lv_if_eq (tgt := 58) hx hb dX2_factor_41 (by decide) (fun cc1 => ?_) (fun cc1 => ?_)
    · have h := (if_pos cc1).symm.trans h
      refine lv_iload_n hx hb dX2_factor_58 rfl (lv_at hl 0 rfl) ?_
      refine kSI (As := [.int (f7_look f1 A1)]) (rest := []) C0 (kt_X2_letterOf l G  (f7_look f1 A1)) gi_S_X2_110_X2_letterOf (n := 1) rfl (by decide +kernel) ⟨rfl, rfl, by simp only [rmGX2_anyOf, rmX2_letterOf]; omega, by simp only [rmGX2_anyOf, rmX2_letterOf]; omega⟩ hPD hS [] [0, 1, 2, 3, 4, 5, 6, 7, 8, 9] [0, 1, 2, 3, 4, 5, 6, 7, 8, 9] (wr := (wX2 G h0 a0 f0 A0 ++ (wX7 G h1 a1 f1 A1))) (wN := (wX2 G h0 a0 f0 A0 ++ (wX7 G h1 a1 f1 A1))) rfl rfl rfl rfl rfl hl.1 (Nat.le_of_ble_eq_true rfl) dX2_factor_59 (fun H locs hPD hS => ?_)
      refine lv_iconst (v := (-1)) hx hb dX2_factor_62 (by decide) ?_
      refine lv_icmp_eq (tgt := 83) hx hb dX2_factor_63 (by decide) (fun cc1 => ?_) (fun cc1 => ?_)
      · have h := (if_pos cc1).symm.trans h
        refine lv_aload_n hx hb dX2_factor_83 rfl (lv_at hl 2 rfl) ?_
        refine lv_iconst (v := 1) hx hb dX2_factor_84 (by decide) ?_
        obtain ⟨z_2, ez_2, h⟩ := lvl h
        have kc := kt_X7_fail l G h1 a1 f1 A1 1
        rw [← ez_2] at kc
        clear ez_2
        refine kVV (As := [.int 1]) (rest := []) C0 (kc) gi_V_X2_58_X7_fail (n := 1) rfl (by decide +kernel) rfl ⟨rfl, rfl, by simp only [rmGX2_anyOf, rmX7_fail]; omega, by simp only [rmGX2_anyOf, rmX7_fail]; omega⟩ hPD hS 8 7 rfl rfl rfl [8, 9] [0, 1, 2, 3, 4, 5, 6, 7] [0, 1, 2, 3, 4, 5, 6, 7, 8, 9] (wr := (wX2 G h0 a0 f0 A0)) (wN := (wX2 G h0 a0 f0 A0 ++ (wX7 G h1 a1 z_2 A1))) rfl rfl rfl rfl rfl hl.1 (Nat.le_of_ble_eq_true rfl) dX2_factor_85 (fun H locs hPD hS => ?_)
        obtain rfl := Option.some.inj h
        exact eV C0 hPD.1 hPD.2 hS dX2_factor_88
      · have h := (if_neg cc1).symm.trans h
        refine lv_aload_n hx hb dX2_factor_66 rfl (lv_at hl 1 rfl) ?_
        refine lv_iconst (v := 2) hx hb dX2_factor_67 (by decide) ?_
        refine lv_iload_n hx hb dX2_factor_68 rfl (lv_at hl 0 rfl) ?_
        refine kSI (As := [.int (f7_look f1 A1)]) (rest := [.int 2, .ref h0]) C0 (kt_X2_letterOf l G  (f7_look f1 A1)) gi_S_X2_110_X2_letterOf (n := 1) rfl (by decide +kernel) ⟨rfl, rfl, by simp only [rmGX2_anyOf, rmX2_letterOf]; omega, by simp only [rmGX2_anyOf, rmX2_letterOf]; omega⟩ hPD hS [] [0, 1, 2, 3, 4, 5, 6, 7, 8, 9] [0, 1, 2, 3, 4, 5, 6, 7, 8, 9] (wr := (wX2 G h0 a0 f0 A0 ++ (wX7 G h1 a1 f1 A1))) (wN := (wX2 G h0 a0 f0 A0 ++ (wX7 G h1 a1 f1 A1))) rfl rfl rfl rfl rfl hl.1 (Nat.le_of_ble_eq_true rfl) dX2_factor_69 (fun H locs hPD hS => ?_)
        obtain ⟨q_3, hq_3, h⟩ := ob2 h
        refine kVI (As := [.int 2, .int (f2_letterOf (f7_look f1 A1))]) (rest := []) C0 (kt_X2_order l G h0 a0 f0 A0 2 (f2_letterOf (f7_look f1 A1)) hq_3) gi_V_X2_86_X2_order (n := 2) rfl (by decide +kernel) rfl ⟨rfl, rfl, by simp only [rmGX2_anyOf, rmX2_order]; omega, by simp only [rmGX2_anyOf, rmX2_order]; omega⟩ hPD hS 0 2 rfl rfl rfl [0, 1, 2, 3, 4, 5, 6, 7] [8, 9] [2, 3, 4, 5, 6, 7, 8, 9, 0, 1] (wr := (wX7 G h1 a1 f1 A1)) (wN := (wX2 G h0 a0 q_3.2.2 q_3.2.1 ++ (wX7 G h1 a1 f1 A1))) rfl rfl rfl rfl rfl hl.1 (Nat.le_of_ble_eq_true rfl) dX2_factor_72 (fun H locs hPD hS => ?_)
        refine lv_pop hx hb dX2_factor_75 rfl ?_
        refine lv_aload_n hx hb dX2_factor_76 rfl (lv_at hl 2 rfl) ?_
        obtain ⟨z_4, ez_4, h⟩ := lvl h
        have kc := kt_X7_step l G h1 a1 f1 A1
        rw [← ez_4] at kc
        clear ez_4
        refine kVV (As := []) (rest := []) C0 (kc) gi_V_X2_62_X7_step (n := 0) rfl (by decide +kernel) rfl ⟨rfl, rfl, by simp only [rmGX2_anyOf, rmX7_step]; omega, by simp only [rmGX2_anyOf, rmX7_step]; omega⟩ hPD hS 8 7 rfl rfl rfl [8, 9] [0, 1, 2, 3, 4, 5, 6, 7] [0, 1, 2, 3, 4, 5, 6, 7, 8, 9] (wr := (wX2 G h0 a0 q_3.2.2 q_3.2.1)) (wN := (wX2 G h0 a0 q_3.2.2 q_3.2.1 ++ (wX7 G h1 a1 z_4 A1))) rfl rfl rfl rfl rfl hl.1 (Nat.le_of_ble_eq_true rfl) dX2_factor_77 (fun H locs hPD hS => ?_)
        refine lv_goto (tgt := 88) hx hb dX2_factor_80 (by decide) ?_
        obtain rfl := Option.some.inj h
        exact eV C0 hPD.1 hPD.2 hS dX2_factor_88
    · have h := (if_neg cc1).symm.trans h
      refine lv_aload_n hx hb dX2_factor_44 rfl (lv_at hl 1 rfl) ?_
      refine lv_iconst (v := 1) hx hb dX2_factor_45 (by decide) ?_
      refine lv_aload_n hx hb dX2_factor_46 rfl (lv_at hl 2 rfl) ?_
      refine lv_iconst (v := 5) hx hb dX2_factor_47 (by decide) ?_
      obtain ⟨q_5, hq_5, h⟩ := ob2 h
      refine kVI (As := [.int 5]) (rest := [.int 1, .ref h0]) C0 (kt_X7_number l G h1 a1 f1 A1 5 hq_5) gi_V_X2_106_X7_number (n := 1) rfl (by decide +kernel) rfl ⟨rfl, rfl, by simp only [rmGX2_anyOf, rmX7_number]; omega, by simp only [rmGX2_anyOf, rmX7_number]; omega⟩ hPD hS 8 7 rfl rfl rfl [8, 9] [0, 1, 2, 3, 4, 5, 6, 7] [0, 1, 2, 3, 4, 5, 6, 7, 8, 9] (wr := (wX2 G h0 a0 f0 A0)) (wN := (wX2 G h0 a0 f0 A0 ++ (wX7 G h1 a1 q_5.2 A1))) rfl rfl rfl rfl rfl hl.1 (Nat.le_of_ble_eq_true rfl) dX2_factor_48 (fun H locs hPD hS => ?_)
      obtain ⟨q_6, hq_6, h⟩ := ob2 h
      refine kVI (As := [.int 1, .int q_5.1]) (rest := []) C0 (kt_X2_order l G h0 a0 f0 A0 1 q_5.1 hq_6) gi_V_X2_86_X2_order (n := 2) rfl (by decide +kernel) rfl ⟨rfl, rfl, by simp only [rmGX2_anyOf, rmX2_order]; omega, by simp only [rmGX2_anyOf, rmX2_order]; omega⟩ hPD hS 0 2 rfl rfl rfl [0, 1, 2, 3, 4, 5, 6, 7] [8, 9] [2, 3, 4, 5, 6, 7, 8, 9, 0, 1] (wr := (wX7 G h1 a1 q_5.2 A1)) (wN := (wX2 G h0 a0 q_6.2.2 q_6.2.1 ++ (wX7 G h1 a1 q_5.2 A1))) rfl rfl rfl rfl rfl hl.1 (Nat.le_of_ble_eq_true rfl) dX2_factor_51 (fun H locs hPD hS => ?_)
      refine lv_pop hx hb dX2_factor_54 rfl ?_
      refine lv_goto (tgt := 88) hx hb dX2_factor_55 (by decide) ?_
      obtain rfl := Option.some.inj h
      exact eV C0 hPD.1 hPD.2 hS dX2_factor_88
  · have h := (if_pos cc1).symm.trans h
    refine lv_aload_n hx hb dX2_factor_11 rfl (lv_at hl 2 rfl) ?_
    refine lv_iload_n hx hb dX2_factor_12 rfl (lv_at hl 3 rfl) ?_
    obtain ⟨q_7, hq_7, h⟩ := ob2 h
    refine kSI (As := [.ref h1, .int p2]) (rest := []) C0 (kt_X2_opens l G h1 a1 f1 A1 p2 hq_7) gi_S_X2_93_X2_opens (n := 2) rfl (by decide +kernel) ⟨rfl, rfl, by simp only [rmGX2_anyOf, rmX2_opens]; omega, by simp only [rmGX2_anyOf, rmX2_opens]; omega⟩ hPD hS [8, 9] [0, 1, 2, 3, 4, 5, 6, 7] [0, 1, 2, 3, 4, 5, 6, 7, 8, 9] (wr := (wX2 G h0 a0 f0 A0)) (wN := (wX2 G h0 a0 f0 A0 ++ (wX7 G h1 a1 q_7.2 A1))) rfl rfl rfl rfl rfl hl.1 (Nat.le_of_ble_eq_true rfl) dX2_factor_13 (fun H locs hPD hS => ?_)
    refine lv_if_eq (tgt := 88) hx hb dX2_factor_16 (by decide) (fun cc1 => ?_) (fun cc1 => ?_)
    · have h := (if_pos cc1).symm.trans h
      obtain rfl := Option.some.inj h
      exact eV C0 hPD.1 hPD.2 hS dX2_factor_88
    · have h := (if_neg cc1).symm.trans h
      refine lv_aload_n hx hb dX2_factor_19 rfl (lv_at hl 1 rfl) ?_
      refine lv_aload_n hx hb dX2_factor_20 rfl (lv_at hl 2 rfl) ?_
      refine lv_iload_n hx hb dX2_factor_21 rfl (lv_at hl 3 rfl) ?_
      refine lv_iconst (v := 1) hx hb dX2_factor_22 (by decide) ?_
      refine lv_iadd hx hb dX2_factor_23 ?_
      obtain ⟨q_8, hq_8, h⟩ := ob2 h
      refine kVV (As := [.ref h1, .int (p2 + 1)]) (rest := []) C0 (hrec3 l G h0 a0 h1 a1 f0 A0 q_7.2 A1 (p2 + 1) hq_8) gi_V_X2_69_X2_sum (n := 2) rfl (by decide +kernel) rfl ⟨rfl, rfl, by simp only [rmGX2_anyOf]; omega, by simp only [rmGX2_anyOf]; omega⟩ hPD hS 0 2 rfl rfl rfl [0, 1, 2, 3, 4, 5, 6, 7, 8, 9] [] [0, 1, 2, 3, 4, 5, 6, 7, 8, 9] (wr := ([] : va_W)) (wN := (wX2 G h0 a0 q_8.2.1 q_8.1 ++ (wX7 G h1 a1 q_8.2.2 A1))) rfl rfl rfl rfl rfl hl.1 (Nat.le_of_ble_eq_true rfl) dX2_factor_24 (fun H locs hPD hS => ?_)
      refine lv_aload_n hx hb dX2_factor_27 rfl (lv_at hl 2 rfl) ?_
      refine lv_bipush (v := 93) hx hb dX2_factor_28 (by decide) ?_
      obtain ⟨q_9, hq_9, h⟩ := ob2 h
      refine kVI (As := [.int 93]) (rest := []) C0 (kt_X7_take l G h1 a1 q_8.2.2 A1 93 hq_9) gi_V_X2_73_X7_take (n := 1) rfl (by decide +kernel) rfl ⟨rfl, rfl, by simp only [rmGX2_anyOf, rmX7_take]; omega, by simp only [rmGX2_anyOf, rmX7_take]; omega⟩ hPD hS 8 7 rfl rfl rfl [8, 9] [0, 1, 2, 3, 4, 5, 6, 7] [0, 1, 2, 3, 4, 5, 6, 7, 8, 9] (wr := (wX2 G h0 a0 q_8.2.1 q_8.1)) (wN := (wX2 G h0 a0 q_8.2.1 q_8.1 ++ (wX7 G h1 a1 q_9.2 A1))) rfl rfl rfl rfl rfl hl.1 (Nat.le_of_ble_eq_true rfl) dX2_factor_30 (fun H locs hPD hS => ?_)
      refine lv_pop hx hb dX2_factor_33 rfl ?_
      refine lv_goto (tgt := 88) hx hb dX2_factor_34 (by decide) ?_
      obtain rfl := Option.some.inj h
      exact eV C0 hPD.1 hPD.2 hS dX2_factor_88
set_option maxRecDepth 100000 in
set_option maxHeartbeats 4000000 in
theorem kg_X2_anyOf : ∀ d : Nat, (∀ (l : Launch) (G : Gp) (h0 : Nat) (a0 : Nat → Nat) (h1 : Nat) (a1 : Nat → Nat) (f0 : Nat → Int32) (A0 : Nat → Nat → Int32) (f1 : Nat → Int32) (A1 : Nat → Nat → Int32) (p2 : Int32), ∀ {r : (Nat → Nat → Int32) × (Nat → Int32) × (Nat → Int32)}, f2_anyOf_rec d 0 f0 A0 f1 A1 p2 = some r → CtrV l yX2_anyOf cX2_anyOf 5 none (rmGX2_anyOf d) G [.ref h0, .ref h1, .int p2] (wX2 G h0 a0 f0 A0 ++ (wX7 G h1 a1 f1 A1)) (wX2 G h0 a0 r.2.1 r.1 ++ (wX7 G h1 a1 r.2.2 A1))) ∧ (∀ (l : Launch) (G : Gp) (h0 : Nat) (a0 : Nat → Nat) (h1 : Nat) (a1 : Nat → Nat) (f0 : Nat → Int32) (A0 : Nat → Nat → Int32) (f1 : Nat → Int32) (A1 : Nat → Nat → Int32) (p2 : Int32), ∀ {r : (Nat → Nat → Int32) × (Nat → Int32) × (Nat → Int32)}, f2_anyOf_rec d 1 f0 A0 f1 A1 p2 = some r → CtrV l yX2_allOf cX2_allOf 5 none (rmGX2_anyOf d) G [.ref h0, .ref h1, .int p2] (wX2 G h0 a0 f0 A0 ++ (wX7 G h1 a1 f1 A1)) (wX2 G h0 a0 r.2.1 r.1 ++ (wX7 G h1 a1 r.2.2 A1))) ∧ (∀ (l : Launch) (G : Gp) (h0 : Nat) (a0 : Nat → Nat) (h1 : Nat) (a1 : Nat → Nat) (f0 : Nat → Int32) (A0 : Nat → Nat → Int32) (f1 : Nat → Int32) (A1 : Nat → Nat → Int32) (p2 : Int32), ∀ {r : (Nat → Nat → Int32) × (Nat → Int32) × (Nat → Int32)}, f2_anyOf_rec d 2 f0 A0 f1 A1 p2 = some r → CtrV l yX2_test cX2_test 5 none (rmGX2_anyOf d) G [.ref h0, .ref h1, .int p2] (wX2 G h0 a0 f0 A0 ++ (wX7 G h1 a1 f1 A1)) (wX2 G h0 a0 r.2.1 r.1 ++ (wX7 G h1 a1 r.2.2 A1))) ∧ (∀ (l : Launch) (G : Gp) (h0 : Nat) (a0 : Nat → Nat) (h1 : Nat) (a1 : Nat → Nat) (f0 : Nat → Int32) (A0 : Nat → Nat → Int32) (f1 : Nat → Int32) (A1 : Nat → Nat → Int32) (p2 : Int32), ∀ {r : (Nat → Nat → Int32) × (Nat → Int32) × (Nat → Int32)}, f2_anyOf_rec d 3 f0 A0 f1 A1 p2 = some r → CtrV l yX2_sum cX2_sum 5 none (rmGX2_anyOf d) G [.ref h0, .ref h1, .int p2] (wX2 G h0 a0 f0 A0 ++ (wX7 G h1 a1 f1 A1)) (wX2 G h0 a0 r.2.1 r.1 ++ (wX7 G h1 a1 r.2.2 A1))) ∧ (∀ (l : Launch) (G : Gp) (h0 : Nat) (a0 : Nat → Nat) (h1 : Nat) (a1 : Nat → Nat) (f0 : Nat → Int32) (A0 : Nat → Nat → Int32) (f1 : Nat → Int32) (A1 : Nat → Nat → Int32) (p2 : Int32), ∀ {r : (Nat → Nat → Int32) × (Nat → Int32) × (Nat → Int32)}, f2_anyOf_rec d 4 f0 A0 f1 A1 p2 = some r → CtrV l yX2_term cX2_term 5 none (rmGX2_anyOf d) G [.ref h0, .ref h1, .int p2] (wX2 G h0 a0 f0 A0 ++ (wX7 G h1 a1 f1 A1)) (wX2 G h0 a0 r.2.1 r.1 ++ (wX7 G h1 a1 r.2.2 A1))) ∧ (∀ (l : Launch) (G : Gp) (h0 : Nat) (a0 : Nat → Nat) (h1 : Nat) (a1 : Nat → Nat) (f0 : Nat → Int32) (A0 : Nat → Nat → Int32) (f1 : Nat → Int32) (A1 : Nat → Nat → Int32) (p2 : Int32), ∀ {r : (Nat → Nat → Int32) × (Nat → Int32) × (Nat → Int32)}, f2_anyOf_rec d 5 f0 A0 f1 A1 p2 = some r → CtrV l yX2_factor cX2_factor 4 none (rmGX2_anyOf d) G [.ref h0, .ref h1, .int p2] (wX2 G h0 a0 f0 A0 ++ (wX7 G h1 a1 f1 A1)) (wX2 G h0 a0 r.2.1 r.1 ++ (wX7 G h1 a1 r.2.2 A1))) := by
  intro d
  induction d with
  | zero => exact ⟨fun _ _ _ _ _ _ _ _ _ _ _ r h => (by cases h), fun _ _ _ _ _ _ _ _ _ _ _ r h => (by cases h), fun _ _ _ _ _ _ _ _ _ _ _ r h => (by cases h), fun _ _ _ _ _ _ _ _ _ _ _ r h => (by cases h), fun _ _ _ _ _ _ _ _ _ _ _ r h => (by cases h), fun _ _ _ _ _ _ _ _ _ _ _ r h => (by cases h)⟩
  | succ d ih =>
    obtain ⟨h0, h1, h2, h3, h4, h5⟩ := ih
    exact ⟨fun l G v0 v1 v2 v3 v4 v5 v6 v7 v8 r h => ko_X2_anyOf h0 h1 h2 h3 h4 h5 trivial l G v0 v1 v2 v3 v4 v5 v6 v7 v8 h, fun l G v0 v1 v2 v3 v4 v5 v6 v7 v8 r h => ko_X2_allOf h0 h1 h2 h3 h4 h5 trivial l G v0 v1 v2 v3 v4 v5 v6 v7 v8 h, fun l G v0 v1 v2 v3 v4 v5 v6 v7 v8 r h => ko_X2_test h0 h1 h2 h3 h4 h5 trivial l G v0 v1 v2 v3 v4 v5 v6 v7 v8 h, fun l G v0 v1 v2 v3 v4 v5 v6 v7 v8 r h => ko_X2_sum h0 h1 h2 h3 h4 h5 trivial l G v0 v1 v2 v3 v4 v5 v6 v7 v8 h, fun l G v0 v1 v2 v3 v4 v5 v6 v7 v8 r h => ko_X2_term h0 h1 h2 h3 h4 h5 trivial l G v0 v1 v2 v3 v4 v5 v6 v7 v8 h, fun l G v0 v1 v2 v3 v4 v5 v6 v7 v8 r h => ko_X2_factor h0 h1 h2 h3 h4 h5 trivial l G v0 v1 v2 v3 v4 v5 v6 v7 v8 h⟩
theorem kt_X2_anyOf (d : Nat) : ∀ (l : Launch) (G : Gp) (h0 : Nat) (a0 : Nat → Nat) (h1 : Nat) (a1 : Nat → Nat) (f0 : Nat → Int32) (A0 : Nat → Nat → Int32) (f1 : Nat → Int32) (A1 : Nat → Nat → Int32) (p2 : Int32), ∀ {r : (Nat → Nat → Int32) × (Nat → Int32) × (Nat → Int32)}, f2_anyOf_rec d 0 f0 A0 f1 A1 p2 = some r → CtrV l yX2_anyOf cX2_anyOf 5 none (rmGX2_anyOf d) G [.ref h0, .ref h1, .int p2] (wX2 G h0 a0 f0 A0 ++ (wX7 G h1 a1 f1 A1)) (wX2 G h0 a0 r.2.1 r.1 ++ (wX7 G h1 a1 r.2.2 A1)) := (kg_X2_anyOf d).1
theorem kt_X2_allOf (d : Nat) : ∀ (l : Launch) (G : Gp) (h0 : Nat) (a0 : Nat → Nat) (h1 : Nat) (a1 : Nat → Nat) (f0 : Nat → Int32) (A0 : Nat → Nat → Int32) (f1 : Nat → Int32) (A1 : Nat → Nat → Int32) (p2 : Int32), ∀ {r : (Nat → Nat → Int32) × (Nat → Int32) × (Nat → Int32)}, f2_anyOf_rec d 1 f0 A0 f1 A1 p2 = some r → CtrV l yX2_allOf cX2_allOf 5 none (rmGX2_anyOf d) G [.ref h0, .ref h1, .int p2] (wX2 G h0 a0 f0 A0 ++ (wX7 G h1 a1 f1 A1)) (wX2 G h0 a0 r.2.1 r.1 ++ (wX7 G h1 a1 r.2.2 A1)) := (kg_X2_anyOf d).2.1
theorem kt_X2_test (d : Nat) : ∀ (l : Launch) (G : Gp) (h0 : Nat) (a0 : Nat → Nat) (h1 : Nat) (a1 : Nat → Nat) (f0 : Nat → Int32) (A0 : Nat → Nat → Int32) (f1 : Nat → Int32) (A1 : Nat → Nat → Int32) (p2 : Int32), ∀ {r : (Nat → Nat → Int32) × (Nat → Int32) × (Nat → Int32)}, f2_anyOf_rec d 2 f0 A0 f1 A1 p2 = some r → CtrV l yX2_test cX2_test 5 none (rmGX2_anyOf d) G [.ref h0, .ref h1, .int p2] (wX2 G h0 a0 f0 A0 ++ (wX7 G h1 a1 f1 A1)) (wX2 G h0 a0 r.2.1 r.1 ++ (wX7 G h1 a1 r.2.2 A1)) := (kg_X2_anyOf d).2.2.1
theorem kt_X2_sum (d : Nat) : ∀ (l : Launch) (G : Gp) (h0 : Nat) (a0 : Nat → Nat) (h1 : Nat) (a1 : Nat → Nat) (f0 : Nat → Int32) (A0 : Nat → Nat → Int32) (f1 : Nat → Int32) (A1 : Nat → Nat → Int32) (p2 : Int32), ∀ {r : (Nat → Nat → Int32) × (Nat → Int32) × (Nat → Int32)}, f2_anyOf_rec d 3 f0 A0 f1 A1 p2 = some r → CtrV l yX2_sum cX2_sum 5 none (rmGX2_anyOf d) G [.ref h0, .ref h1, .int p2] (wX2 G h0 a0 f0 A0 ++ (wX7 G h1 a1 f1 A1)) (wX2 G h0 a0 r.2.1 r.1 ++ (wX7 G h1 a1 r.2.2 A1)) := (kg_X2_anyOf d).2.2.2.1
theorem kt_X2_term (d : Nat) : ∀ (l : Launch) (G : Gp) (h0 : Nat) (a0 : Nat → Nat) (h1 : Nat) (a1 : Nat → Nat) (f0 : Nat → Int32) (A0 : Nat → Nat → Int32) (f1 : Nat → Int32) (A1 : Nat → Nat → Int32) (p2 : Int32), ∀ {r : (Nat → Nat → Int32) × (Nat → Int32) × (Nat → Int32)}, f2_anyOf_rec d 4 f0 A0 f1 A1 p2 = some r → CtrV l yX2_term cX2_term 5 none (rmGX2_anyOf d) G [.ref h0, .ref h1, .int p2] (wX2 G h0 a0 f0 A0 ++ (wX7 G h1 a1 f1 A1)) (wX2 G h0 a0 r.2.1 r.1 ++ (wX7 G h1 a1 r.2.2 A1)) := (kg_X2_anyOf d).2.2.2.2.1
theorem kt_X2_factor (d : Nat) : ∀ (l : Launch) (G : Gp) (h0 : Nat) (a0 : Nat → Nat) (h1 : Nat) (a1 : Nat → Nat) (f0 : Nat → Int32) (A0 : Nat → Nat → Int32) (f1 : Nat → Int32) (A1 : Nat → Nat → Int32) (p2 : Int32), ∀ {r : (Nat → Nat → Int32) × (Nat → Int32) × (Nat → Int32)}, f2_anyOf_rec d 5 f0 A0 f1 A1 p2 = some r → CtrV l yX2_factor cX2_factor 4 none (rmGX2_anyOf d) G [.ref h0, .ref h1, .int p2] (wX2 G h0 a0 f0 A0 ++ (wX7 G h1 a1 f1 A1)) (wX2 G h0 a0 r.2.1 r.1 ++ (wX7 G h1 a1 r.2.2 A1)) := (kg_X2_anyOf d).2.2.2.2.2
abbrev rmX2_rule : Room := { frames := 68, cells := 0, slots := 0, locals := 1626 }
set_option maxRecDepth 100000 in
set_option maxHeartbeats 4000000 in
theorem ww_f2_rule_b124  (C0 : Cx cX2_rule 3 none RX2 p s m args meth c G DA) {h0 : Nat} {a0 : Nat → Nat} {h1 : Nat} {a1 : Nat → Nat} {A1 : Nat → Nat → Int32}   {res : (Nat → Nat → Int32) × (Nat → Int32) × (Nat → Int32)}  : ∀ (A0 : Nat → Nat → Int32) (f0 : Nat → Int32) (f1 : Nat → Int32), f2_rule_b124 A1  A0 f0 f1 = some res → ∀ (H : Heap) (locs : List Loc) (ls : Array Slot), WD G DA (wX2 G h0 a0 f0 A0 ++ (wX7 G h1 a1 f1 A1)) H → va_S DA s.heap H locs → lv_has ls 3 [(0, .ref h0), (1, .ref h1)] → W p l e rmX2_rule s m args below meth c H locs 0 0 (MQ below (QV G DA (wX2 G h0 a0 res.2.1 res.1 ++ (wX7 G h1 a1 res.2.2 A1))) args s 0 0 DA) (F0 m 124 ls []) := by
  obtain ⟨hx, hb, hml, hown, hts⟩ := C0.1
  have hK := C0.2.2.2.1
  intro A0 f0 f1 h _ _ _ hPD hS hl
  unfold f2_rule_b124 at h
  refine lv_aload_n hx hb dX2_rule_124 rfl (lv_at hl 0 rfl) ?_
  refine va_get (D := G.1) (ci := 2) (v := .ref (a0 5)) (C := RX2) (T := TX2) (N := 10) hx hb hts inlX2 hown hK hPD.1 0 rfl rfl 5 (by decide) (hts _ gw_184) (fun _ h9 => h9) rfl dX2_rule_125 ?_
  refine lv_aload_n hx hb dX2_rule_128 rfl (lv_at hl 0 rfl) ?_
  refine va_get (D := G.1) (ci := 2) (v := .int (f0 9)) (C := RX2) (T := TX2) (N := 10) hx hb hts inlX2 hown hK hPD.1 0 rfl rfl 9 (by decide) (hts _ gw_180) (fun _ h9 => h9) rfl dX2_rule_129 ?_
  refine lv_aload_n hx hb dX2_rule_132 rfl (lv_at hl 0 rfl) ?_
  refine va_get (D := G.1) (ci := 2) (v := .int (f0 7)) (C := RX2) (T := TX2) (N := 10) hx hb hts inlX2 hown hK hPD.1 0 rfl rfl 7 (by decide) (hts _ gw_130) (fun _ h9 => h9) rfl dX2_rule_133 ?_
  obtain ⟨z_9, ez_9, h⟩ := lvl h
  have kc := kt_X9_put l G (a0 5) 16 (A0 5) (f0 9) (f0 7) (by decide)
  rw [← ez_9] at kc
  clear ez_9
  refine kNV (As := [.ref (a0 5), .int (f0 9), .int (f0 7)]) (rest := []) C0 (kc) gi_U_X9_put (host := "IdleCrimes") (index := 65) (List.mem_of_getElem? (i := 12) rfl) gw_6 gw_19 (n := 3) rfl (by decide +kernel) ⟨rfl, rfl, Nat.le_of_ble_eq_true rfl, Nat.le_of_ble_eq_true rfl⟩ hPD hS [6] [0, 1, 2, 3, 4, 5, 7, 8, 9] [0, 1, 2, 3, 4, 5, 9, 6, 7, 8] (wr := pick (wX2 G h0 a0 f0 A0 ++ (wX7 G h1 a1 f1 A1)) [0, 1, 2, 3, 4, 5, 7, 8, 9]) (wN := (wX2 G h0 a0 f0 (updA A0 5 z_9) ++ (wX7 G h1 a1 f1 A1))) rfl rfl rfl rfl rfl hl.1 (Nat.le_of_ble_eq_true rfl) dX2_rule_136 (fun H locs hPD hS => ?_)
  obtain ⟨A0_10, eA0_10, h⟩ := lvl h
  have hPD : WD G DA (wX2 G h0 a0 f0 A0_10 ++ (wX7 G h1 a1 f1 A1)) H := by rw [eA0_10]; exact hPD
  clear eA0_10
  refine lv_aload_n hx hb dX2_rule_139 rfl (lv_at hl 0 rfl) ?_
  refine lv_dup hx hb dX2_rule_140 rfl ?_
  refine va_get (D := G.1) (ci := 2) (v := .int (f0 9)) (C := RX2) (T := TX2) (N := 10) hx hb hts inlX2 hown hK hPD.1 0 rfl rfl 9 (by decide) (hts _ gw_180) (fun _ h9 => h9) rfl dX2_rule_141 ?_
  refine lv_iconst (v := 1) hx hb dX2_rule_144 (by decide) ?_
  refine lv_iadd hx hb dX2_rule_145 ?_
  refine va_put (D := G.1) (ci := 2) (v := .int ((f0 9) + 1)) (ty := .int) (C := RX2) (T := TX2) (N := 10) hx hb hts inlX2 tyX2 tyX2_ok nmX2 hown hK hPD.1 hPD.2 hS 0 rfl rfl 9 (by decide) (hts _ gw_180) (fun _ h9 => h9) rfl (by decide +kernel) rfl rfl (Nat.le_of_ble_eq_true rfl) dX2_rule_146 (fun H locs hP hD hS => ?_)
  obtain ⟨f0_11, ef0_11, h⟩ := lvl h
  have hPD : WD G DA (wX2 G h0 a0 f0_11 A0_10 ++ (wX7 G h1 a1 f1 A1)) H := by rw [ef0_11]; exact ⟨hP, hD⟩
  clear ef0_11 hP hD
  obtain rfl := Option.some.inj h
  exact eV C0 hPD.1 hPD.2 hS dX2_rule_149
set_option maxRecDepth 100000 in
set_option maxHeartbeats 4000000 in
theorem ww_f2_rule_b87  (C0 : Cx cX2_rule 3 none RX2 p s m args meth c G DA) {h0 : Nat} {a0 : Nat → Nat} {h1 : Nat} {a1 : Nat → Nat} {A1 : Nat → Nat → Int32}   {res : (Nat → Nat → Int32) × (Nat → Int32) × (Nat → Int32)}  : ∀ (A0 : Nat → Nat → Int32) (f0 : Nat → Int32) (f1 : Nat → Int32), f2_rule_b87 A1  A0 f0 f1 = some res → ∀ (H : Heap) (locs : List Loc) (ls : Array Slot), WD G DA (wX2 G h0 a0 f0 A0 ++ (wX7 G h1 a1 f1 A1)) H → va_S DA s.heap H locs → lv_has ls 3 [(0, .ref h0), (1, .ref h1)] → W p l e rmX2_rule s m args below meth c H locs 0 0 (MQ below (QV G DA (wX2 G h0 a0 res.2.1 res.1 ++ (wX7 G h1 a1 res.2.2 A1))) args s 0 0 DA) (F0 m 87 ls []) := by
  obtain ⟨hx, hb, hml, hown, hts⟩ := C0.1
  have hK := C0.2.2.2.1
  intro A0 f0 f1 h _ _ _ hPD hS hl
  unfold f2_rule_b87 at h
  refine lv_aload_n hx hb dX2_rule_87 rfl (lv_at hl 0 rfl) ?_
  refine va_get (D := G.1) (ci := 2) (v := .ref (a0 4)) (C := RX2) (T := TX2) (N := 10) hx hb hts inlX2 hown hK hPD.1 0 rfl rfl 4 (by decide) (hts _ gw_183) (fun _ h9 => h9) rfl dX2_rule_88 ?_
  refine lv_aload_n hx hb dX2_rule_91 rfl (lv_at hl 0 rfl) ?_
  refine va_get (D := G.1) (ci := 2) (v := .int (f0 9)) (C := RX2) (T := TX2) (N := 10) hx hb hts inlX2 hown hK hPD.1 0 rfl rfl 9 (by decide) (hts _ gw_180) (fun _ h9 => h9) rfl dX2_rule_92 ?_
  refine lv_aload_n hx hb dX2_rule_95 rfl (lv_at hl 0 rfl) ?_
  refine va_get (D := G.1) (ci := 2) (v := .int (f0 7)) (C := RX2) (T := TX2) (N := 10) hx hb hts inlX2 hown hK hPD.1 0 rfl rfl 7 (by decide) (hts _ gw_130) (fun _ h9 => h9) rfl dX2_rule_96 ?_
  obtain ⟨z_6, ez_6, h⟩ := lvl h
  have kc := kt_X9_put l G (a0 4) 16 (A0 4) (f0 9) (f0 7) (by decide)
  rw [← ez_6] at kc
  clear ez_6
  refine kNV (As := [.ref (a0 4), .int (f0 9), .int (f0 7)]) (rest := []) C0 (kc) gi_U_X9_put (host := "IdleCrimes") (index := 65) (List.mem_of_getElem? (i := 12) rfl) gw_6 gw_19 (n := 3) rfl (by decide +kernel) ⟨rfl, rfl, Nat.le_of_ble_eq_true rfl, Nat.le_of_ble_eq_true rfl⟩ hPD hS [5] [0, 1, 2, 3, 4, 6, 7, 8, 9] [0, 1, 2, 3, 4, 9, 5, 6, 7, 8] (wr := pick (wX2 G h0 a0 f0 A0 ++ (wX7 G h1 a1 f1 A1)) [0, 1, 2, 3, 4, 6, 7, 8, 9]) (wN := (wX2 G h0 a0 f0 (updA A0 4 z_6) ++ (wX7 G h1 a1 f1 A1))) rfl rfl rfl rfl rfl hl.1 (Nat.le_of_ble_eq_true rfl) dX2_rule_99 (fun H locs hPD hS => ?_)
  obtain ⟨A0_7, eA0_7, h⟩ := lvl h
  have hPD : WD G DA (wX2 G h0 a0 f0 A0_7 ++ (wX7 G h1 a1 f1 A1)) H := by rw [eA0_7]; exact hPD
  clear eA0_7
  refine lv_aload_n hx hb dX2_rule_102 rfl (lv_at hl 1 rfl) ?_
  refine lv_bipush (v := 40) hx hb dX2_rule_103 (by decide) ?_
  obtain ⟨q_8, hq_8, h⟩ := ob2 h
  refine kVI (As := [.int 40]) (rest := []) C0 (kt_X7_take l G h1 a1 f1 A1 40 hq_8) gi_V_X2_73_X7_take (n := 1) rfl (by decide +kernel) rfl ⟨rfl, rfl, Nat.le_of_ble_eq_true rfl, Nat.le_of_ble_eq_true rfl⟩ hPD hS 8 7 rfl rfl rfl [8, 9] [0, 1, 2, 3, 4, 5, 6, 7] [0, 1, 2, 3, 4, 5, 6, 7, 8, 9] (wr := (wX2 G h0 a0 f0 A0_7)) (wN := (wX2 G h0 a0 f0 A0_7 ++ (wX7 G h1 a1 q_8.2 A1))) rfl rfl rfl rfl rfl hl.1 (Nat.le_of_ble_eq_true rfl) dX2_rule_105 (fun H locs hPD hS => ?_)
  refine lv_if_eq (tgt := 124) hx hb dX2_rule_108 (by decide) (fun cc1 => ?_) (fun cc1 => ?_)
  · have h := (if_pos cc1).symm.trans h
    exact ww_f2_rule_b124 C0 A0_7 f0 q_8.2 h _ _ _ hPD hS (lv_sub hl [0, 1] rfl)
  · have h := (if_neg cc1).symm.trans h
    refine lv_aload_n hx hb dX2_rule_111 rfl (lv_at hl 0 rfl) ?_
    refine lv_aload_n hx hb dX2_rule_112 rfl (lv_at hl 1 rfl) ?_
    refine lv_iconst (v := 1) hx hb dX2_rule_113 (by decide) ?_
    obtain ⟨q_12, hq_12, h⟩ := ob2 h
    refine kVV (As := [.ref h1, .int 1]) (rest := []) C0 (kt_X2_anyOf 64 l G h0 a0 h1 a1 f0 A0_7 q_8.2 A1 1 hq_12) gi_V_X2_77_X2_anyOf (n := 2) rfl (by decide +kernel) rfl ⟨rfl, rfl, Nat.le_of_ble_eq_true rfl, Nat.le_of_ble_eq_true rfl⟩ hPD hS 0 2 rfl rfl rfl [0, 1, 2, 3, 4, 5, 6, 7, 8, 9] [] [0, 1, 2, 3, 4, 5, 6, 7, 8, 9] (wr := ([] : va_W)) (wN := (wX2 G h0 a0 q_12.2.1 q_12.1 ++ (wX7 G h1 a1 q_12.2.2 A1))) rfl rfl rfl rfl rfl hl.1 (Nat.le_of_ble_eq_true rfl) dX2_rule_114 (fun H locs hPD hS => ?_)
    refine lv_aload_n hx hb dX2_rule_117 rfl (lv_at hl 1 rfl) ?_
    refine lv_bipush (v := 41) hx hb dX2_rule_118 (by decide) ?_
    obtain ⟨q_13, hq_13, h⟩ := ob2 h
    refine kVI (As := [.int 41]) (rest := []) C0 (kt_X7_take l G h1 a1 q_12.2.2 A1 41 hq_13) gi_V_X2_73_X7_take (n := 1) rfl (by decide +kernel) rfl ⟨rfl, rfl, Nat.le_of_ble_eq_true rfl, Nat.le_of_ble_eq_true rfl⟩ hPD hS 8 7 rfl rfl rfl [8, 9] [0, 1, 2, 3, 4, 5, 6, 7] [0, 1, 2, 3, 4, 5, 6, 7, 8, 9] (wr := (wX2 G h0 a0 q_12.2.1 q_12.1)) (wN := (wX2 G h0 a0 q_12.2.1 q_12.1 ++ (wX7 G h1 a1 q_13.2 A1))) rfl rfl rfl rfl rfl hl.1 (Nat.le_of_ble_eq_true rfl) dX2_rule_120 (fun H locs hPD hS => ?_)
    refine lv_pop hx hb dX2_rule_123 rfl ?_
    exact ww_f2_rule_b124 C0 q_12.1 q_12.2.1 q_13.2 h _ _ _ hPD hS (lv_sub hl [0, 1] rfl)
set_option maxRecDepth 100000 in
set_option maxHeartbeats 4000000 in
theorem ww_f2_rule_b29  (C0 : Cx cX2_rule 3 none RX2 p s m args meth c G DA) {h0 : Nat} {a0 : Nat → Nat} {h1 : Nat} {a1 : Nat → Nat} {A1 : Nat → Nat → Int32}   {res : (Nat → Nat → Int32) × (Nat → Int32) × (Nat → Int32)}  : ∀ (A0 : Nat → Nat → Int32) (f0 : Nat → Int32) (f1 : Nat → Int32) (l2 : Int32), f2_rule_b29 A1  A0 f0 f1 l2 = some res → ∀ (H : Heap) (locs : List Loc) (ls : Array Slot), WD G DA (wX2 G h0 a0 f0 A0 ++ (wX7 G h1 a1 f1 A1)) H → va_S DA s.heap H locs → lv_has ls 3 [(0, .ref h0), (1, .ref h1), (2, .int l2)] → W p l e rmX2_rule s m args below meth c H locs 0 0 (MQ below (QV G DA (wX2 G h0 a0 res.2.1 res.1 ++ (wX7 G h1 a1 res.2.2 A1))) args s 0 0 DA) (F0 m 29 ls []) := by
  obtain ⟨hx, hb, hml, hown, hts⟩ := C0.1
  have hK := C0.2.2.2.1
  intro A0 f0 f1 l2 h _ _ _ hPD hS hl
  unfold f2_rule_b29 at h
  refine lv_aload_n hx hb dX2_rule_29 rfl (lv_at hl 0 rfl) ?_
  refine va_get (D := G.1) (ci := 2) (v := .int (f0 9)) (C := RX2) (T := TX2) (N := 10) hx hb hts inlX2 hown hK hPD.1 0 rfl rfl 9 (by decide) (hts _ gw_180) (fun _ h9 => h9) rfl dX2_rule_30 ?_
  refine lv_bipush (v := 16) hx hb dX2_rule_33 (by decide) ?_
  refine lv_icmp_lt (tgt := 44) hx hb dX2_rule_35 (by decide) (fun cc1 => ?_) (fun cc1 => ?_)
  · have h := (if_pos cc1).symm.trans h
    refine lv_aload_n hx hb dX2_rule_44 rfl (lv_at hl 1 rfl) ?_
    obtain ⟨z_1, ez_1, h⟩ := lvl h
    have kc := kt_X7_step l G h1 a1 f1 A1
    rw [← ez_1] at kc
    clear ez_1
    refine kVV (As := []) (rest := []) C0 (kc) gi_V_X2_62_X7_step (n := 0) rfl (by decide +kernel) rfl ⟨rfl, rfl, Nat.le_of_ble_eq_true rfl, Nat.le_of_ble_eq_true rfl⟩ hPD hS 8 7 rfl rfl rfl [8, 9] [0, 1, 2, 3, 4, 5, 6, 7] [0, 1, 2, 3, 4, 5, 6, 7, 8, 9] (wr := (wX2 G h0 a0 f0 A0)) (wN := (wX2 G h0 a0 f0 A0 ++ (wX7 G h1 a1 z_1 A1))) rfl rfl rfl rfl rfl hl.1 (Nat.le_of_ble_eq_true rfl) dX2_rule_45 (fun H locs hPD hS => ?_)
    refine lv_aload_n hx hb dX2_rule_48 rfl (lv_at hl 0 rfl) ?_
    refine va_get (D := G.1) (ci := 2) (v := .ref (a0 2)) (C := RX2) (T := TX2) (N := 10) hx hb hts inlX2 hown hK hPD.1 0 rfl rfl 2 (by decide) (hts _ gw_181) (fun _ h9 => h9) rfl dX2_rule_49 ?_
    refine lv_aload_n hx hb dX2_rule_52 rfl (lv_at hl 0 rfl) ?_
    refine va_get (D := G.1) (ci := 2) (v := .int (f0 9)) (C := RX2) (T := TX2) (N := 10) hx hb hts inlX2 hown hK hPD.1 0 rfl rfl 9 (by decide) (hts _ gw_180) (fun _ h9 => h9) rfl dX2_rule_53 ?_
    refine lv_iload_n hx hb dX2_rule_56 rfl (lv_at hl 2 rfl) ?_
    obtain ⟨z_2, ez_2, h⟩ := lvl h
    have kc := kt_X9_put l G (a0 2) 16 (A0 2) (f0 9) l2 (by decide)
    rw [← ez_2] at kc
    clear ez_2
    refine kNV (As := [.ref (a0 2), .int (f0 9), .int l2]) (rest := []) C0 (kc) gi_U_X9_put (host := "IdleCrimes") (index := 65) (List.mem_of_getElem? (i := 12) rfl) gw_6 gw_19 (n := 3) rfl (by decide +kernel) ⟨rfl, rfl, Nat.le_of_ble_eq_true rfl, Nat.le_of_ble_eq_true rfl⟩ hPD hS [3] [0, 1, 2, 4, 5, 6, 7, 8, 9] [0, 1, 2, 9, 3, 4, 5, 6, 7, 8] (wr := pick (wX2 G h0 a0 f0 A0 ++ (wX7 G h1 a1 z_1 A1)) [0, 1, 2, 4, 5, 6, 7, 8, 9]) (wN := (wX2 G h0 a0 f0 (updA A0 2 z_2) ++ (wX7 G h1 a1 z_1 A1))) rfl rfl rfl rfl rfl hl.1 (Nat.le_of_ble_eq_true rfl) dX2_rule_57 (fun H locs hPD hS => ?_)
    obtain ⟨A0_3, eA0_3, h⟩ := lvl h
    have hPD : WD G DA (wX2 G h0 a0 f0 A0_3 ++ (wX7 G h1 a1 z_1 A1)) H := by rw [eA0_3]; exact hPD
    clear eA0_3
    refine lv_aload_n hx hb dX2_rule_60 rfl (lv_at hl 0 rfl) ?_
    refine va_get (D := G.1) (ci := 2) (v := .ref (a0 3)) (C := RX2) (T := TX2) (N := 10) hx hb hts inlX2 hown hK hPD.1 0 rfl rfl 3 (by decide) (hts _ gw_182) (fun _ h9 => h9) rfl dX2_rule_61 ?_
    refine lv_aload_n hx hb dX2_rule_64 rfl (lv_at hl 0 rfl) ?_
    refine va_get (D := G.1) (ci := 2) (v := .int (f0 9)) (C := RX2) (T := TX2) (N := 10) hx hb hts inlX2 hown hK hPD.1 0 rfl rfl 9 (by decide) (hts _ gw_180) (fun _ h9 => h9) rfl dX2_rule_65 ?_
    refine lv_aload_n hx hb dX2_rule_68 rfl (lv_at hl 0 rfl) ?_
    refine va_get (D := G.1) (ci := 2) (v := .int (f0 7)) (C := RX2) (T := TX2) (N := 10) hx hb hts inlX2 hown hK hPD.1 0 rfl rfl 7 (by decide) (hts _ gw_130) (fun _ h9 => h9) rfl dX2_rule_69 ?_
    obtain ⟨z_4, ez_4, h⟩ := lvl h
    have kc := kt_X9_put l G (a0 3) 16 (A0_3 3) (f0 9) (f0 7) (by decide)
    rw [← ez_4] at kc
    clear ez_4
    refine kNV (As := [.ref (a0 3), .int (f0 9), .int (f0 7)]) (rest := []) C0 (kc) gi_U_X9_put (host := "IdleCrimes") (index := 65) (List.mem_of_getElem? (i := 12) rfl) gw_6 gw_19 (n := 3) rfl (by decide +kernel) ⟨rfl, rfl, Nat.le_of_ble_eq_true rfl, Nat.le_of_ble_eq_true rfl⟩ hPD hS [4] [0, 1, 2, 3, 5, 6, 7, 8, 9] [0, 1, 2, 3, 9, 4, 5, 6, 7, 8] (wr := pick (wX2 G h0 a0 f0 A0_3 ++ (wX7 G h1 a1 z_1 A1)) [0, 1, 2, 3, 5, 6, 7, 8, 9]) (wN := (wX2 G h0 a0 f0 (updA A0_3 3 z_4) ++ (wX7 G h1 a1 z_1 A1))) rfl rfl rfl rfl rfl hl.1 (Nat.le_of_ble_eq_true rfl) dX2_rule_72 (fun H locs hPD hS => ?_)
    obtain ⟨A0_5, eA0_5, h⟩ := lvl h
    have hPD : WD G DA (wX2 G h0 a0 f0 A0_5 ++ (wX7 G h1 a1 z_1 A1)) H := by rw [eA0_5]; exact hPD
    clear eA0_5
    refine lv_iload_n hx hb dX2_rule_75 rfl (lv_at hl 2 rfl) ?_
    refine lv_bipush (v := 115) hx hb dX2_rule_76 (by decide) ?_
    refine lv_icmp_eq (tgt := 87) hx hb dX2_rule_78 (by decide) (fun cc1 => ?_) (fun cc1 => ?_)
    · have h := (if_pos cc1).symm.trans h
      exact ww_f2_rule_b87 C0 A0_5 f0 z_1 h _ _ _ hPD hS (lv_sub hl [0, 1] rfl)
    · have h := (if_neg cc1).symm.trans h
      refine lv_aload_n hx hb dX2_rule_81 rfl (lv_at hl 0 rfl) ?_
      refine lv_aload_n hx hb dX2_rule_82 rfl (lv_at hl 1 rfl) ?_
      refine lv_iconst (v := 0) hx hb dX2_rule_83 (by decide) ?_
      obtain ⟨q_14, hq_14, h⟩ := ob2 h
      refine kVV (As := [.ref h1, .int 0]) (rest := []) C0 (kt_X2_sum 64 l G h0 a0 h1 a1 f0 A0_5 z_1 A1 0 hq_14) gi_V_X2_69_X2_sum (n := 2) rfl (by decide +kernel) rfl ⟨rfl, rfl, Nat.le_of_ble_eq_true rfl, Nat.le_of_ble_eq_true rfl⟩ hPD hS 0 2 rfl rfl rfl [0, 1, 2, 3, 4, 5, 6, 7, 8, 9] [] [0, 1, 2, 3, 4, 5, 6, 7, 8, 9] (wr := ([] : va_W)) (wN := (wX2 G h0 a0 q_14.2.1 q_14.1 ++ (wX7 G h1 a1 q_14.2.2 A1))) rfl rfl rfl rfl rfl hl.1 (Nat.le_of_ble_eq_true rfl) dX2_rule_84 (fun H locs hPD hS => ?_)
      exact ww_f2_rule_b87 C0 q_14.1 q_14.2.1 q_14.2.2 h _ _ _ hPD hS (lv_sub hl [0, 1] rfl)
  · have h := (if_neg cc1).symm.trans h
    refine lv_aload_n hx hb dX2_rule_38 rfl (lv_at hl 1 rfl) ?_
    refine lv_iconst (v := 4) hx hb dX2_rule_39 (by decide) ?_
    obtain ⟨z_15, ez_15, h⟩ := lvl h
    have kc := kt_X7_fail l G h1 a1 f1 A1 4
    rw [← ez_15] at kc
    clear ez_15
    refine kVV (As := [.int 4]) (rest := []) C0 (kc) gi_V_X2_58_X7_fail (n := 1) rfl (by decide +kernel) rfl ⟨rfl, rfl, Nat.le_of_ble_eq_true rfl, Nat.le_of_ble_eq_true rfl⟩ hPD hS 8 7 rfl rfl rfl [8, 9] [0, 1, 2, 3, 4, 5, 6, 7] [0, 1, 2, 3, 4, 5, 6, 7, 8, 9] (wr := (wX2 G h0 a0 f0 A0)) (wN := (wX2 G h0 a0 f0 A0 ++ (wX7 G h1 a1 z_15 A1))) rfl rfl rfl rfl rfl hl.1 (Nat.le_of_ble_eq_true rfl) dX2_rule_40 (fun H locs hPD hS => ?_)
    obtain rfl := Option.some.inj h
    exact eV C0 hPD.1 hPD.2 hS dX2_rule_43
set_option maxRecDepth 100000 in
set_option maxHeartbeats 4000000 in
theorem kt_X2_rule (l : Launch) (G : Gp) (h0 : Nat) (a0 : Nat → Nat) (h1 : Nat) (a1 : Nat → Nat) (f0 : Nat → Int32) (A0 : Nat → Nat → Int32) (f1 : Nat → Int32) (A1 : Nat → Nat → Int32) : ∀ {r : (Nat → Nat → Int32) × (Nat → Int32) × (Nat → Int32)}, f2_rule f0 A0 f1 A1 = some r → CtrV l yX2_rule cX2_rule 3 none rmX2_rule G [.ref h0, .ref h1] (wX2 G h0 a0 f0 A0 ++ (wX7 G h1 a1 f1 A1)) (wX2 G h0 a0 r.2.1 r.1 ++ (wX7 G h1 a1 r.2.2 A1)) := by
  intro res h
  refine ctrV_of (cc := cX2_rule) (maxL := 3) (ret := none) (by decide +kernel) rfl (Nat.le_of_ble_eq_true rfl) (fun p e s m below meth c DA C0 hP hD ls hl => ?_)
  have hPD : WD G DA (wX2 G h0 a0 f0 A0 ++ (wX7 G h1 a1 f1 A1)) s.heap := ⟨hP, hD⟩
  have hS : va_S DA s.heap s.heap [] := va_S.rf
  have hl : lv_has ls 3 [(0, .ref h0), (1, .ref h1)] := hl
  obtain ⟨hx, hb, hml, hown, hts⟩ := C0.1
  have hK := C0.2.2.2.1
  unfold f2_rule at h
  refine lv_aload_n hx hb dX2_rule_0 rfl (lv_at hl 1 rfl) ?_
  refine kVI (As := []) (rest := []) C0 (kt_X7_look l G h1 a1 f1 A1) gi_V_X2_54_X7_look (n := 0) rfl (by decide +kernel) rfl ⟨rfl, rfl, Nat.le_of_ble_eq_true rfl, Nat.le_of_ble_eq_true rfl⟩ hPD hS 8 7 rfl rfl rfl [8, 9] [0, 1, 2, 3, 4, 5, 6, 7] [0, 1, 2, 3, 4, 5, 6, 7, 8, 9] (wr := (wX2 G h0 a0 f0 A0)) (wN := (wX2 G h0 a0 f0 A0 ++ (wX7 G h1 a1 f1 A1))) rfl rfl rfl rfl rfl hl.1 (Nat.le_of_ble_eq_true rfl) dX2_rule_1 (fun H locs hPD hS => ?_)
  refine lv_istore_n (lv' := [(2, .int (f7_look f1 A1)), (0, .ref h0), (1, .ref h1)]) hx hb dX2_rule_4 rfl hl (by decide) rfl (fun ls hl => ?_)
  refine lv_iload_n hx hb dX2_rule_5 rfl (lv_at hl 0 rfl) ?_
  refine lv_bipush (v := 119) hx hb dX2_rule_6 (by decide) ?_
  refine lv_icmp_eq (tgt := 29) hx hb dX2_rule_8 (by decide) (fun cc1 => ?_) (fun cc1 => ?_)
  · have h := (if_pos cc1).symm.trans h
    exact ww_f2_rule_b29 C0 A0 f0 f1 (f7_look f1 A1) h _ _ _ hPD hS (lv_sub hl [1, 2, 0] rfl)
  · have h := (if_neg cc1).symm.trans h
    refine lv_iload_n hx hb dX2_rule_11 rfl (lv_at hl 0 rfl) ?_
    refine lv_bipush (v := 114) hx hb dX2_rule_12 (by decide) ?_
    refine lv_icmp_eq (tgt := 29) hx hb dX2_rule_14 (by decide) (fun cc1 => ?_) (fun cc1 => ?_)
    · have h := (if_pos cc1).symm.trans h
      exact ww_f2_rule_b29 C0 A0 f0 f1 (f7_look f1 A1) h _ _ _ hPD hS (lv_sub hl [1, 2, 0] rfl)
    · have h := (if_neg cc1).symm.trans h
      refine lv_iload_n hx hb dX2_rule_17 rfl (lv_at hl 0 rfl) ?_
      refine lv_bipush (v := 115) hx hb dX2_rule_18 (by decide) ?_
      refine lv_icmp_eq (tgt := 29) hx hb dX2_rule_20 (by decide) (fun cc1 => ?_) (fun cc1 => ?_)
      · have h := (if_pos cc1).symm.trans h
        exact ww_f2_rule_b29 C0 A0 f0 f1 (f7_look f1 A1) h _ _ _ hPD hS (lv_sub hl [1, 2, 0] rfl)
      · have h := (if_neg cc1).symm.trans h
        refine lv_aload_n hx hb dX2_rule_23 rfl (lv_at hl 2 rfl) ?_
        refine lv_iconst (v := 1) hx hb dX2_rule_24 (by decide) ?_
        obtain ⟨z_16, ez_16, h⟩ := lvl h
        have kc := kt_X7_fail l G h1 a1 f1 A1 1
        rw [← ez_16] at kc
        clear ez_16
        refine kVV (As := [.int 1]) (rest := []) C0 (kc) gi_V_X2_58_X7_fail (n := 1) rfl (by decide +kernel) rfl ⟨rfl, rfl, Nat.le_of_ble_eq_true rfl, Nat.le_of_ble_eq_true rfl⟩ hPD hS 8 7 rfl rfl rfl [8, 9] [0, 1, 2, 3, 4, 5, 6, 7] [0, 1, 2, 3, 4, 5, 6, 7, 8, 9] (wr := (wX2 G h0 a0 f0 A0)) (wN := (wX2 G h0 a0 f0 A0 ++ (wX7 G h1 a1 z_16 A1))) rfl rfl rfl rfl rfl hl.1 (Nat.le_of_ble_eq_true rfl) dX2_rule_25 (fun H locs hPD hS => ?_)
        obtain rfl := Option.some.inj h
        exact eV C0 hPD.1 hPD.2 hS dX2_rule_28
abbrev rmX7_goesOn : Room := { frames := 3, cells := 0, slots := 0, locals := 64 }
set_option maxRecDepth 100000 in
set_option maxHeartbeats 4000000 in
theorem kt_X7_goesOn (l : Launch) (G : Gp) (h0 : Nat) (a0 : Nat → Nat) (f0 : Nat → Int32) (A0 : Nat → Nat → Int32) : ∀ {r : Int32 × (Nat → Int32)}, f7_goesOn f0 A0 = some r → CtrI l yX7_goesOn cX7_goesOn 1 (some .boolean) rmX7_goesOn G [.ref h0] (wX7 G h0 a0 f0 A0) r.1 (wX7 G h0 a0 r.2 A0) := by
  intro res h
  refine ctrI_of (cc := cX7_goesOn) (maxL := 1) (ret := (some .boolean)) (by decide +kernel) rfl (Nat.le_of_ble_eq_true rfl) (fun p e s m below meth c DA C0 hP hD ls hl => ?_)
  have hPD : WD G DA (wX7 G h0 a0 f0 A0) s.heap := ⟨hP, hD⟩
  have hS : va_S DA s.heap s.heap [] := va_S.rf
  have hl : lv_has ls 1 [(0, .ref h0)] := hl
  obtain ⟨hx, hb, hml, hown, hts⟩ := C0.1
  have hK := C0.2.2.2.1
  unfold f7_goesOn at h
  refine lv_aload_n hx hb dX7_goesOn_0 rfl (lv_at hl 0 rfl) ?_
  refine kVI (As := []) (rest := []) C0 (kt_X7_look l G h0 a0 f0 A0) gi_V_X7_43_X7_look (n := 0) rfl (by decide +kernel) rfl ⟨rfl, rfl, Nat.le_of_ble_eq_true rfl, Nat.le_of_ble_eq_true rfl⟩ hPD hS 0 7 rfl rfl rfl [0, 1] [] [0, 1] (wr := ([] : va_W)) (wN := (wX7 G h0 a0 f0 A0)) rfl rfl rfl rfl rfl hl.1 (Nat.le_of_ble_eq_true rfl) dX7_goesOn_1 (fun H locs hPD hS => ?_)
  refine lv_iconst (v := (-1)) hx hb dX7_goesOn_4 (by decide) ?_
  refine lv_icmp_eq (tgt := 21) hx hb dX7_goesOn_5 (by decide) (fun cc1 => ?_) (fun cc1 => ?_)
  · have h := (if_pos cc1).symm.trans h
    refine lv_iconst (v := 0) hx hb dX7_goesOn_21 (by decide) ?_
    obtain rfl := Option.some.inj h
    exact eZ C0 hPD.1 hPD.2 hS rfl rfl dX7_goesOn_22
  · have h := (if_neg cc1).symm.trans h
    refine lv_aload_n hx hb dX7_goesOn_8 rfl (lv_at hl 0 rfl) ?_
    refine lv_bipush (v := 59) hx hb dX7_goesOn_9 (by decide) ?_
    obtain ⟨q_1, hq_1, h⟩ := ob2 h
    refine kVI (As := [.int 59]) (rest := []) C0 (kt_X7_take l G h0 a0 f0 A0 59 hq_1) gi_V_X7_58_X7_take (n := 1) rfl (by decide +kernel) rfl ⟨rfl, rfl, Nat.le_of_ble_eq_true rfl, Nat.le_of_ble_eq_true rfl⟩ hPD hS 0 7 rfl rfl rfl [0, 1] [] [0, 1] (wr := ([] : va_W)) (wN := (wX7 G h0 a0 q_1.2 A0)) rfl rfl rfl rfl rfl hl.1 (Nat.le_of_ble_eq_true rfl) dX7_goesOn_11 (fun H locs hPD hS => ?_)
    refine lv_if_eq (tgt := 21) hx hb dX7_goesOn_14 (by decide) (fun cc1 => ?_) (fun cc1 => ?_)
    · have h := (if_pos cc1).symm.trans h
      refine lv_iconst (v := 0) hx hb dX7_goesOn_21 (by decide) ?_
      obtain rfl := Option.some.inj h
      exact eZ C0 hPD.1 hPD.2 hS rfl rfl dX7_goesOn_22
    · have h := (if_neg cc1).symm.trans h
      refine lv_iconst (v := 1) hx hb dX7_goesOn_17 (by decide) ?_
      refine lv_goto (tgt := 22) hx hb dX7_goesOn_18 (by decide) ?_
      obtain rfl := Option.some.inj h
      exact eZ C0 hPD.1 hPD.2 hS rfl rfl dX7_goesOn_22
abbrev rmX2_read : Room := { frames := 69, cells := 0, slots := 0, locals := 1648 }
set_option maxRecDepth 100000 in
set_option maxHeartbeats 4000000 in
theorem ww_f2_read_b14  (C0 : Cx cX2_read 4 none RX2 p s m args meth c G DA) {h0 : Nat} {a0 : Nat → Nat} {h1 : Nat} {a1 : Nat → Nat} {A1 : Nat → Nat → Int32}  {k14 : (Nat → Nat → Int32) → (Nat → Int32) → (Nat → Int32) → Int32 → Int32 → Option ((Nat → Nat → Int32) × (Nat → Int32) × (Nat → Int32))} {res : (Nat → Nat → Int32) × (Nat → Int32) × (Nat → Int32)}  (hk14 : ∀ (A0 : Nat → Nat → Int32) (f0 : Nat → Int32) (f1 : Nat → Int32) (l2 : Int32) (l3 : Int32), k14 A0 f0 f1 l2 l3 = some res → ∀ (H : Heap) (locs : List Loc) (ls : Array Slot), WD G DA (wX2 G h0 a0 f0 A0 ++ (wX7 G h1 a1 f1 A1)) H → va_S DA s.heap H locs → lv_has ls 4 [(0, .ref h0), (1, .ref h1), (2, .int l2), (3, .int l3)] → W p l e rmX2_read s m args below meth c H locs 0 0 (MQ below (QV G DA (wX2 G h0 a0 res.2.1 res.1 ++ (wX7 G h1 a1 res.2.2 A1))) args s 0 0 DA) (F0 m 14 ls [])) : ∀ (A0 : Nat → Nat → Int32) (f0 : Nat → Int32) (f1 : Nat → Int32) (l2 : Int32) (l3 : Int32), f2_read_b14 A1  k14 A0 f0 f1 l2 l3 = some res → ∀ (H : Heap) (locs : List Loc) (ls : Array Slot), WD G DA (wX2 G h0 a0 f0 A0 ++ (wX7 G h1 a1 f1 A1)) H → va_S DA s.heap H locs → lv_has ls 4 [(0, .ref h0), (1, .ref h1), (2, .int l2), (3, .int l3)] → W p l e rmX2_read s m args below meth c H locs 0 0 (MQ below (QV G DA (wX2 G h0 a0 res.2.1 res.1 ++ (wX7 G h1 a1 res.2.2 A1))) args s 0 0 DA) (F0 m 14 ls []) := by
  obtain ⟨hx, hb, hml, hown, hts⟩ := C0.1
  have hK := C0.2.2.2.1
  intro A0 f0 f1 l2 l3 h _ _ _ hPD hS hl
  unfold f2_read_b14 at h
  refine lv_iload_n hx hb dX2_read_14 rfl (lv_at hl 2 rfl) ?_
  refine lv_if_eq (tgt := 41) hx hb dX2_read_15 (by decide) (fun cc1 => ?_) (fun cc1 => ?_)
  · have h := (if_pos cc1).symm.trans h
    obtain rfl := Option.some.inj h
    exact eV C0 hPD.1 hPD.2 hS dX2_read_41
  · have h := (if_neg cc1).symm.trans h
    refine lv_iload_n hx hb dX2_read_18 rfl (lv_at hl 3 rfl) ?_
    refine lv_sipush (v := 240) hx hb dX2_read_19 (by decide) ?_
    refine lv_icmp_ge (tgt := 41) hx hb dX2_read_22 (by decide) (fun cc1 => ?_) (fun cc1 => ?_)
    · have h := (if_pos cc1).symm.trans h
      obtain rfl := Option.some.inj h
      exact eV C0 hPD.1 hPD.2 hS dX2_read_41
    · have h := (if_neg cc1).symm.trans h
      refine lv_aload_n hx hb dX2_read_25 rfl (lv_at hl 0 rfl) ?_
      refine lv_aload_n hx hb dX2_read_26 rfl (lv_at hl 1 rfl) ?_
      obtain ⟨q_3, hq_3, h⟩ := ob2 h
      refine kVV (As := [.ref h1]) (rest := []) C0 (kt_X2_rule l G h0 a0 h1 a1 f0 A0 f1 A1 hq_3) gi_V_X2_44_X2_rule (n := 1) rfl (by decide +kernel) rfl ⟨rfl, rfl, Nat.le_of_ble_eq_true rfl, Nat.le_of_ble_eq_true rfl⟩ hPD hS 0 2 rfl rfl rfl [0, 1, 2, 3, 4, 5, 6, 7, 8, 9] [] [0, 1, 2, 3, 4, 5, 6, 7, 8, 9] (wr := ([] : va_W)) (wN := (wX2 G h0 a0 q_3.2.1 q_3.1 ++ (wX7 G h1 a1 q_3.2.2 A1))) rfl rfl rfl rfl rfl hl.1 (Nat.le_of_ble_eq_true rfl) dX2_read_27 (fun H locs hPD hS => ?_)
      refine lv_aload_n hx hb dX2_read_30 rfl (lv_at hl 1 rfl) ?_
      obtain ⟨q_4, hq_4, h⟩ := ob2 h
      refine kVI (As := []) (rest := []) C0 (kt_X7_goesOn l G h1 a1 q_3.2.2 A1 hq_4) gi_V_X2_48_X7_goesOn (n := 0) rfl (by decide +kernel) rfl ⟨rfl, rfl, Nat.le_of_ble_eq_true rfl, Nat.le_of_ble_eq_true rfl⟩ hPD hS 8 7 rfl rfl rfl [8, 9] [0, 1, 2, 3, 4, 5, 6, 7] [0, 1, 2, 3, 4, 5, 6, 7, 8, 9] (wr := (wX2 G h0 a0 q_3.2.1 q_3.1)) (wN := (wX2 G h0 a0 q_3.2.1 q_3.1 ++ (wX7 G h1 a1 q_4.2 A1))) rfl rfl rfl rfl rfl hl.1 (Nat.le_of_ble_eq_true rfl) dX2_read_31 (fun H locs hPD hS => ?_)
      refine lv_istore_n (lv' := [(2, .int q_4.1), (0, .ref h0), (1, .ref h1), (3, .int l3)]) hx hb dX2_read_34 rfl hl (by decide) rfl (fun ls hl => ?_)
      refine lv_iinc (v := l3 + 1) (lv' := [(3, .int (l3 + 1)), (2, .int q_4.1), (0, .ref h0), (1, .ref h1)]) hx hb dX2_read_35 hl (k := 3) rfl rfl (by decide) rfl (fun ls hl => ?_)
      refine lv_goto (tgt := 14) hx hb dX2_read_38 (by decide) ?_
      exact hk14 q_3.1 q_3.2.1 q_4.2 q_4.1 (l3 + 1) h _ _ _ hPD hS (lv_sub hl [2, 3, 1, 0] rfl)
set_option maxRecDepth 100000 in
set_option maxHeartbeats 4000000 in
theorem ww_f2_read_l14  (C0 : Cx cX2_read 4 none RX2 p s m args meth c G DA) {h0 : Nat} {a0 : Nat → Nat} {h1 : Nat} {a1 : Nat → Nat} {A1 : Nat → Nat → Int32}   {res : (Nat → Nat → Int32) × (Nat → Int32) × (Nat → Int32)}  : ∀ (n : Nat) (A0 : Nat → Nat → Int32) (f0 : Nat → Int32) (f1 : Nat → Int32) (l2 : Int32) (l3 : Int32), f2_read_l14 A1  n A0 f0 f1 l2 l3 = some res → ∀ (H : Heap) (locs : List Loc) (ls : Array Slot), WD G DA (wX2 G h0 a0 f0 A0 ++ (wX7 G h1 a1 f1 A1)) H → va_S DA s.heap H locs → lv_has ls 4 [(0, .ref h0), (1, .ref h1), (2, .int l2), (3, .int l3)] → W p l e rmX2_read s m args below meth c H locs 0 0 (MQ below (QV G DA (wX2 G h0 a0 res.2.1 res.1 ++ (wX7 G h1 a1 res.2.2 A1))) args s 0 0 DA) (F0 m 14 ls []) := by
  intro n
  induction n with
  | zero => intro A0 f0 f1 l2 l3 h; cases h
  | succ n ih => intro A0 f0 f1 l2 l3 h; exact ww_f2_read_b14 C0  ih A0 f0 f1 l2 l3 h
set_option maxRecDepth 100000 in
set_option maxHeartbeats 4000000 in
theorem kt_X2_read (l : Launch) (G : Gp) (h0 : Nat) (a0 : Nat → Nat) (h1 : Nat) (a1 : Nat → Nat) (f0 : Nat → Int32) (A0 : Nat → Nat → Int32) (f1 : Nat → Int32) (A1 : Nat → Nat → Int32) : ∀ {r : (Nat → Nat → Int32) × (Nat → Int32) × (Nat → Int32)}, f2_read f0 A0 f1 A1 = some r → CtrV l yX2_read cX2_read 4 none rmX2_read G [.ref h0, .ref h1] (wX2 G h0 a0 f0 A0 ++ (wX7 G h1 a1 f1 A1)) (wX2 G h0 a0 r.2.1 r.1 ++ (wX7 G h1 a1 r.2.2 A1)) := by
  intro res h
  refine ctrV_of (cc := cX2_read) (maxL := 4) (ret := none) (by decide +kernel) rfl (Nat.le_of_ble_eq_true rfl) (fun p e s m below meth c DA C0 hP hD ls hl => ?_)
  have hPD : WD G DA (wX2 G h0 a0 f0 A0 ++ (wX7 G h1 a1 f1 A1)) s.heap := ⟨hP, hD⟩
  have hS : va_S DA s.heap s.heap [] := va_S.rf
  have hl : lv_has ls 4 [(0, .ref h0), (1, .ref h1)] := hl
  obtain ⟨hx, hb, hml, hown, hts⟩ := C0.1
  have hK := C0.2.2.2.1
  unfold f2_read at h
  refine lv_aload_n hx hb dX2_read_0 rfl (lv_at hl 0 rfl) ?_
  refine lv_iconst (v := 0) hx hb dX2_read_1 (by decide) ?_
  refine va_put (D := G.1) (ci := 2) (v := .int 0) (ty := .int) (C := RX2) (T := TX2) (N := 10) hx hb hts inlX2 tyX2 tyX2_ok nmX2 hown hK hPD.1 hPD.2 hS 0 rfl rfl 7 (by decide) (hts _ gw_130) (fun _ h9 => h9) rfl (by decide +kernel) rfl rfl (Nat.le_of_ble_eq_true rfl) dX2_read_2 (fun H locs hP hD hS => ?_)
  obtain ⟨f0_1, ef0_1, h⟩ := lvl h
  have hPD : WD G DA (wX2 G h0 a0 f0_1 A0 ++ (wX7 G h1 a1 f1 A1)) H := by rw [ef0_1]; exact ⟨hP, hD⟩
  clear ef0_1 hP hD
  refine lv_aload_n hx hb dX2_read_5 rfl (lv_at hl 0 rfl) ?_
  refine lv_iconst (v := 0) hx hb dX2_read_6 (by decide) ?_
  refine va_put (D := G.1) (ci := 2) (v := .int 0) (ty := .int) (C := RX2) (T := TX2) (N := 10) hx hb hts inlX2 tyX2 tyX2_ok nmX2 hown hK hPD.1 hPD.2 hS 0 rfl rfl 9 (by decide) (hts _ gw_180) (fun _ h9 => h9) rfl (by decide +kernel) rfl rfl (Nat.le_of_ble_eq_true rfl) dX2_read_7 (fun H locs hP hD hS => ?_)
  obtain ⟨f0_2, ef0_2, h⟩ := lvl h
  have hPD : WD G DA (wX2 G h0 a0 f0_2 A0 ++ (wX7 G h1 a1 f1 A1)) H := by rw [ef0_2]; exact ⟨hP, hD⟩
  clear ef0_2 hP hD
  refine lv_iconst (v := 1) hx hb dX2_read_10 (by decide) ?_
  refine lv_istore_n (lv' := [(2, .int 1), (0, .ref h0), (1, .ref h1)]) hx hb dX2_read_11 rfl hl (by decide) rfl (fun ls hl => ?_)
  refine lv_iconst (v := 0) hx hb dX2_read_12 (by decide) ?_
  refine lv_istore_n (lv' := [(3, .int 0), (2, .int 1), (0, .ref h0), (1, .ref h1)]) hx hb dX2_read_13 rfl hl (by decide) rfl (fun ls hl => ?_)
  exact ww_f2_read_l14 C0 NF A0 f0_2 f1 1 0 h _ _ _ hPD hS (lv_sub hl [2, 3, 1, 0] rfl)
end WALK
