section WALK
variable {p : Program} {l : Launch} {e : Env} {s : State} {m : MethodId} {args : Array Value} {below : List Frame} {meth : Method} {c : Code} {G : Gp} {DA : Nat → Prop}

set_option maxRecDepth 100000 in
set_option maxHeartbeats 4000000 in
theorem ww_f2_term_b50 {d : Nat} {rec : Nat → (Nat → Int32) → (Nat → Nat → Int32) → (Nat → Int32) → (Nat → Nat → Int32) → Int32 → Option ((Nat → Nat → Int32) × (Nat → Int32) × (Nat → Int32))} (hrec0 : ∀ (l : Launch) (G : Gp) (h0 : Nat) (a0 : Nat → Nat) (h1 : Nat) (a1 : Nat → Nat) (f0 : Nat → Int32) (A0 : Nat → Nat → Int32) (f1 : Nat → Int32) (A1 : Nat → Nat → Int32) (p2 : Int32), ∀ {r : (Nat → Nat → Int32) × (Nat → Int32) × (Nat → Int32)}, rec 0 f0 A0 f1 A1 p2 = some r → CtrV l yX2_anyOf cX2_anyOf 5 none (rmGX2_anyOf d) G [.ref h0, .ref h1, .int p2] (wX2 G h0 a0 f0 A0 ++ (wX7 G h1 a1 f1 A1)) (wX2 G h0 a0 r.2.1 r.1 ++ (wX7 G h1 a1 r.2.2 A1))) (hrec1 : ∀ (l : Launch) (G : Gp) (h0 : Nat) (a0 : Nat → Nat) (h1 : Nat) (a1 : Nat → Nat) (f0 : Nat → Int32) (A0 : Nat → Nat → Int32) (f1 : Nat → Int32) (A1 : Nat → Nat → Int32) (p2 : Int32), ∀ {r : (Nat → Nat → Int32) × (Nat → Int32) × (Nat → Int32)}, rec 1 f0 A0 f1 A1 p2 = some r → CtrV l yX2_allOf cX2_allOf 5 none (rmGX2_anyOf d) G [.ref h0, .ref h1, .int p2] (wX2 G h0 a0 f0 A0 ++ (wX7 G h1 a1 f1 A1)) (wX2 G h0 a0 r.2.1 r.1 ++ (wX7 G h1 a1 r.2.2 A1))) (hrec2 : ∀ (l : Launch) (G : Gp) (h0 : Nat) (a0 : Nat → Nat) (h1 : Nat) (a1 : Nat → Nat) (f0 : Nat → Int32) (A0 : Nat → Nat → Int32) (f1 : Nat → Int32) (A1 : Nat → Nat → Int32) (p2 : Int32), ∀ {r : (Nat → Nat → Int32) × (Nat → Int32) × (Nat → Int32)}, rec 2 f0 A0 f1 A1 p2 = some r → CtrV l yX2_test cX2_test 5 none (rmGX2_anyOf d) G [.ref h0, .ref h1, .int p2] (wX2 G h0 a0 f0 A0 ++ (wX7 G h1 a1 f1 A1)) (wX2 G h0 a0 r.2.1 r.1 ++ (wX7 G h1 a1 r.2.2 A1))) (hrec3 : ∀ (l : Launch) (G : Gp) (h0 : Nat) (a0 : Nat → Nat) (h1 : Nat) (a1 : Nat → Nat) (f0 : Nat → Int32) (A0 : Nat → Nat → Int32) (f1 : Nat → Int32) (A1 : Nat → Nat → Int32) (p2 : Int32), ∀ {r : (Nat → Nat → Int32) × (Nat → Int32) × (Nat → Int32)}, rec 3 f0 A0 f1 A1 p2 = some r → CtrV l yX2_sum cX2_sum 5 none (rmGX2_anyOf d) G [.ref h0, .ref h1, .int p2] (wX2 G h0 a0 f0 A0 ++ (wX7 G h1 a1 f1 A1)) (wX2 G h0 a0 r.2.1 r.1 ++ (wX7 G h1 a1 r.2.2 A1))) (hrec4 : ∀ (l : Launch) (G : Gp) (h0 : Nat) (a0 : Nat → Nat) (h1 : Nat) (a1 : Nat → Nat) (f0 : Nat → Int32) (A0 : Nat → Nat → Int32) (f1 : Nat → Int32) (A1 : Nat → Nat → Int32) (p2 : Int32), ∀ {r : (Nat → Nat → Int32) × (Nat → Int32) × (Nat → Int32)}, rec 4 f0 A0 f1 A1 p2 = some r → CtrV l yX2_term cX2_term 5 none (rmGX2_anyOf d) G [.ref h0, .ref h1, .int p2] (wX2 G h0 a0 f0 A0 ++ (wX7 G h1 a1 f1 A1)) (wX2 G h0 a0 r.2.1 r.1 ++ (wX7 G h1 a1 r.2.2 A1))) (hrec5 : ∀ (l : Launch) (G : Gp) (h0 : Nat) (a0 : Nat → Nat) (h1 : Nat) (a1 : Nat → Nat) (f0 : Nat → Int32) (A0 : Nat → Nat → Int32) (f1 : Nat → Int32) (A1 : Nat → Nat → Int32) (p2 : Int32), ∀ {r : (Nat → Nat → Int32) × (Nat → Int32) × (Nat → Int32)}, rec 5 f0 A0 f1 A1 p2 = some r → CtrV l yX2_factor cX2_factor 4 none (rmGX2_anyOf d) G [.ref h0, .ref h1, .int p2] (wX2 G h0 a0 f0 A0 ++ (wX7 G h1 a1 f1 A1)) (wX2 G h0 a0 r.2.1 r.1 ++ (wX7 G h1 a1 r.2.2 A1))) (hdd : True)  (C0 : Cx cX2_term 5 none RX2 p s m args meth c G DA) {h0 : Nat} {a0 : Nat → Nat} {h1 : Nat} {a1 : Nat → Nat} {A1 : Nat → Nat → Int32} {p2 : Int32}  {k8 : (Nat → Nat → Int32) → (Nat → Int32) → (Nat → Int32) → Int32 → Option ((Nat → Nat → Int32) × (Nat → Int32) × (Nat → Int32))} {res : (Nat → Nat → Int32) × (Nat → Int32) × (Nat → Int32)} (hk8 : ∀ (A0 : Nat → Nat → Int32) (f0 : Nat → Int32) (f1 : Nat → Int32) (l3 : Int32), k8 A0 f0 f1 l3 = some res → ∀ (H : Heap) (locs : List Loc) (ls : Array Slot), WD G DA (wX2 G h0 a0 f0 A0 ++ (wX7 G h1 a1 f1 A1)) H → va_S DA s.heap H locs → lv_has ls 5 [(0, .ref h0), (1, .ref h1), (2, .int p2), (3, .int l3)] → W p l e (rmGX2_anyOf (d + 1)) s m args below meth c H locs 0 0 (MQ below (QV G DA (wX2 G h0 a0 res.2.1 res.1 ++ (wX7 G h1 a1 res.2.2 A1))) args s 0 0 DA) (F0 m 8 ls [])) : ∀ (A0 : Nat → Nat → Int32) (f0 : Nat → Int32) (f1 : Nat → Int32) (l3 : Int32) (l4 : Int32), f2_term_b50 rec A1 p2 k8 A0 f0 f1 l3 l4 = some res → ∀ (H : Heap) (locs : List Loc) (ls : Array Slot), WD G DA (wX2 G h0 a0 f0 A0 ++ (wX7 G h1 a1 f1 A1)) H → va_S DA s.heap H locs → lv_has ls 5 [(0, .ref h0), (1, .ref h1), (2, .int p2), (3, .int l3), (4, .int l4)] → W p l e (rmGX2_anyOf (d + 1)) s m args below meth c H locs 0 0 (MQ below (QV G DA (wX2 G h0 a0 res.2.1 res.1 ++ (wX7 G h1 a1 res.2.2 A1))) args s 0 0 DA) (F0 m 50 ls []) := by
  obtain ⟨hx, hb, hml, hown, hts⟩ := C0.1
  have hK := C0.2.2.2.1
  intro A0 f0 f1 l3 l4 h _ _ _ hPD hS hl
  unfold f2_term_b50 at h
  refine lv_aload_n hx hb dX2_term_50 rfl (lv_at hl 1 rfl) ?_
  obtain ⟨z_2, ez_2, h⟩ := lvl h
  have kc := kt_X7_step l G h1 a1 f1 A1
  rw [← ez_2] at kc
  clear ez_2
  refine kVV (As := []) (rest := []) C0 (kc) gi_V_X2_62_X7_step (n := 0) rfl (by decide +kernel) rfl ⟨rfl, rfl, by simp only [rmGX2_anyOf, rmX7_step]; omega, by simp only [rmGX2_anyOf, rmX7_step]; omega⟩ hPD hS 8 7 rfl rfl rfl [8, 9] [0, 1, 2, 3, 4, 5, 6, 7] [0, 1, 2, 3, 4, 5, 6, 7, 8, 9] (wN := (wX2 G h0 a0 f0 A0 ++ (wX7 G h1 a1 z_2 A1))) rfl rfl rfl rfl rfl hl.1 (Nat.le_of_ble_eq_true rfl) dX2_term_51 (fun H locs hPD hS => ?_)
  refine lv_aload_n hx hb dX2_term_54 rfl (lv_at hl 0 rfl) ?_
  refine lv_aload_n hx hb dX2_term_55 rfl (lv_at hl 1 rfl) ?_
  refine lv_iload_n hx hb dX2_term_56 rfl (lv_at hl 2 rfl) ?_
  obtain ⟨q_3, hq_3, h⟩ := ob2 h
  refine kVV (As := [.ref h1, .int p2]) (rest := []) C0 (hrec5 l G h0 a0 h1 a1 f0 A0 z_2 A1 p2 hq_3) gi_V_X2_103_X2_factor (n := 2) rfl (by decide +kernel) rfl ⟨rfl, rfl, by simp only [rmGX2_anyOf]; omega, by simp only [rmGX2_anyOf]; omega⟩ hPD hS 0 2 rfl rfl rfl [0, 1, 2, 3, 4, 5, 6, 7, 8, 9] [] [0, 1, 2, 3, 4, 5, 6, 7, 8, 9] (wN := (wX2 G h0 a0 q_3.2.1 q_3.1 ++ (wX7 G h1 a1 q_3.2.2 A1))) rfl rfl rfl rfl rfl hl.1 (Nat.le_of_ble_eq_true rfl) dX2_term_57 (fun H locs hPD hS => ?_)
  refine lv_aload_n hx hb dX2_term_60 rfl (lv_at hl 0 rfl) ?_
  refine lv_iload hx hb dX2_term_61 (lv_at hl 4 rfl) ?_
  refine lv_iconst (v := 0) hx hb dX2_term_63 (by decide) ?_
  obtain ⟨q_4, hq_4, h⟩ := ob2 h
  refine kVI (As := [.int l4, .int 0]) (rest := []) C0 (kt_X2_order l G h0 a0 q_3.2.1 q_3.1 l4 0 hq_4) gi_V_X2_89_X2_order (n := 2) rfl (by decide +kernel) rfl ⟨rfl, rfl, by simp only [rmGX2_anyOf, rmX2_order]; omega, by simp only [rmGX2_anyOf, rmX2_order]; omega⟩ hPD hS 0 2 rfl rfl rfl [0, 1, 2, 3, 4, 5, 6, 7] [8, 9] [2, 3, 4, 5, 6, 7, 8, 9, 0, 1] (wN := (wX2 G h0 a0 q_4.2.2 q_4.2.1 ++ (wX7 G h1 a1 q_3.2.2 A1))) rfl rfl rfl rfl rfl hl.1 (Nat.le_of_ble_eq_true rfl) dX2_term_64 (fun H locs hPD hS => ?_)
  refine lv_pop hx hb dX2_term_67 rfl ?_
  refine lv_iinc (v := l3 + 1) (lv' := [(3, .int (l3 + 1)), (0, .ref h0), (1, .ref h1), (2, .int p2), (4, .int l4)]) hx hb dX2_term_68 hl (k := 3) rfl rfl (by decide) rfl (fun ls hl => ?_)
  refine lv_goto (tgt := 8) hx hb dX2_term_71 (by decide) ?_
  exact hk8 q_4.2.1 q_4.2.2 q_3.2.2 (l3 + 1) h _ _ _ hPD hS (lv_sub hl [1, 2, 3, 0] rfl)
set_option maxRecDepth 100000 in
set_option maxHeartbeats 4000000 in
theorem ww_f2_term_b8 {d : Nat} {rec : Nat → (Nat → Int32) → (Nat → Nat → Int32) → (Nat → Int32) → (Nat → Nat → Int32) → Int32 → Option ((Nat → Nat → Int32) × (Nat → Int32) × (Nat → Int32))} (hrec0 : ∀ (l : Launch) (G : Gp) (h0 : Nat) (a0 : Nat → Nat) (h1 : Nat) (a1 : Nat → Nat) (f0 : Nat → Int32) (A0 : Nat → Nat → Int32) (f1 : Nat → Int32) (A1 : Nat → Nat → Int32) (p2 : Int32), ∀ {r : (Nat → Nat → Int32) × (Nat → Int32) × (Nat → Int32)}, rec 0 f0 A0 f1 A1 p2 = some r → CtrV l yX2_anyOf cX2_anyOf 5 none (rmGX2_anyOf d) G [.ref h0, .ref h1, .int p2] (wX2 G h0 a0 f0 A0 ++ (wX7 G h1 a1 f1 A1)) (wX2 G h0 a0 r.2.1 r.1 ++ (wX7 G h1 a1 r.2.2 A1))) (hrec1 : ∀ (l : Launch) (G : Gp) (h0 : Nat) (a0 : Nat → Nat) (h1 : Nat) (a1 : Nat → Nat) (f0 : Nat → Int32) (A0 : Nat → Nat → Int32) (f1 : Nat → Int32) (A1 : Nat → Nat → Int32) (p2 : Int32), ∀ {r : (Nat → Nat → Int32) × (Nat → Int32) × (Nat → Int32)}, rec 1 f0 A0 f1 A1 p2 = some r → CtrV l yX2_allOf cX2_allOf 5 none (rmGX2_anyOf d) G [.ref h0, .ref h1, .int p2] (wX2 G h0 a0 f0 A0 ++ (wX7 G h1 a1 f1 A1)) (wX2 G h0 a0 r.2.1 r.1 ++ (wX7 G h1 a1 r.2.2 A1))) (hrec2 : ∀ (l : Launch) (G : Gp) (h0 : Nat) (a0 : Nat → Nat) (h1 : Nat) (a1 : Nat → Nat) (f0 : Nat → Int32) (A0 : Nat → Nat → Int32) (f1 : Nat → Int32) (A1 : Nat → Nat → Int32) (p2 : Int32), ∀ {r : (Nat → Nat → Int32) × (Nat → Int32) × (Nat → Int32)}, rec 2 f0 A0 f1 A1 p2 = some r → CtrV l yX2_test cX2_test 5 none (rmGX2_anyOf d) G [.ref h0, .ref h1, .int p2] (wX2 G h0 a0 f0 A0 ++ (wX7 G h1 a1 f1 A1)) (wX2 G h0 a0 r.2.1 r.1 ++ (wX7 G h1 a1 r.2.2 A1))) (hrec3 : ∀ (l : Launch) (G : Gp) (h0 : Nat) (a0 : Nat → Nat) (h1 : Nat) (a1 : Nat → Nat) (f0 : Nat → Int32) (A0 : Nat → Nat → Int32) (f1 : Nat → Int32) (A1 : Nat → Nat → Int32) (p2 : Int32), ∀ {r : (Nat → Nat → Int32) × (Nat → Int32) × (Nat → Int32)}, rec 3 f0 A0 f1 A1 p2 = some r → CtrV l yX2_sum cX2_sum 5 none (rmGX2_anyOf d) G [.ref h0, .ref h1, .int p2] (wX2 G h0 a0 f0 A0 ++ (wX7 G h1 a1 f1 A1)) (wX2 G h0 a0 r.2.1 r.1 ++ (wX7 G h1 a1 r.2.2 A1))) (hrec4 : ∀ (l : Launch) (G : Gp) (h0 : Nat) (a0 : Nat → Nat) (h1 : Nat) (a1 : Nat → Nat) (f0 : Nat → Int32) (A0 : Nat → Nat → Int32) (f1 : Nat → Int32) (A1 : Nat → Nat → Int32) (p2 : Int32), ∀ {r : (Nat → Nat → Int32) × (Nat → Int32) × (Nat → Int32)}, rec 4 f0 A0 f1 A1 p2 = some r → CtrV l yX2_term cX2_term 5 none (rmGX2_anyOf d) G [.ref h0, .ref h1, .int p2] (wX2 G h0 a0 f0 A0 ++ (wX7 G h1 a1 f1 A1)) (wX2 G h0 a0 r.2.1 r.1 ++ (wX7 G h1 a1 r.2.2 A1))) (hrec5 : ∀ (l : Launch) (G : Gp) (h0 : Nat) (a0 : Nat → Nat) (h1 : Nat) (a1 : Nat → Nat) (f0 : Nat → Int32) (A0 : Nat → Nat → Int32) (f1 : Nat → Int32) (A1 : Nat → Nat → Int32) (p2 : Int32), ∀ {r : (Nat → Nat → Int32) × (Nat → Int32) × (Nat → Int32)}, rec 5 f0 A0 f1 A1 p2 = some r → CtrV l yX2_factor cX2_factor 4 none (rmGX2_anyOf d) G [.ref h0, .ref h1, .int p2] (wX2 G h0 a0 f0 A0 ++ (wX7 G h1 a1 f1 A1)) (wX2 G h0 a0 r.2.1 r.1 ++ (wX7 G h1 a1 r.2.2 A1))) (hdd : True)  (C0 : Cx cX2_term 5 none RX2 p s m args meth c G DA) {h0 : Nat} {a0 : Nat → Nat} {h1 : Nat} {a1 : Nat → Nat} {A1 : Nat → Nat → Int32} {p2 : Int32}  {k8 : (Nat → Nat → Int32) → (Nat → Int32) → (Nat → Int32) → Int32 → Option ((Nat → Nat → Int32) × (Nat → Int32) × (Nat → Int32))} {res : (Nat → Nat → Int32) × (Nat → Int32) × (Nat → Int32)}  (hk8 : ∀ (A0 : Nat → Nat → Int32) (f0 : Nat → Int32) (f1 : Nat → Int32) (l3 : Int32), k8 A0 f0 f1 l3 = some res → ∀ (H : Heap) (locs : List Loc) (ls : Array Slot), WD G DA (wX2 G h0 a0 f0 A0 ++ (wX7 G h1 a1 f1 A1)) H → va_S DA s.heap H locs → lv_has ls 5 [(0, .ref h0), (1, .ref h1), (2, .int p2), (3, .int l3)] → W p l e (rmGX2_anyOf (d + 1)) s m args below meth c H locs 0 0 (MQ below (QV G DA (wX2 G h0 a0 res.2.1 res.1 ++ (wX7 G h1 a1 res.2.2 A1))) args s 0 0 DA) (F0 m 8 ls [])) : ∀ (A0 : Nat → Nat → Int32) (f0 : Nat → Int32) (f1 : Nat → Int32) (l3 : Int32), f2_term_b8 rec A1 p2  k8 A0 f0 f1 l3 = some res → ∀ (H : Heap) (locs : List Loc) (ls : Array Slot), WD G DA (wX2 G h0 a0 f0 A0 ++ (wX7 G h1 a1 f1 A1)) H → va_S DA s.heap H locs → lv_has ls 5 [(0, .ref h0), (1, .ref h1), (2, .int p2), (3, .int l3)] → W p l e (rmGX2_anyOf (d + 1)) s m args below meth c H locs 0 0 (MQ below (QV G DA (wX2 G h0 a0 res.2.1 res.1 ++ (wX7 G h1 a1 res.2.2 A1))) args s 0 0 DA) (F0 m 8 ls []) := by
  obtain ⟨hx, hb, hml, hown, hts⟩ := C0.1
  have hK := C0.2.2.2.1
  intro A0 f0 f1 l3 h _ _ _ hPD hS hl
  unfold f2_term_b8 at h
  refine lv_iload_n hx hb dX2_term_8 rfl (lv_at hl 3 rfl) ?_
  refine lv_sipush (v := 240) hx hb dX2_term_9 (by decide) ?_
  refine lv_icmp_ge (tgt := 74) hx hb dX2_term_12 (by decide) (fun cc1 => ?_) (fun cc1 => ?_)
  · have h := (if_pos cc1).symm.trans h
    obtain rfl := Option.some.inj h
    exact eV C0 hPD.1 hPD.2 hS dX2_term_74
  · have h := (if_neg cc1).symm.trans h
    refine lv_aload_n hx hb dX2_term_15 rfl (lv_at hl 1 rfl) ?_
    refine kVI (As := []) (rest := []) C0 (kt_X7_isFine l G h1 a1 f1 A1) gi_V_X2_73_X7_isFine (n := 0) rfl (by decide +kernel) rfl ⟨rfl, rfl, by simp only [rmGX2_anyOf, rmX7_isFine]; omega, by simp only [rmGX2_anyOf, rmX7_isFine]; omega⟩ hPD hS 8 7 rfl rfl rfl [8, 9] [0, 1, 2, 3, 4, 5, 6, 7] [0, 1, 2, 3, 4, 5, 6, 7, 8, 9] (wN := (wX2 G h0 a0 f0 A0 ++ (wX7 G h1 a1 f1 A1))) rfl rfl rfl rfl rfl hl.1 (Nat.le_of_ble_eq_true rfl) dX2_term_16 (fun H locs hPD hS => ?_)
    refine lv_if_eq (tgt := 74) hx hb dX2_term_19 (by decide) (fun cc1 => ?_) (fun cc1 => ?_)
    · have h := (if_pos cc1).symm.trans h
      obtain rfl := Option.some.inj h
      exact eV C0 hPD.1 hPD.2 hS dX2_term_74
    · have h := (if_neg cc1).symm.trans h
      refine lv_aload_n hx hb dX2_term_22 rfl (lv_at hl 1 rfl) ?_
      refine kVI (As := []) (rest := []) C0 (kt_X7_look l G h1 a1 f1 A1) gi_V_X2_54_X7_look (n := 0) rfl (by decide +kernel) rfl ⟨rfl, rfl, by simp only [rmGX2_anyOf, rmX7_look]; omega, by simp only [rmGX2_anyOf, rmX7_look]; omega⟩ hPD hS 8 7 rfl rfl rfl [8, 9] [0, 1, 2, 3, 4, 5, 6, 7] [0, 1, 2, 3, 4, 5, 6, 7, 8, 9] (wN := (wX2 G h0 a0 f0 A0 ++ (wX7 G h1 a1 f1 A1))) rfl rfl rfl rfl rfl hl.1 (Nat.le_of_ble_eq_true rfl) dX2_term_23 (fun H locs hPD hS => ?_)
      refine lv_istore (lv' := [(4, .int (f7_look f1 A1)), (0, .ref h0), (1, .ref h1), (2, .int p2), (3, .int l3)]) hx hb dX2_term_26 hl (by decide) rfl (fun ls hl => ?_)
      refine lv_iload hx hb dX2_term_28 (lv_at hl 0 rfl) ?_
      refine lv_bipush (v := 42) hx hb dX2_term_30 (by decide) ?_
      refine lv_icmp_eq (tgt := 50) hx hb dX2_term_32 (by decide) (fun cc1 => ?_) (fun cc1 => ?_)
      · have h := (if_pos cc1).symm.trans h
        exact ww_f2_term_b50 hrec0 hrec1 hrec2 hrec3 hrec4 hrec5 hdd C0 hk8 A0 f0 f1 l3 (f7_look f1 A1) h _ _ _ hPD hS (lv_sub hl [1, 2, 3, 4, 0] rfl)
      · have h := (if_neg cc1).symm.trans h
        refine lv_iload hx hb dX2_term_35 (lv_at hl 0 rfl) ?_
        refine lv_bipush (v := 47) hx hb dX2_term_37 (by decide) ?_
        refine lv_icmp_eq (tgt := 50) hx hb dX2_term_39 (by decide) (fun cc1 => ?_) (fun cc1 => ?_)
        · have h := (if_pos cc1).symm.trans h
          exact ww_f2_term_b50 hrec0 hrec1 hrec2 hrec3 hrec4 hrec5 hdd C0 hk8 A0 f0 f1 l3 (f7_look f1 A1) h _ _ _ hPD hS (lv_sub hl [1, 2, 3, 4, 0] rfl)
        · have h := (if_neg cc1).symm.trans h
          refine lv_iload hx hb dX2_term_42 (lv_at hl 0 rfl) ?_
          refine lv_bipush (v := 37) hx hb dX2_term_44 (by decide) ?_
          refine lv_icmp_eq (tgt := 50) hx hb dX2_term_46 (by decide) (fun cc1 => ?_) (fun cc1 => ?_)
          · have h := (if_pos cc1).symm.trans h
            exact ww_f2_term_b50 hrec0 hrec1 hrec2 hrec3 hrec4 hrec5 hdd C0 hk8 A0 f0 f1 l3 (f7_look f1 A1) h _ _ _ hPD hS (lv_sub hl [1, 2, 3, 4, 0] rfl)
          · have h := (if_neg cc1).symm.trans h
            obtain rfl := Option.some.inj h
            exact eV C0 hPD.1 hPD.2 hS dX2_term_49
set_option maxRecDepth 100000 in
set_option maxHeartbeats 4000000 in
theorem ww_f2_term_l8 {d : Nat} {rec : Nat → (Nat → Int32) → (Nat → Nat → Int32) → (Nat → Int32) → (Nat → Nat → Int32) → Int32 → Option ((Nat → Nat → Int32) × (Nat → Int32) × (Nat → Int32))} (hrec0 : ∀ (l : Launch) (G : Gp) (h0 : Nat) (a0 : Nat → Nat) (h1 : Nat) (a1 : Nat → Nat) (f0 : Nat → Int32) (A0 : Nat → Nat → Int32) (f1 : Nat → Int32) (A1 : Nat → Nat → Int32) (p2 : Int32), ∀ {r : (Nat → Nat → Int32) × (Nat → Int32) × (Nat → Int32)}, rec 0 f0 A0 f1 A1 p2 = some r → CtrV l yX2_anyOf cX2_anyOf 5 none (rmGX2_anyOf d) G [.ref h0, .ref h1, .int p2] (wX2 G h0 a0 f0 A0 ++ (wX7 G h1 a1 f1 A1)) (wX2 G h0 a0 r.2.1 r.1 ++ (wX7 G h1 a1 r.2.2 A1))) (hrec1 : ∀ (l : Launch) (G : Gp) (h0 : Nat) (a0 : Nat → Nat) (h1 : Nat) (a1 : Nat → Nat) (f0 : Nat → Int32) (A0 : Nat → Nat → Int32) (f1 : Nat → Int32) (A1 : Nat → Nat → Int32) (p2 : Int32), ∀ {r : (Nat → Nat → Int32) × (Nat → Int32) × (Nat → Int32)}, rec 1 f0 A0 f1 A1 p2 = some r → CtrV l yX2_allOf cX2_allOf 5 none (rmGX2_anyOf d) G [.ref h0, .ref h1, .int p2] (wX2 G h0 a0 f0 A0 ++ (wX7 G h1 a1 f1 A1)) (wX2 G h0 a0 r.2.1 r.1 ++ (wX7 G h1 a1 r.2.2 A1))) (hrec2 : ∀ (l : Launch) (G : Gp) (h0 : Nat) (a0 : Nat → Nat) (h1 : Nat) (a1 : Nat → Nat) (f0 : Nat → Int32) (A0 : Nat → Nat → Int32) (f1 : Nat → Int32) (A1 : Nat → Nat → Int32) (p2 : Int32), ∀ {r : (Nat → Nat → Int32) × (Nat → Int32) × (Nat → Int32)}, rec 2 f0 A0 f1 A1 p2 = some r → CtrV l yX2_test cX2_test 5 none (rmGX2_anyOf d) G [.ref h0, .ref h1, .int p2] (wX2 G h0 a0 f0 A0 ++ (wX7 G h1 a1 f1 A1)) (wX2 G h0 a0 r.2.1 r.1 ++ (wX7 G h1 a1 r.2.2 A1))) (hrec3 : ∀ (l : Launch) (G : Gp) (h0 : Nat) (a0 : Nat → Nat) (h1 : Nat) (a1 : Nat → Nat) (f0 : Nat → Int32) (A0 : Nat → Nat → Int32) (f1 : Nat → Int32) (A1 : Nat → Nat → Int32) (p2 : Int32), ∀ {r : (Nat → Nat → Int32) × (Nat → Int32) × (Nat → Int32)}, rec 3 f0 A0 f1 A1 p2 = some r → CtrV l yX2_sum cX2_sum 5 none (rmGX2_anyOf d) G [.ref h0, .ref h1, .int p2] (wX2 G h0 a0 f0 A0 ++ (wX7 G h1 a1 f1 A1)) (wX2 G h0 a0 r.2.1 r.1 ++ (wX7 G h1 a1 r.2.2 A1))) (hrec4 : ∀ (l : Launch) (G : Gp) (h0 : Nat) (a0 : Nat → Nat) (h1 : Nat) (a1 : Nat → Nat) (f0 : Nat → Int32) (A0 : Nat → Nat → Int32) (f1 : Nat → Int32) (A1 : Nat → Nat → Int32) (p2 : Int32), ∀ {r : (Nat → Nat → Int32) × (Nat → Int32) × (Nat → Int32)}, rec 4 f0 A0 f1 A1 p2 = some r → CtrV l yX2_term cX2_term 5 none (rmGX2_anyOf d) G [.ref h0, .ref h1, .int p2] (wX2 G h0 a0 f0 A0 ++ (wX7 G h1 a1 f1 A1)) (wX2 G h0 a0 r.2.1 r.1 ++ (wX7 G h1 a1 r.2.2 A1))) (hrec5 : ∀ (l : Launch) (G : Gp) (h0 : Nat) (a0 : Nat → Nat) (h1 : Nat) (a1 : Nat → Nat) (f0 : Nat → Int32) (A0 : Nat → Nat → Int32) (f1 : Nat → Int32) (A1 : Nat → Nat → Int32) (p2 : Int32), ∀ {r : (Nat → Nat → Int32) × (Nat → Int32) × (Nat → Int32)}, rec 5 f0 A0 f1 A1 p2 = some r → CtrV l yX2_factor cX2_factor 4 none (rmGX2_anyOf d) G [.ref h0, .ref h1, .int p2] (wX2 G h0 a0 f0 A0 ++ (wX7 G h1 a1 f1 A1)) (wX2 G h0 a0 r.2.1 r.1 ++ (wX7 G h1 a1 r.2.2 A1))) (hdd : True)  (C0 : Cx cX2_term 5 none RX2 p s m args meth c G DA) {h0 : Nat} {a0 : Nat → Nat} {h1 : Nat} {a1 : Nat → Nat} {A1 : Nat → Nat → Int32} {p2 : Int32}   {res : (Nat → Nat → Int32) × (Nat → Int32) × (Nat → Int32)}  : ∀ (n : Nat) (A0 : Nat → Nat → Int32) (f0 : Nat → Int32) (f1 : Nat → Int32) (l3 : Int32), f2_term_l8 rec A1 p2  n A0 f0 f1 l3 = some res → ∀ (H : Heap) (locs : List Loc) (ls : Array Slot), WD G DA (wX2 G h0 a0 f0 A0 ++ (wX7 G h1 a1 f1 A1)) H → va_S DA s.heap H locs → lv_has ls 5 [(0, .ref h0), (1, .ref h1), (2, .int p2), (3, .int l3)] → W p l e (rmGX2_anyOf (d + 1)) s m args below meth c H locs 0 0 (MQ below (QV G DA (wX2 G h0 a0 res.2.1 res.1 ++ (wX7 G h1 a1 res.2.2 A1))) args s 0 0 DA) (F0 m 8 ls []) := by
  intro n
  induction n with
  | zero => intro A0 f0 f1 l3 h; cases h
  | succ n ih => intro A0 f0 f1 l3 h; exact ww_f2_term_b8 hrec0 hrec1 hrec2 hrec3 hrec4 hrec5 hdd C0  ih A0 f0 f1 l3 h
set_option maxRecDepth 100000 in
set_option maxHeartbeats 4000000 in
theorem ko_X2_term {d : Nat} {rec : Nat → (Nat → Int32) → (Nat → Nat → Int32) → (Nat → Int32) → (Nat → Nat → Int32) → Int32 → Option ((Nat → Nat → Int32) × (Nat → Int32) × (Nat → Int32))} (hrec0 : ∀ (l : Launch) (G : Gp) (h0 : Nat) (a0 : Nat → Nat) (h1 : Nat) (a1 : Nat → Nat) (f0 : Nat → Int32) (A0 : Nat → Nat → Int32) (f1 : Nat → Int32) (A1 : Nat → Nat → Int32) (p2 : Int32), ∀ {r : (Nat → Nat → Int32) × (Nat → Int32) × (Nat → Int32)}, rec 0 f0 A0 f1 A1 p2 = some r → CtrV l yX2_anyOf cX2_anyOf 5 none (rmGX2_anyOf d) G [.ref h0, .ref h1, .int p2] (wX2 G h0 a0 f0 A0 ++ (wX7 G h1 a1 f1 A1)) (wX2 G h0 a0 r.2.1 r.1 ++ (wX7 G h1 a1 r.2.2 A1))) (hrec1 : ∀ (l : Launch) (G : Gp) (h0 : Nat) (a0 : Nat → Nat) (h1 : Nat) (a1 : Nat → Nat) (f0 : Nat → Int32) (A0 : Nat → Nat → Int32) (f1 : Nat → Int32) (A1 : Nat → Nat → Int32) (p2 : Int32), ∀ {r : (Nat → Nat → Int32) × (Nat → Int32) × (Nat → Int32)}, rec 1 f0 A0 f1 A1 p2 = some r → CtrV l yX2_allOf cX2_allOf 5 none (rmGX2_anyOf d) G [.ref h0, .ref h1, .int p2] (wX2 G h0 a0 f0 A0 ++ (wX7 G h1 a1 f1 A1)) (wX2 G h0 a0 r.2.1 r.1 ++ (wX7 G h1 a1 r.2.2 A1))) (hrec2 : ∀ (l : Launch) (G : Gp) (h0 : Nat) (a0 : Nat → Nat) (h1 : Nat) (a1 : Nat → Nat) (f0 : Nat → Int32) (A0 : Nat → Nat → Int32) (f1 : Nat → Int32) (A1 : Nat → Nat → Int32) (p2 : Int32), ∀ {r : (Nat → Nat → Int32) × (Nat → Int32) × (Nat → Int32)}, rec 2 f0 A0 f1 A1 p2 = some r → CtrV l yX2_test cX2_test 5 none (rmGX2_anyOf d) G [.ref h0, .ref h1, .int p2] (wX2 G h0 a0 f0 A0 ++ (wX7 G h1 a1 f1 A1)) (wX2 G h0 a0 r.2.1 r.1 ++ (wX7 G h1 a1 r.2.2 A1))) (hrec3 : ∀ (l : Launch) (G : Gp) (h0 : Nat) (a0 : Nat → Nat) (h1 : Nat) (a1 : Nat → Nat) (f0 : Nat → Int32) (A0 : Nat → Nat → Int32) (f1 : Nat → Int32) (A1 : Nat → Nat → Int32) (p2 : Int32), ∀ {r : (Nat → Nat → Int32) × (Nat → Int32) × (Nat → Int32)}, rec 3 f0 A0 f1 A1 p2 = some r → CtrV l yX2_sum cX2_sum 5 none (rmGX2_anyOf d) G [.ref h0, .ref h1, .int p2] (wX2 G h0 a0 f0 A0 ++ (wX7 G h1 a1 f1 A1)) (wX2 G h0 a0 r.2.1 r.1 ++ (wX7 G h1 a1 r.2.2 A1))) (hrec4 : ∀ (l : Launch) (G : Gp) (h0 : Nat) (a0 : Nat → Nat) (h1 : Nat) (a1 : Nat → Nat) (f0 : Nat → Int32) (A0 : Nat → Nat → Int32) (f1 : Nat → Int32) (A1 : Nat → Nat → Int32) (p2 : Int32), ∀ {r : (Nat → Nat → Int32) × (Nat → Int32) × (Nat → Int32)}, rec 4 f0 A0 f1 A1 p2 = some r → CtrV l yX2_term cX2_term 5 none (rmGX2_anyOf d) G [.ref h0, .ref h1, .int p2] (wX2 G h0 a0 f0 A0 ++ (wX7 G h1 a1 f1 A1)) (wX2 G h0 a0 r.2.1 r.1 ++ (wX7 G h1 a1 r.2.2 A1))) (hrec5 : ∀ (l : Launch) (G : Gp) (h0 : Nat) (a0 : Nat → Nat) (h1 : Nat) (a1 : Nat → Nat) (f0 : Nat → Int32) (A0 : Nat → Nat → Int32) (f1 : Nat → Int32) (A1 : Nat → Nat → Int32) (p2 : Int32), ∀ {r : (Nat → Nat → Int32) × (Nat → Int32) × (Nat → Int32)}, rec 5 f0 A0 f1 A1 p2 = some r → CtrV l yX2_factor cX2_factor 4 none (rmGX2_anyOf d) G [.ref h0, .ref h1, .int p2] (wX2 G h0 a0 f0 A0 ++ (wX7 G h1 a1 f1 A1)) (wX2 G h0 a0 r.2.1 r.1 ++ (wX7 G h1 a1 r.2.2 A1))) (hdd : True) (l : Launch) (G : Gp) (h0 : Nat) (a0 : Nat → Nat) (h1 : Nat) (a1 : Nat → Nat) (f0 : Nat → Int32) (A0 : Nat → Nat → Int32) (f1 : Nat → Int32) (A1 : Nat → Nat → Int32) (p2 : Int32) : ∀ {r : (Nat → Nat → Int32) × (Nat → Int32) × (Nat → Int32)}, f2_term rec f0 A0 f1 A1 p2 = some r → CtrV l yX2_term cX2_term 5 none (rmGX2_anyOf (d + 1)) G [.ref h0, .ref h1, .int p2] (wX2 G h0 a0 f0 A0 ++ (wX7 G h1 a1 f1 A1)) (wX2 G h0 a0 r.2.1 r.1 ++ (wX7 G h1 a1 r.2.2 A1)) := by
  intro res h
  refine ctrV_of (cc := cX2_term) (maxL := 5) (ret := none) (by decide +kernel) rfl (Nat.le_of_ble_eq_true rfl) (fun p e s m below meth c DA C0 hP hD ls hl => ?_)
  have hPD : WD G DA (wX2 G h0 a0 f0 A0 ++ (wX7 G h1 a1 f1 A1)) s.heap := ⟨hP, hD⟩
  have hS : va_S DA s.heap s.heap [] := va_S.rf
  have hl : lv_has ls 5 [(0, .ref h0), (1, .ref h1), (2, .int p2)] := hl
  obtain ⟨hx, hb, hml, hown, hts⟩ := C0.1
  have hK := C0.2.2.2.1
  unfold f2_term at h
  refine lv_aload_n hx hb dX2_term_0 rfl (lv_at hl 0 rfl) ?_
  refine lv_aload_n hx hb dX2_term_1 rfl (lv_at hl 1 rfl) ?_
  refine lv_iload_n hx hb dX2_term_2 rfl (lv_at hl 2 rfl) ?_
  obtain ⟨q_1, hq_1, h⟩ := ob2 h
  refine kVV (As := [.ref h1, .int p2]) (rest := []) C0 (hrec5 l G h0 a0 h1 a1 f0 A0 f1 A1 p2 hq_1) gi_V_X2_103_X2_factor (n := 2) rfl (by decide +kernel) rfl ⟨rfl, rfl, by simp only [rmGX2_anyOf]; omega, by simp only [rmGX2_anyOf]; omega⟩ hPD hS 0 2 rfl rfl rfl [0, 1, 2, 3, 4, 5, 6, 7, 8, 9] [] [0, 1, 2, 3, 4, 5, 6, 7, 8, 9] (wN := (wX2 G h0 a0 q_1.2.1 q_1.1 ++ (wX7 G h1 a1 q_1.2.2 A1))) rfl rfl rfl rfl rfl hl.1 (Nat.le_of_ble_eq_true rfl) dX2_term_3 (fun H locs hPD hS => ?_)
  refine lv_iconst (v := 0) hx hb dX2_term_6 (by decide) ?_
  refine lv_istore_n (lv' := [(3, .int 0), (0, .ref h0), (1, .ref h1), (2, .int p2)]) hx hb dX2_term_7 rfl hl (by decide) rfl (fun ls hl => ?_)
  exact ww_f2_term_l8 hrec0 hrec1 hrec2 hrec3 hrec4 hrec5 hdd C0 NF q_1.1 q_1.2.1 q_1.2.2 0 h _ _ _ hPD hS (lv_sub hl [1, 2, 3, 0] rfl)

set_option maxRecDepth 100000 in
set_option maxHeartbeats 4000000 in
theorem ko_X2_factor {d : Nat} {rec : Nat → (Nat → Int32) → (Nat → Nat → Int32) → (Nat → Int32) → (Nat → Nat → Int32) → Int32 → Option ((Nat → Nat → Int32) × (Nat → Int32) × (Nat → Int32))} (hrec0 : ∀ (l : Launch) (G : Gp) (h0 : Nat) (a0 : Nat → Nat) (h1 : Nat) (a1 : Nat → Nat) (f0 : Nat → Int32) (A0 : Nat → Nat → Int32) (f1 : Nat → Int32) (A1 : Nat → Nat → Int32) (p2 : Int32), ∀ {r : (Nat → Nat → Int32) × (Nat → Int32) × (Nat → Int32)}, rec 0 f0 A0 f1 A1 p2 = some r → CtrV l yX2_anyOf cX2_anyOf 5 none (rmGX2_anyOf d) G [.ref h0, .ref h1, .int p2] (wX2 G h0 a0 f0 A0 ++ (wX7 G h1 a1 f1 A1)) (wX2 G h0 a0 r.2.1 r.1 ++ (wX7 G h1 a1 r.2.2 A1))) (hrec1 : ∀ (l : Launch) (G : Gp) (h0 : Nat) (a0 : Nat → Nat) (h1 : Nat) (a1 : Nat → Nat) (f0 : Nat → Int32) (A0 : Nat → Nat → Int32) (f1 : Nat → Int32) (A1 : Nat → Nat → Int32) (p2 : Int32), ∀ {r : (Nat → Nat → Int32) × (Nat → Int32) × (Nat → Int32)}, rec 1 f0 A0 f1 A1 p2 = some r → CtrV l yX2_allOf cX2_allOf 5 none (rmGX2_anyOf d) G [.ref h0, .ref h1, .int p2] (wX2 G h0 a0 f0 A0 ++ (wX7 G h1 a1 f1 A1)) (wX2 G h0 a0 r.2.1 r.1 ++ (wX7 G h1 a1 r.2.2 A1))) (hrec2 : ∀ (l : Launch) (G : Gp) (h0 : Nat) (a0 : Nat → Nat) (h1 : Nat) (a1 : Nat → Nat) (f0 : Nat → Int32) (A0 : Nat → Nat → Int32) (f1 : Nat → Int32) (A1 : Nat → Nat → Int32) (p2 : Int32), ∀ {r : (Nat → Nat → Int32) × (Nat → Int32) × (Nat → Int32)}, rec 2 f0 A0 f1 A1 p2 = some r → CtrV l yX2_test cX2_test 5 none (rmGX2_anyOf d) G [.ref h0, .ref h1, .int p2] (wX2 G h0 a0 f0 A0 ++ (wX7 G h1 a1 f1 A1)) (wX2 G h0 a0 r.2.1 r.1 ++ (wX7 G h1 a1 r.2.2 A1))) (hrec3 : ∀ (l : Launch) (G : Gp) (h0 : Nat) (a0 : Nat → Nat) (h1 : Nat) (a1 : Nat → Nat) (f0 : Nat → Int32) (A0 : Nat → Nat → Int32) (f1 : Nat → Int32) (A1 : Nat → Nat → Int32) (p2 : Int32), ∀ {r : (Nat → Nat → Int32) × (Nat → Int32) × (Nat → Int32)}, rec 3 f0 A0 f1 A1 p2 = some r → CtrV l yX2_sum cX2_sum 5 none (rmGX2_anyOf d) G [.ref h0, .ref h1, .int p2] (wX2 G h0 a0 f0 A0 ++ (wX7 G h1 a1 f1 A1)) (wX2 G h0 a0 r.2.1 r.1 ++ (wX7 G h1 a1 r.2.2 A1))) (hrec4 : ∀ (l : Launch) (G : Gp) (h0 : Nat) (a0 : Nat → Nat) (h1 : Nat) (a1 : Nat → Nat) (f0 : Nat → Int32) (A0 : Nat → Nat → Int32) (f1 : Nat → Int32) (A1 : Nat → Nat → Int32) (p2 : Int32), ∀ {r : (Nat → Nat → Int32) × (Nat → Int32) × (Nat → Int32)}, rec 4 f0 A0 f1 A1 p2 = some r → CtrV l yX2_term cX2_term 5 none (rmGX2_anyOf d) G [.ref h0, .ref h1, .int p2] (wX2 G h0 a0 f0 A0 ++ (wX7 G h1 a1 f1 A1)) (wX2 G h0 a0 r.2.1 r.1 ++ (wX7 G h1 a1 r.2.2 A1))) (hrec5 : ∀ (l : Launch) (G : Gp) (h0 : Nat) (a0 : Nat → Nat) (h1 : Nat) (a1 : Nat → Nat) (f0 : Nat → Int32) (A0 : Nat → Nat → Int32) (f1 : Nat → Int32) (A1 : Nat → Nat → Int32) (p2 : Int32), ∀ {r : (Nat → Nat → Int32) × (Nat → Int32) × (Nat → Int32)}, rec 5 f0 A0 f1 A1 p2 = some r → CtrV l yX2_factor cX2_factor 4 none (rmGX2_anyOf d) G [.ref h0, .ref h1, .int p2] (wX2 G h0 a0 f0 A0 ++ (wX7 G h1 a1 f1 A1)) (wX2 G h0 a0 r.2.1 r.1 ++ (wX7 G h1 a1 r.2.2 A1))) (hdd : True) (l : Launch) (G : Gp) (h0 : Nat) (a0 : Nat → Nat) (h1 : Nat) (a1 : Nat → Nat) (f0 : Nat → Int32) (A0 : Nat → Nat → Int32) (f1 : Nat → Int32) (A1 : Nat → Nat → Int32) (p2 : Int32) : ∀ {r : (Nat → Nat → Int32) × (Nat → Int32) × (Nat → Int32)}, f2_factor rec f0 A0 f1 A1 p2 = some r → CtrV l yX2_factor cX2_factor 4 none (rmGX2_anyOf (d + 1)) G [.ref h0, .ref h1, .int p2] (wX2 G h0 a0 f0 A0 ++ (wX7 G h1 a1 f1 A1)) (wX2 G h0 a0 r.2.1 r.1 ++ (wX7 G h1 a1 r.2.2 A1)) := by
  intro res h
  refine ctrV_of (cc := cX2_factor) (maxL := 4) (ret := none) (by decide +kernel) rfl (Nat.le_of_ble_eq_true rfl) (fun p e s m below meth c DA C0 hP hD ls hl => ?_)
  have hPD : WD G DA (wX2 G h0 a0 f0 A0 ++ (wX7 G h1 a1 f1 A1)) s.heap := ⟨hP, hD⟩
  have hS : va_S DA s.heap s.heap [] := va_S.rf
  have hl : lv_has ls 4 [(0, .ref h0), (1, .ref h1), (2, .int p2)] := hl
  obtain ⟨hx, hb, hml, hown, hts⟩ := C0.1
  have hK := C0.2.2.2.1
  unfold f2_factor at h
  refine lv_aload_n hx hb dX2_factor_0 rfl (lv_at hl 1 rfl) ?_
  refine kVI (As := []) (rest := []) C0 (kt_X7_look l G h1 a1 f1 A1) gi_V_X2_54_X7_look (n := 0) rfl (by decide +kernel) rfl ⟨rfl, rfl, by simp only [rmGX2_anyOf, rmX7_look]; omega, by simp only [rmGX2_anyOf, rmX7_look]; omega⟩ hPD hS 8 7 rfl rfl rfl [8, 9] [0, 1, 2, 3, 4, 5, 6, 7] [0, 1, 2, 3, 4, 5, 6, 7, 8, 9] (wN := (wX2 G h0 a0 f0 A0 ++ (wX7 G h1 a1 f1 A1))) rfl rfl rfl rfl rfl hl.1 (Nat.le_of_ble_eq_true rfl) dX2_factor_1 (fun H locs hPD hS => ?_)
  refine lv_istore_n (lv' := [(3, .int (f7_look f1 A1)), (0, .ref h0), (1, .ref h1), (2, .int p2)]) hx hb dX2_factor_4 rfl hl (by decide) rfl (fun ls hl => ?_)
  refine lv_iload_n hx hb dX2_factor_5 rfl (lv_at hl 0 rfl) ?_
  refine lv_bipush (v := 91) hx hb dX2_factor_6 (by decide) ?_
  refine lv_icmp_ne (tgt := 36) hx hb dX2_factor_8 (by decide) (fun cc1 => ?_) (fun cc1 => ?_)
  · have h := (if_neg cc1).symm.trans h
    refine lv_iload_n hx hb dX2_factor_36 rfl (lv_at hl 0 rfl) ?_
    obtain ⟨q_1, hq_1, h⟩ := ob2 h
    refine kSI (As := [.int (f7_look f1 A1)]) (rest := []) C0 (kt_X7_isDigit l G  (f7_look f1 A1) hq_1) gi_S_X2_106_X7_isDigit (n := 1) rfl (by decide +kernel) ⟨rfl, rfl, by simp only [rmGX2_anyOf, rmX7_isDigit]; omega, by simp only [rmGX2_anyOf, rmX7_isDigit]; omega⟩ hPD hS [] [0, 1, 2, 3, 4, 5, 6, 7, 8, 9] [0, 1, 2, 3, 4, 5, 6, 7, 8, 9] (wN := (wX2 G h0 a0 f0 A0 ++ (wX7 G h1 a1 f1 A1))) rfl rfl rfl rfl rfl hl.1 (Nat.le_of_ble_eq_true rfl) dX2_factor_37 (fun H locs hPD hS => ?_)
    refine lv_if_eq (tgt := 57) hx hb dX2_factor_40 (by decide) (fun cc1 => ?_) (fun cc1 => ?_)
    · have h := (if_pos cc1).symm.trans h
      refine lv_iload_n hx hb dX2_factor_57 rfl (lv_at hl 0 rfl) ?_
      refine kSI (As := [.int (f7_look f1 A1)]) (rest := []) C0 (kt_X2_letterOf l G  (f7_look f1 A1)) gi_S_X2_113_X2_letterOf (n := 1) rfl (by decide +kernel) ⟨rfl, rfl, by simp only [rmGX2_anyOf, rmX2_letterOf]; omega, by simp only [rmGX2_anyOf, rmX2_letterOf]; omega⟩ hPD hS [] [0, 1, 2, 3, 4, 5, 6, 7, 8, 9] [0, 1, 2, 3, 4, 5, 6, 7, 8, 9] (wN := (wX2 G h0 a0 f0 A0 ++ (wX7 G h1 a1 f1 A1))) rfl rfl rfl rfl rfl hl.1 (Nat.le_of_ble_eq_true rfl) dX2_factor_58 (fun H locs hPD hS => ?_)
      refine lv_iconst (v := (-1)) hx hb dX2_factor_61 (by decide) ?_
      refine lv_icmp_eq (tgt := 82) hx hb dX2_factor_62 (by decide) (fun cc1 => ?_) (fun cc1 => ?_)
      · have h := (if_pos cc1).symm.trans h
        refine lv_aload_n hx hb dX2_factor_82 rfl (lv_at hl 2 rfl) ?_
        refine lv_iconst (v := 1) hx hb dX2_factor_83 (by decide) ?_
        obtain ⟨z_2, ez_2, h⟩ := lvl h
        have kc := kt_X7_fail l G h1 a1 f1 A1 1
        rw [← ez_2] at kc
        clear ez_2
        refine kVV (As := [.int 1]) (rest := []) C0 (kc) gi_V_X2_58_X7_fail (n := 1) rfl (by decide +kernel) rfl ⟨rfl, rfl, by simp only [rmGX2_anyOf, rmX7_fail]; omega, by simp only [rmGX2_anyOf, rmX7_fail]; omega⟩ hPD hS 8 7 rfl rfl rfl [8, 9] [0, 1, 2, 3, 4, 5, 6, 7] [0, 1, 2, 3, 4, 5, 6, 7, 8, 9] (wN := (wX2 G h0 a0 f0 A0 ++ (wX7 G h1 a1 z_2 A1))) rfl rfl rfl rfl rfl hl.1 (Nat.le_of_ble_eq_true rfl) dX2_factor_84 (fun H locs hPD hS => ?_)
        obtain rfl := Option.some.inj h
        exact eV C0 hPD.1 hPD.2 hS dX2_factor_87
      · have h := (if_neg cc1).symm.trans h
        refine lv_aload_n hx hb dX2_factor_65 rfl (lv_at hl 1 rfl) ?_
        refine lv_iconst (v := 2) hx hb dX2_factor_66 (by decide) ?_
        refine lv_iload_n hx hb dX2_factor_67 rfl (lv_at hl 0 rfl) ?_
        refine kSI (As := [.int (f7_look f1 A1)]) (rest := [.int 2, .ref h0]) C0 (kt_X2_letterOf l G  (f7_look f1 A1)) gi_S_X2_113_X2_letterOf (n := 1) rfl (by decide +kernel) ⟨rfl, rfl, by simp only [rmGX2_anyOf, rmX2_letterOf]; omega, by simp only [rmGX2_anyOf, rmX2_letterOf]; omega⟩ hPD hS [] [0, 1, 2, 3, 4, 5, 6, 7, 8, 9] [0, 1, 2, 3, 4, 5, 6, 7, 8, 9] (wN := (wX2 G h0 a0 f0 A0 ++ (wX7 G h1 a1 f1 A1))) rfl rfl rfl rfl rfl hl.1 (Nat.le_of_ble_eq_true rfl) dX2_factor_68 (fun H locs hPD hS => ?_)
        obtain ⟨q_3, hq_3, h⟩ := ob2 h
        refine kVI (As := [.int 2, .int (f2_letterOf (f7_look f1 A1))]) (rest := []) C0 (kt_X2_order l G h0 a0 f0 A0 2 (f2_letterOf (f7_look f1 A1)) hq_3) gi_V_X2_89_X2_order (n := 2) rfl (by decide +kernel) rfl ⟨rfl, rfl, by simp only [rmGX2_anyOf, rmX2_order]; omega, by simp only [rmGX2_anyOf, rmX2_order]; omega⟩ hPD hS 0 2 rfl rfl rfl [0, 1, 2, 3, 4, 5, 6, 7] [8, 9] [2, 3, 4, 5, 6, 7, 8, 9, 0, 1] (wN := (wX2 G h0 a0 q_3.2.2 q_3.2.1 ++ (wX7 G h1 a1 f1 A1))) rfl rfl rfl rfl rfl hl.1 (Nat.le_of_ble_eq_true rfl) dX2_factor_71 (fun H locs hPD hS => ?_)
        refine lv_pop hx hb dX2_factor_74 rfl ?_
        refine lv_aload_n hx hb dX2_factor_75 rfl (lv_at hl 2 rfl) ?_
        obtain ⟨z_4, ez_4, h⟩ := lvl h
        have kc := kt_X7_step l G h1 a1 f1 A1
        rw [← ez_4] at kc
        clear ez_4
        refine kVV (As := []) (rest := []) C0 (kc) gi_V_X2_62_X7_step (n := 0) rfl (by decide +kernel) rfl ⟨rfl, rfl, by simp only [rmGX2_anyOf, rmX7_step]; omega, by simp only [rmGX2_anyOf, rmX7_step]; omega⟩ hPD hS 8 7 rfl rfl rfl [8, 9] [0, 1, 2, 3, 4, 5, 6, 7] [0, 1, 2, 3, 4, 5, 6, 7, 8, 9] (wN := (wX2 G h0 a0 q_3.2.2 q_3.2.1 ++ (wX7 G h1 a1 z_4 A1))) rfl rfl rfl rfl rfl hl.1 (Nat.le_of_ble_eq_true rfl) dX2_factor_76 (fun H locs hPD hS => ?_)
        refine lv_goto (tgt := 87) hx hb dX2_factor_79 (by decide) ?_
        obtain rfl := Option.some.inj h
        exact eV C0 hPD.1 hPD.2 hS dX2_factor_87
    · have h := (if_neg cc1).symm.trans h
      refine lv_aload_n hx hb dX2_factor_43 rfl (lv_at hl 1 rfl) ?_
      refine lv_iconst (v := 1) hx hb dX2_factor_44 (by decide) ?_
      refine lv_aload_n hx hb dX2_factor_45 rfl (lv_at hl 2 rfl) ?_
      refine lv_iconst (v := 5) hx hb dX2_factor_46 (by decide) ?_
      obtain ⟨q_5, hq_5, h⟩ := ob2 h
      refine kVI (As := [.int 5]) (rest := [.int 1, .ref h0]) C0 (kt_X7_number l G h1 a1 f1 A1 5 hq_5) gi_V_X2_109_X7_number (n := 1) rfl (by decide +kernel) rfl ⟨rfl, rfl, by simp only [rmGX2_anyOf, rmX7_number]; omega, by simp only [rmGX2_anyOf, rmX7_number]; omega⟩ hPD hS 8 7 rfl rfl rfl [8, 9] [0, 1, 2, 3, 4, 5, 6, 7] [0, 1, 2, 3, 4, 5, 6, 7, 8, 9] (wN := (wX2 G h0 a0 f0 A0 ++ (wX7 G h1 a1 q_5.2 A1))) rfl rfl rfl rfl rfl hl.1 (Nat.le_of_ble_eq_true rfl) dX2_factor_47 (fun H locs hPD hS => ?_)
      obtain ⟨q_6, hq_6, h⟩ := ob2 h
      refine kVI (As := [.int 1, .int q_5.1]) (rest := []) C0 (kt_X2_order l G h0 a0 f0 A0 1 q_5.1 hq_6) gi_V_X2_89_X2_order (n := 2) rfl (by decide +kernel) rfl ⟨rfl, rfl, by simp only [rmGX2_anyOf, rmX2_order]; omega, by simp only [rmGX2_anyOf, rmX2_order]; omega⟩ hPD hS 0 2 rfl rfl rfl [0, 1, 2, 3, 4, 5, 6, 7] [8, 9] [2, 3, 4, 5, 6, 7, 8, 9, 0, 1] (wN := (wX2 G h0 a0 q_6.2.2 q_6.2.1 ++ (wX7 G h1 a1 q_5.2 A1))) rfl rfl rfl rfl rfl hl.1 (Nat.le_of_ble_eq_true rfl) dX2_factor_50 (fun H locs hPD hS => ?_)
      refine lv_pop hx hb dX2_factor_53 rfl ?_
      refine lv_goto (tgt := 87) hx hb dX2_factor_54 (by decide) ?_
      obtain rfl := Option.some.inj h
      exact eV C0 hPD.1 hPD.2 hS dX2_factor_87
  · have h := (if_pos cc1).symm.trans h
    refine lv_aload_n hx hb dX2_factor_11 rfl (lv_at hl 2 rfl) ?_
    refine lv_iload_n hx hb dX2_factor_12 rfl (lv_at hl 3 rfl) ?_
    obtain ⟨q_7, hq_7, h⟩ := ob2 h
    refine kSI (As := [.ref h1, .int p2]) (rest := []) C0 (kt_X2_opens l G h1 a1 f1 A1 p2 hq_7) gi_S_X2_96_X2_opens (n := 2) rfl (by decide +kernel) ⟨rfl, rfl, by simp only [rmGX2_anyOf, rmX2_opens]; omega, by simp only [rmGX2_anyOf, rmX2_opens]; omega⟩ hPD hS [8, 9] [0, 1, 2, 3, 4, 5, 6, 7] [0, 1, 2, 3, 4, 5, 6, 7, 8, 9] (wN := (wX2 G h0 a0 f0 A0 ++ (wX7 G h1 a1 q_7.2 A1))) rfl rfl rfl rfl rfl hl.1 (Nat.le_of_ble_eq_true rfl) dX2_factor_13 (fun H locs hPD hS => ?_)
    refine lv_if_eq (tgt := 87) hx hb dX2_factor_16 (by decide) (fun cc1 => ?_) (fun cc1 => ?_)
    · have h := (if_pos cc1).symm.trans h
      obtain rfl := Option.some.inj h
      exact eV C0 hPD.1 hPD.2 hS dX2_factor_87
    · have h := (if_neg cc1).symm.trans h
      refine lv_aload_n hx hb dX2_factor_19 rfl (lv_at hl 1 rfl) ?_
      refine lv_aload_n hx hb dX2_factor_20 rfl (lv_at hl 2 rfl) ?_
      refine lv_iload_n hx hb dX2_factor_21 rfl (lv_at hl 3 rfl) ?_
      refine lv_iconst (v := 1) hx hb dX2_factor_22 (by decide) ?_
      refine lv_iadd hx hb dX2_factor_23 ?_
      obtain ⟨q_8, hq_8, h⟩ := ob2 h
      refine kVV (As := [.ref h1, .int (p2 + 1)]) (rest := []) C0 (hrec3 l G h0 a0 h1 a1 f0 A0 q_7.2 A1 (p2 + 1) hq_8) gi_V_X2_69_X2_sum (n := 2) rfl (by decide +kernel) rfl ⟨rfl, rfl, by simp only [rmGX2_anyOf]; omega, by simp only [rmGX2_anyOf]; omega⟩ hPD hS 0 2 rfl rfl rfl [0, 1, 2, 3, 4, 5, 6, 7, 8, 9] [] [0, 1, 2, 3, 4, 5, 6, 7, 8, 9] (wN := (wX2 G h0 a0 q_8.2.1 q_8.1 ++ (wX7 G h1 a1 q_8.2.2 A1))) rfl rfl rfl rfl rfl hl.1 (Nat.le_of_ble_eq_true rfl) dX2_factor_24 (fun H locs hPD hS => ?_)
      refine lv_aload_n hx hb dX2_factor_27 rfl (lv_at hl 2 rfl) ?_
      refine lv_bipush (v := 93) hx hb dX2_factor_28 (by decide) ?_
      obtain ⟨q_9, hq_9, h⟩ := ob2 h
      refine kSV (As := [.ref h1, .int 93]) (rest := []) C0 (kt_X2_close l G h1 a1 q_8.2.2 A1 93 hq_9) gi_S_X2_83_X2_close (n := 2) rfl (by decide +kernel) ⟨rfl, rfl, by simp only [rmGX2_anyOf, rmX2_close]; omega, by simp only [rmGX2_anyOf, rmX2_close]; omega⟩ hPD hS [8, 9] [0, 1, 2, 3, 4, 5, 6, 7] [0, 1, 2, 3, 4, 5, 6, 7, 8, 9] (wN := (wX2 G h0 a0 q_8.2.1 q_8.1 ++ (wX7 G h1 a1 q_9 A1))) rfl rfl rfl rfl rfl hl.1 (Nat.le_of_ble_eq_true rfl) dX2_factor_30 (fun H locs hPD hS => ?_)
      refine lv_goto (tgt := 87) hx hb dX2_factor_33 (by decide) ?_
      obtain rfl := Option.some.inj h
      exact eV C0 hPD.1 hPD.2 hS dX2_factor_87

set_option maxRecDepth 100000 in
set_option maxHeartbeats 4000000 in
theorem kg_X2_anyOf : ∀ d : Nat, (∀ (l : Launch) (G : Gp) (h0 : Nat) (a0 : Nat → Nat) (h1 : Nat) (a1 : Nat → Nat) (f0 : Nat → Int32) (A0 : Nat → Nat → Int32) (f1 : Nat → Int32) (A1 : Nat → Nat → Int32) (p2 : Int32), ∀ {r : (Nat → Nat → Int32) × (Nat → Int32) × (Nat → Int32)}, f2_anyOf_rec d 0 f0 A0 f1 A1 p2 = some r → CtrV l yX2_anyOf cX2_anyOf 5 none (rmGX2_anyOf d) G [.ref h0, .ref h1, .int p2] (wX2 G h0 a0 f0 A0 ++ (wX7 G h1 a1 f1 A1)) (wX2 G h0 a0 r.2.1 r.1 ++ (wX7 G h1 a1 r.2.2 A1))) ∧ (∀ (l : Launch) (G : Gp) (h0 : Nat) (a0 : Nat → Nat) (h1 : Nat) (a1 : Nat → Nat) (f0 : Nat → Int32) (A0 : Nat → Nat → Int32) (f1 : Nat → Int32) (A1 : Nat → Nat → Int32) (p2 : Int32), ∀ {r : (Nat → Nat → Int32) × (Nat → Int32) × (Nat → Int32)}, f2_anyOf_rec d 1 f0 A0 f1 A1 p2 = some r → CtrV l yX2_allOf cX2_allOf 5 none (rmGX2_anyOf d) G [.ref h0, .ref h1, .int p2] (wX2 G h0 a0 f0 A0 ++ (wX7 G h1 a1 f1 A1)) (wX2 G h0 a0 r.2.1 r.1 ++ (wX7 G h1 a1 r.2.2 A1))) ∧ (∀ (l : Launch) (G : Gp) (h0 : Nat) (a0 : Nat → Nat) (h1 : Nat) (a1 : Nat → Nat) (f0 : Nat → Int32) (A0 : Nat → Nat → Int32) (f1 : Nat → Int32) (A1 : Nat → Nat → Int32) (p2 : Int32), ∀ {r : (Nat → Nat → Int32) × (Nat → Int32) × (Nat → Int32)}, f2_anyOf_rec d 2 f0 A0 f1 A1 p2 = some r → CtrV l yX2_test cX2_test 5 none (rmGX2_anyOf d) G [.ref h0, .ref h1, .int p2] (wX2 G h0 a0 f0 A0 ++ (wX7 G h1 a1 f1 A1)) (wX2 G h0 a0 r.2.1 r.1 ++ (wX7 G h1 a1 r.2.2 A1))) ∧ (∀ (l : Launch) (G : Gp) (h0 : Nat) (a0 : Nat → Nat) (h1 : Nat) (a1 : Nat → Nat) (f0 : Nat → Int32) (A0 : Nat → Nat → Int32) (f1 : Nat → Int32) (A1 : Nat → Nat → Int32) (p2 : Int32), ∀ {r : (Nat → Nat → Int32) × (Nat → Int32) × (Nat → Int32)}, f2_anyOf_rec d 3 f0 A0 f1 A1 p2 = some r → CtrV l yX2_sum cX2_sum 5 none (rmGX2_anyOf d) G [.ref h0, .ref h1, .int p2] (wX2 G h0 a0 f0 A0 ++ (wX7 G h1 a1 f1 A1)) (wX2 G h0 a0 r.2.1 r.1 ++ (wX7 G h1 a1 r.2.2 A1))) ∧ (∀ (l : Launch) (G : Gp) (h0 : Nat) (a0 : Nat → Nat) (h1 : Nat) (a1 : Nat → Nat) (f0 : Nat → Int32) (A0 : Nat → Nat → Int32) (f1 : Nat → Int32) (A1 : Nat → Nat → Int32) (p2 : Int32), ∀ {r : (Nat → Nat → Int32) × (Nat → Int32) × (Nat → Int32)}, f2_anyOf_rec d 4 f0 A0 f1 A1 p2 = some r → CtrV l yX2_term cX2_term 5 none (rmGX2_anyOf d) G [.ref h0, .ref h1, .int p2] (wX2 G h0 a0 f0 A0 ++ (wX7 G h1 a1 f1 A1)) (wX2 G h0 a0 r.2.1 r.1 ++ (wX7 G h1 a1 r.2.2 A1))) ∧ (∀ (l : Launch) (G : Gp) (h0 : Nat) (a0 : Nat → Nat) (h1 : Nat) (a1 : Nat → Nat) (f0 : Nat → Int32) (A0 : Nat → Nat → Int32) (f1 : Nat → Int32) (A1 : Nat → Nat → Int32) (p2 : Int32), ∀ {r : (Nat → Nat → Int32) × (Nat → Int32) × (Nat → Int32)}, f2_anyOf_rec d 5 f0 A0 f1 A1 p2 = some r → CtrV l yX2_factor cX2_factor 4 none (rmGX2_anyOf d) G [.ref h0, .ref h1, .int p2] (wX2 G h0 a0 f0 A0 ++ (wX7 G h1 a1 f1 A1)) (wX2 G h0 a0 r.2.1 r.1 ++ (wX7 G h1 a1 r.2.2 A1))) := by
  intro d
  induction d with
  | zero => exact ⟨fun _ _ _ _ _ _ _ _ _ _ _ r h => (by cases h), fun _ _ _ _ _ _ _ _ _ _ _ r h => (by cases h), fun _ _ _ _ _ _ _ _ _ _ _ r h => (by cases h), fun _ _ _ _ _ _ _ _ _ _ _ r h => (by cases h), fun _ _ _ _ _ _ _ _ _ _ _ r h => (by cases h), fun _ _ _ _ _ _ _ _ _ _ _ r h => (by cases h)⟩
  | succ d ih =>
    obtain ⟨h0, h1, h2, h3, h4, h5⟩ := ih
    exact ⟨fun l G v0 v1 v2 v3 v4 v5 v6 v7 v8 r h => ko_X2_anyOf h0 h1 h2 h3 h4 h5 trivial l G v0 v1 v2 v3 v4 v5 v6 v7 v8 h, fun l G v0 v1 v2 v3 v4 v5 v6 v7 v8 r h => ko_X2_allOf h0 h1 h2 h3 h4 h5 trivial l G v0 v1 v2 v3 v4 v5 v6 v7 v8 h, fun l G v0 v1 v2 v3 v4 v5 v6 v7 v8 r h => ko_X2_test h0 h1 h2 h3 h4 h5 trivial l G v0 v1 v2 v3 v4 v5 v6 v7 v8 h, fun l G v0 v1 v2 v3 v4 v5 v6 v7 v8 r h => ko_X2_sum h0 h1 h2 h3 h4 h5 trivial l G v0 v1 v2 v3 v4 v5 v6 v7 v8 h, fun l G v0 v1 v2 v3 v4 v5 v6 v7 v8 r h => ko_X2_term h0 h1 h2 h3 h4 h5 trivial l G v0 v1 v2 v3 v4 v5 v6 v7 v8 h, fun l G v0 v1 v2 v3 v4 v5 v6 v7 v8 r h => ko_X2_factor h0 h1 h2 h3 h4 h5 trivial l G v0 v1 v2 v3 v4 v5 v6 v7 v8 h⟩
theorem kt_X2_anyOf (d : Nat) : ∀ (l : Launch) (G : Gp) (h0 : Nat) (a0 : Nat → Nat) (h1 : Nat) (a1 : Nat → Nat) (f0 : Nat → Int32) (A0 : Nat → Nat → Int32) (f1 : Nat → Int32) (A1 : Nat → Nat → Int32) (p2 : Int32), ∀ {r : (Nat → Nat → Int32) × (Nat → Int32) × (Nat → Int32)}, f2_anyOf_rec d 0 f0 A0 f1 A1 p2 = some r → CtrV l yX2_anyOf cX2_anyOf 5 none (rmGX2_anyOf d) G [.ref h0, .ref h1, .int p2] (wX2 G h0 a0 f0 A0 ++ (wX7 G h1 a1 f1 A1)) (wX2 G h0 a0 r.2.1 r.1 ++ (wX7 G h1 a1 r.2.2 A1)) := (kg_X2_anyOf d).1
theorem kt_X2_allOf (d : Nat) : ∀ (l : Launch) (G : Gp) (h0 : Nat) (a0 : Nat → Nat) (h1 : Nat) (a1 : Nat → Nat) (f0 : Nat → Int32) (A0 : Nat → Nat → Int32) (f1 : Nat → Int32) (A1 : Nat → Nat → Int32) (p2 : Int32), ∀ {r : (Nat → Nat → Int32) × (Nat → Int32) × (Nat → Int32)}, f2_anyOf_rec d 1 f0 A0 f1 A1 p2 = some r → CtrV l yX2_allOf cX2_allOf 5 none (rmGX2_anyOf d) G [.ref h0, .ref h1, .int p2] (wX2 G h0 a0 f0 A0 ++ (wX7 G h1 a1 f1 A1)) (wX2 G h0 a0 r.2.1 r.1 ++ (wX7 G h1 a1 r.2.2 A1)) := (kg_X2_anyOf d).2.1
theorem kt_X2_test (d : Nat) : ∀ (l : Launch) (G : Gp) (h0 : Nat) (a0 : Nat → Nat) (h1 : Nat) (a1 : Nat → Nat) (f0 : Nat → Int32) (A0 : Nat → Nat → Int32) (f1 : Nat → Int32) (A1 : Nat → Nat → Int32) (p2 : Int32), ∀ {r : (Nat → Nat → Int32) × (Nat → Int32) × (Nat → Int32)}, f2_anyOf_rec d 2 f0 A0 f1 A1 p2 = some r → CtrV l yX2_test cX2_test 5 none (rmGX2_anyOf d) G [.ref h0, .ref h1, .int p2] (wX2 G h0 a0 f0 A0 ++ (wX7 G h1 a1 f1 A1)) (wX2 G h0 a0 r.2.1 r.1 ++ (wX7 G h1 a1 r.2.2 A1)) := (kg_X2_anyOf d).2.2.1
theorem kt_X2_sum (d : Nat) : ∀ (l : Launch) (G : Gp) (h0 : Nat) (a0 : Nat → Nat) (h1 : Nat) (a1 : Nat → Nat) (f0 : Nat → Int32) (A0 : Nat → Nat → Int32) (f1 : Nat → Int32) (A1 : Nat → Nat → Int32) (p2 : Int32), ∀ {r : (Nat → Nat → Int32) × (Nat → Int32) × (Nat → Int32)}, f2_anyOf_rec d 3 f0 A0 f1 A1 p2 = some r → CtrV l yX2_sum cX2_sum 5 none (rmGX2_anyOf d) G [.ref h0, .ref h1, .int p2] (wX2 G h0 a0 f0 A0 ++ (wX7 G h1 a1 f1 A1)) (wX2 G h0 a0 r.2.1 r.1 ++ (wX7 G h1 a1 r.2.2 A1)) := (kg_X2_anyOf d).2.2.2.1
theorem kt_X2_term (d : Nat) : ∀ (l : Launch) (G : Gp) (h0 : Nat) (a0 : Nat → Nat) (h1 : Nat) (a1 : Nat → Nat) (f0 : Nat → Int32) (A0 : Nat → Nat → Int32) (f1 : Nat → Int32) (A1 : Nat → Nat → Int32) (p2 : Int32), ∀ {r : (Nat → Nat → Int32) × (Nat → Int32) × (Nat → Int32)}, f2_anyOf_rec d 4 f0 A0 f1 A1 p2 = some r → CtrV l yX2_term cX2_term 5 none (rmGX2_anyOf d) G [.ref h0, .ref h1, .int p2] (wX2 G h0 a0 f0 A0 ++ (wX7 G h1 a1 f1 A1)) (wX2 G h0 a0 r.2.1 r.1 ++ (wX7 G h1 a1 r.2.2 A1)) := (kg_X2_anyOf d).2.2.2.2.1
theorem kt_X2_factor (d : Nat) : ∀ (l : Launch) (G : Gp) (h0 : Nat) (a0 : Nat → Nat) (h1 : Nat) (a1 : Nat → Nat) (f0 : Nat → Int32) (A0 : Nat → Nat → Int32) (f1 : Nat → Int32) (A1 : Nat → Nat → Int32) (p2 : Int32), ∀ {r : (Nat → Nat → Int32) × (Nat → Int32) × (Nat → Int32)}, f2_anyOf_rec d 5 f0 A0 f1 A1 p2 = some r → CtrV l yX2_factor cX2_factor 4 none (rmGX2_anyOf d) G [.ref h0, .ref h1, .int p2] (wX2 G h0 a0 f0 A0 ++ (wX7 G h1 a1 f1 A1)) (wX2 G h0 a0 r.2.1 r.1 ++ (wX7 G h1 a1 r.2.2 A1)) := (kg_X2_anyOf d).2.2.2.2.2
abbrev rmX2_rule : Room := { frames := 69, cells := 0, slots := 0, locals := 1645 }
set_option maxRecDepth 100000 in
set_option maxHeartbeats 4000000 in
theorem ww_f2_rule_b130  (C0 : Cx cX2_rule 3 none RX2 p s m args meth c G DA) {h0 : Nat} {a0 : Nat → Nat} {h1 : Nat} {a1 : Nat → Nat} {A1 : Nat → Nat → Int32}   {res : (Nat → Nat → Int32) × (Nat → Int32) × (Nat → Int32)}  : ∀ (A0 : Nat → Nat → Int32) (f0 : Nat → Int32) (f1 : Nat → Int32), f2_rule_b130 A1  A0 f0 f1 = some res → ∀ (H : Heap) (locs : List Loc) (ls : Array Slot), WD G DA (wX2 G h0 a0 f0 A0 ++ (wX7 G h1 a1 f1 A1)) H → va_S DA s.heap H locs → lv_has ls 3 [(0, .ref h0), (1, .ref h1)] → W p l e rmX2_rule s m args below meth c H locs 0 0 (MQ below (QV G DA (wX2 G h0 a0 res.2.1 res.1 ++ (wX7 G h1 a1 res.2.2 A1))) args s 0 0 DA) (F0 m 130 ls []) := by
  obtain ⟨hx, hb, hml, hown, hts⟩ := C0.1
  have hK := C0.2.2.2.1
  intro A0 f0 f1 h _ _ _ hPD hS hl
  unfold f2_rule_b130 at h
  refine lv_aload_n hx hb dX2_rule_130 rfl (lv_at hl 0 rfl) ?_
  refine va_get (D := G.1) (ci := 2) (v := .ref (a0 5)) (C := RX2) (T := TX2) (N := 10) hx hb hts inlX2 hown hK hPD.1 0 rfl rfl 5 (by decide) (hts _ gw_186) (fun _ h9 => h9) rfl dX2_rule_131 ?_
  refine lv_aload_n hx hb dX2_rule_134 rfl (lv_at hl 0 rfl) ?_
  refine va_get (D := G.1) (ci := 2) (v := .int (f0 9)) (C := RX2) (T := TX2) (N := 10) hx hb hts inlX2 hown hK hPD.1 0 rfl rfl 9 (by decide) (hts _ gw_182) (fun _ h9 => h9) rfl dX2_rule_135 ?_
  refine lv_aload_n hx hb dX2_rule_138 rfl (lv_at hl 0 rfl) ?_
  refine va_get (D := G.1) (ci := 2) (v := .int (f0 7)) (C := RX2) (T := TX2) (N := 10) hx hb hts inlX2 hown hK hPD.1 0 rfl rfl 7 (by decide) (hts _ gw_129) (fun _ h9 => h9) rfl dX2_rule_139 ?_
  obtain ⟨z_8, ez_8, h⟩ := lvl h
  have kc := kt_X9_put l G (a0 5) 16 (A0 5) (f0 9) (f0 7) (by decide)
  rw [← ez_8] at kc
  clear ez_8
  refine kNV (As := [.ref (a0 5), .int (f0 9), .int (f0 7)]) (rest := []) C0 (kc) gi_U_X9_put (host := "IdleCrimes") (index := 65) (List.mem_of_getElem? (i := 12) rfl) gw_6 gw_19 (n := 3) rfl (by decide +kernel) ⟨rfl, rfl, Nat.le_of_ble_eq_true rfl, Nat.le_of_ble_eq_true rfl⟩ hPD hS [6] [0, 1, 2, 3, 4, 5, 7, 8, 9] [0, 1, 2, 3, 4, 5, 9, 6, 7, 8] (wN := (wX2 G h0 a0 f0 (updA A0 5 z_8) ++ (wX7 G h1 a1 f1 A1))) rfl rfl rfl rfl rfl hl.1 (Nat.le_of_ble_eq_true rfl) dX2_rule_142 (fun H locs hPD hS => ?_)
  obtain ⟨A0_9, eA0_9, h⟩ := lvl h
  have hPD : WD G DA (wX2 G h0 a0 f0 A0_9 ++ (wX7 G h1 a1 f1 A1)) H := by rw [eA0_9]; exact hPD
  clear eA0_9
  refine lv_aload_n hx hb dX2_rule_145 rfl (lv_at hl 0 rfl) ?_
  refine lv_dup hx hb dX2_rule_146 rfl ?_
  refine va_get (D := G.1) (ci := 2) (v := .int (f0 9)) (C := RX2) (T := TX2) (N := 10) hx hb hts inlX2 hown hK hPD.1 0 rfl rfl 9 (by decide) (hts _ gw_182) (fun _ h9 => h9) rfl dX2_rule_147 ?_
  refine lv_iconst (v := 1) hx hb dX2_rule_150 (by decide) ?_
  refine lv_iadd hx hb dX2_rule_151 ?_
  refine va_put (D := G.1) (ci := 2) (v := .int ((f0 9) + 1)) (ty := .int) (C := RX2) (T := TX2) (N := 10) hx hb hts inlX2 tyX2 tyX2_ok nmX2 hown hK hPD.1 hPD.2 hS 0 rfl rfl 9 (by decide) (hts _ gw_182) (fun _ h9 => h9) rfl (by decide +kernel) rfl rfl (Nat.le_of_ble_eq_true rfl) dX2_rule_152 (fun H locs hP hD hS => ?_)
  obtain ⟨f0_10, ef0_10, h⟩ := lvl h
  have hPD : WD G DA (wX2 G h0 a0 f0_10 A0_9 ++ (wX7 G h1 a1 f1 A1)) H := by rw [ef0_10]; exact ⟨hP, hD⟩
  clear ef0_10 hP hD
  obtain rfl := Option.some.inj h
  exact eV C0 hPD.1 hPD.2 hS dX2_rule_155
set_option maxRecDepth 100000 in
set_option maxHeartbeats 4000000 in
theorem ww_f2_rule_b87  (C0 : Cx cX2_rule 3 none RX2 p s m args meth c G DA) {h0 : Nat} {a0 : Nat → Nat} {h1 : Nat} {a1 : Nat → Nat} {A1 : Nat → Nat → Int32}   {res : (Nat → Nat → Int32) × (Nat → Int32) × (Nat → Int32)}  : ∀ (A0 : Nat → Nat → Int32) (f0 : Nat → Int32) (f1 : Nat → Int32), f2_rule_b87 A1  A0 f0 f1 = some res → ∀ (H : Heap) (locs : List Loc) (ls : Array Slot), WD G DA (wX2 G h0 a0 f0 A0 ++ (wX7 G h1 a1 f1 A1)) H → va_S DA s.heap H locs → lv_has ls 3 [(0, .ref h0), (1, .ref h1)] → W p l e rmX2_rule s m args below meth c H locs 0 0 (MQ below (QV G DA (wX2 G h0 a0 res.2.1 res.1 ++ (wX7 G h1 a1 res.2.2 A1))) args s 0 0 DA) (F0 m 87 ls []) := by
  obtain ⟨hx, hb, hml, hown, hts⟩ := C0.1
  have hK := C0.2.2.2.1
  intro A0 f0 f1 h _ _ _ hPD hS hl
  unfold f2_rule_b87 at h
  refine lv_aload_n hx hb dX2_rule_87 rfl (lv_at hl 0 rfl) ?_
  refine va_get (D := G.1) (ci := 2) (v := .ref (a0 4)) (C := RX2) (T := TX2) (N := 10) hx hb hts inlX2 hown hK hPD.1 0 rfl rfl 4 (by decide) (hts _ gw_185) (fun _ h9 => h9) rfl dX2_rule_88 ?_
  refine lv_aload_n hx hb dX2_rule_91 rfl (lv_at hl 0 rfl) ?_
  refine va_get (D := G.1) (ci := 2) (v := .int (f0 9)) (C := RX2) (T := TX2) (N := 10) hx hb hts inlX2 hown hK hPD.1 0 rfl rfl 9 (by decide) (hts _ gw_182) (fun _ h9 => h9) rfl dX2_rule_92 ?_
  refine lv_aload_n hx hb dX2_rule_95 rfl (lv_at hl 0 rfl) ?_
  refine va_get (D := G.1) (ci := 2) (v := .int (f0 7)) (C := RX2) (T := TX2) (N := 10) hx hb hts inlX2 hown hK hPD.1 0 rfl rfl 7 (by decide) (hts _ gw_129) (fun _ h9 => h9) rfl dX2_rule_96 ?_
  obtain ⟨z_6, ez_6, h⟩ := lvl h
  have kc := kt_X9_put l G (a0 4) 16 (A0 4) (f0 9) (f0 7) (by decide)
  rw [← ez_6] at kc
  clear ez_6
  refine kNV (As := [.ref (a0 4), .int (f0 9), .int (f0 7)]) (rest := []) C0 (kc) gi_U_X9_put (host := "IdleCrimes") (index := 65) (List.mem_of_getElem? (i := 12) rfl) gw_6 gw_19 (n := 3) rfl (by decide +kernel) ⟨rfl, rfl, Nat.le_of_ble_eq_true rfl, Nat.le_of_ble_eq_true rfl⟩ hPD hS [5] [0, 1, 2, 3, 4, 6, 7, 8, 9] [0, 1, 2, 3, 4, 9, 5, 6, 7, 8] (wN := (wX2 G h0 a0 f0 (updA A0 4 z_6) ++ (wX7 G h1 a1 f1 A1))) rfl rfl rfl rfl rfl hl.1 (Nat.le_of_ble_eq_true rfl) dX2_rule_99 (fun H locs hPD hS => ?_)
  obtain ⟨A0_7, eA0_7, h⟩ := lvl h
  have hPD : WD G DA (wX2 G h0 a0 f0 A0_7 ++ (wX7 G h1 a1 f1 A1)) H := by rw [eA0_7]; exact hPD
  clear eA0_7
  refine lv_aload_n hx hb dX2_rule_102 rfl (lv_at hl 1 rfl) ?_
  refine kVI (As := []) (rest := []) C0 (kt_X7_isFine l G h1 a1 f1 A1) gi_V_X2_73_X7_isFine (n := 0) rfl (by decide +kernel) rfl ⟨rfl, rfl, Nat.le_of_ble_eq_true rfl, Nat.le_of_ble_eq_true rfl⟩ hPD hS 8 7 rfl rfl rfl [8, 9] [0, 1, 2, 3, 4, 5, 6, 7] [0, 1, 2, 3, 4, 5, 6, 7, 8, 9] (wN := (wX2 G h0 a0 f0 A0_7 ++ (wX7 G h1 a1 f1 A1))) rfl rfl rfl rfl rfl hl.1 (Nat.le_of_ble_eq_true rfl) dX2_rule_103 (fun H locs hPD hS => ?_)
  refine lv_if_eq (tgt := 130) hx hb dX2_rule_106 (by decide) (fun cc1 => ?_) (fun cc1 => ?_)
  · have h := (if_pos cc1).symm.trans h
    exact ww_f2_rule_b130 C0 A0_7 f0 f1 h _ _ _ hPD hS (lv_sub hl [0, 1] rfl)
  · have h := (if_neg cc1).symm.trans h
    refine lv_aload_n hx hb dX2_rule_109 rfl (lv_at hl 1 rfl) ?_
    refine lv_bipush (v := 40) hx hb dX2_rule_110 (by decide) ?_
    obtain ⟨q_11, hq_11, h⟩ := ob2 h
    refine kVI (As := [.int 40]) (rest := []) C0 (kt_X7_take l G h1 a1 f1 A1 40 hq_11) gi_V_X2_76_X7_take (n := 1) rfl (by decide +kernel) rfl ⟨rfl, rfl, Nat.le_of_ble_eq_true rfl, Nat.le_of_ble_eq_true rfl⟩ hPD hS 8 7 rfl rfl rfl [8, 9] [0, 1, 2, 3, 4, 5, 6, 7] [0, 1, 2, 3, 4, 5, 6, 7, 8, 9] (wN := (wX2 G h0 a0 f0 A0_7 ++ (wX7 G h1 a1 q_11.2 A1))) rfl rfl rfl rfl rfl hl.1 (Nat.le_of_ble_eq_true rfl) dX2_rule_112 (fun H locs hPD hS => ?_)
    refine lv_if_eq (tgt := 130) hx hb dX2_rule_115 (by decide) (fun cc1 => ?_) (fun cc1 => ?_)
    · have h := (if_pos cc1).symm.trans h
      exact ww_f2_rule_b130 C0 A0_7 f0 q_11.2 h _ _ _ hPD hS (lv_sub hl [0, 1] rfl)
    · have h := (if_neg cc1).symm.trans h
      refine lv_aload_n hx hb dX2_rule_118 rfl (lv_at hl 0 rfl) ?_
      refine lv_aload_n hx hb dX2_rule_119 rfl (lv_at hl 1 rfl) ?_
      refine lv_iconst (v := 1) hx hb dX2_rule_120 (by decide) ?_
      obtain ⟨q_12, hq_12, h⟩ := ob2 h
      refine kVV (As := [.ref h1, .int 1]) (rest := []) C0 (kt_X2_anyOf 64 l G h0 a0 h1 a1 f0 A0_7 q_11.2 A1 1 hq_12) gi_V_X2_80_X2_anyOf (n := 2) rfl (by decide +kernel) rfl ⟨rfl, rfl, Nat.le_of_ble_eq_true rfl, Nat.le_of_ble_eq_true rfl⟩ hPD hS 0 2 rfl rfl rfl [0, 1, 2, 3, 4, 5, 6, 7, 8, 9] [] [0, 1, 2, 3, 4, 5, 6, 7, 8, 9] (wN := (wX2 G h0 a0 q_12.2.1 q_12.1 ++ (wX7 G h1 a1 q_12.2.2 A1))) rfl rfl rfl rfl rfl hl.1 (Nat.le_of_ble_eq_true rfl) dX2_rule_121 (fun H locs hPD hS => ?_)
      refine lv_aload_n hx hb dX2_rule_124 rfl (lv_at hl 1 rfl) ?_
      refine lv_bipush (v := 41) hx hb dX2_rule_125 (by decide) ?_
      obtain ⟨q_13, hq_13, h⟩ := ob2 h
      refine kSV (As := [.ref h1, .int 41]) (rest := []) C0 (kt_X2_close l G h1 a1 q_12.2.2 A1 41 hq_13) gi_S_X2_83_X2_close (n := 2) rfl (by decide +kernel) ⟨rfl, rfl, Nat.le_of_ble_eq_true rfl, Nat.le_of_ble_eq_true rfl⟩ hPD hS [8, 9] [0, 1, 2, 3, 4, 5, 6, 7] [0, 1, 2, 3, 4, 5, 6, 7, 8, 9] (wN := (wX2 G h0 a0 q_12.2.1 q_12.1 ++ (wX7 G h1 a1 q_13 A1))) rfl rfl rfl rfl rfl hl.1 (Nat.le_of_ble_eq_true rfl) dX2_rule_127 (fun H locs hPD hS => ?_)
      exact ww_f2_rule_b130 C0 q_12.1 q_12.2.1 q_13 h _ _ _ hPD hS (lv_sub hl [0, 1] rfl)
set_option maxRecDepth 100000 in
set_option maxHeartbeats 4000000 in
theorem ww_f2_rule_b29  (C0 : Cx cX2_rule 3 none RX2 p s m args meth c G DA) {h0 : Nat} {a0 : Nat → Nat} {h1 : Nat} {a1 : Nat → Nat} {A1 : Nat → Nat → Int32}   {res : (Nat → Nat → Int32) × (Nat → Int32) × (Nat → Int32)}  : ∀ (A0 : Nat → Nat → Int32) (f0 : Nat → Int32) (f1 : Nat → Int32) (l2 : Int32), f2_rule_b29 A1  A0 f0 f1 l2 = some res → ∀ (H : Heap) (locs : List Loc) (ls : Array Slot), WD G DA (wX2 G h0 a0 f0 A0 ++ (wX7 G h1 a1 f1 A1)) H → va_S DA s.heap H locs → lv_has ls 3 [(0, .ref h0), (1, .ref h1), (2, .int l2)] → W p l e rmX2_rule s m args below meth c H locs 0 0 (MQ below (QV G DA (wX2 G h0 a0 res.2.1 res.1 ++ (wX7 G h1 a1 res.2.2 A1))) args s 0 0 DA) (F0 m 29 ls []) := by
  obtain ⟨hx, hb, hml, hown, hts⟩ := C0.1
  have hK := C0.2.2.2.1
  intro A0 f0 f1 l2 h _ _ _ hPD hS hl
  unfold f2_rule_b29 at h
  refine lv_aload_n hx hb dX2_rule_29 rfl (lv_at hl 0 rfl) ?_
  refine va_get (D := G.1) (ci := 2) (v := .int (f0 9)) (C := RX2) (T := TX2) (N := 10) hx hb hts inlX2 hown hK hPD.1 0 rfl rfl 9 (by decide) (hts _ gw_182) (fun _ h9 => h9) rfl dX2_rule_30 ?_
  refine lv_bipush (v := 16) hx hb dX2_rule_33 (by decide) ?_
  refine lv_icmp_lt (tgt := 44) hx hb dX2_rule_35 (by decide) (fun cc1 => ?_) (fun cc1 => ?_)
  · have h := (if_pos cc1).symm.trans h
    refine lv_aload_n hx hb dX2_rule_44 rfl (lv_at hl 1 rfl) ?_
    obtain ⟨z_1, ez_1, h⟩ := lvl h
    have kc := kt_X7_step l G h1 a1 f1 A1
    rw [← ez_1] at kc
    clear ez_1
    refine kVV (As := []) (rest := []) C0 (kc) gi_V_X2_62_X7_step (n := 0) rfl (by decide +kernel) rfl ⟨rfl, rfl, Nat.le_of_ble_eq_true rfl, Nat.le_of_ble_eq_true rfl⟩ hPD hS 8 7 rfl rfl rfl [8, 9] [0, 1, 2, 3, 4, 5, 6, 7] [0, 1, 2, 3, 4, 5, 6, 7, 8, 9] (wN := (wX2 G h0 a0 f0 A0 ++ (wX7 G h1 a1 z_1 A1))) rfl rfl rfl rfl rfl hl.1 (Nat.le_of_ble_eq_true rfl) dX2_rule_45 (fun H locs hPD hS => ?_)
    refine lv_aload_n hx hb dX2_rule_48 rfl (lv_at hl 0 rfl) ?_
    refine va_get (D := G.1) (ci := 2) (v := .ref (a0 2)) (C := RX2) (T := TX2) (N := 10) hx hb hts inlX2 hown hK hPD.1 0 rfl rfl 2 (by decide) (hts _ gw_183) (fun _ h9 => h9) rfl dX2_rule_49 ?_
    refine lv_aload_n hx hb dX2_rule_52 rfl (lv_at hl 0 rfl) ?_
    refine va_get (D := G.1) (ci := 2) (v := .int (f0 9)) (C := RX2) (T := TX2) (N := 10) hx hb hts inlX2 hown hK hPD.1 0 rfl rfl 9 (by decide) (hts _ gw_182) (fun _ h9 => h9) rfl dX2_rule_53 ?_
    refine lv_iload_n hx hb dX2_rule_56 rfl (lv_at hl 2 rfl) ?_
    obtain ⟨z_2, ez_2, h⟩ := lvl h
    have kc := kt_X9_put l G (a0 2) 16 (A0 2) (f0 9) l2 (by decide)
    rw [← ez_2] at kc
    clear ez_2
    refine kNV (As := [.ref (a0 2), .int (f0 9), .int l2]) (rest := []) C0 (kc) gi_U_X9_put (host := "IdleCrimes") (index := 65) (List.mem_of_getElem? (i := 12) rfl) gw_6 gw_19 (n := 3) rfl (by decide +kernel) ⟨rfl, rfl, Nat.le_of_ble_eq_true rfl, Nat.le_of_ble_eq_true rfl⟩ hPD hS [3] [0, 1, 2, 4, 5, 6, 7, 8, 9] [0, 1, 2, 9, 3, 4, 5, 6, 7, 8] (wN := (wX2 G h0 a0 f0 (updA A0 2 z_2) ++ (wX7 G h1 a1 z_1 A1))) rfl rfl rfl rfl rfl hl.1 (Nat.le_of_ble_eq_true rfl) dX2_rule_57 (fun H locs hPD hS => ?_)
    obtain ⟨A0_3, eA0_3, h⟩ := lvl h
    have hPD : WD G DA (wX2 G h0 a0 f0 A0_3 ++ (wX7 G h1 a1 z_1 A1)) H := by rw [eA0_3]; exact hPD
    clear eA0_3
    refine lv_aload_n hx hb dX2_rule_60 rfl (lv_at hl 0 rfl) ?_
    refine va_get (D := G.1) (ci := 2) (v := .ref (a0 3)) (C := RX2) (T := TX2) (N := 10) hx hb hts inlX2 hown hK hPD.1 0 rfl rfl 3 (by decide) (hts _ gw_184) (fun _ h9 => h9) rfl dX2_rule_61 ?_
    refine lv_aload_n hx hb dX2_rule_64 rfl (lv_at hl 0 rfl) ?_
    refine va_get (D := G.1) (ci := 2) (v := .int (f0 9)) (C := RX2) (T := TX2) (N := 10) hx hb hts inlX2 hown hK hPD.1 0 rfl rfl 9 (by decide) (hts _ gw_182) (fun _ h9 => h9) rfl dX2_rule_65 ?_
    refine lv_aload_n hx hb dX2_rule_68 rfl (lv_at hl 0 rfl) ?_
    refine va_get (D := G.1) (ci := 2) (v := .int (f0 7)) (C := RX2) (T := TX2) (N := 10) hx hb hts inlX2 hown hK hPD.1 0 rfl rfl 7 (by decide) (hts _ gw_129) (fun _ h9 => h9) rfl dX2_rule_69 ?_
    obtain ⟨z_4, ez_4, h⟩ := lvl h
    have kc := kt_X9_put l G (a0 3) 16 (A0_3 3) (f0 9) (f0 7) (by decide)
    rw [← ez_4] at kc
    clear ez_4
    refine kNV (As := [.ref (a0 3), .int (f0 9), .int (f0 7)]) (rest := []) C0 (kc) gi_U_X9_put (host := "IdleCrimes") (index := 65) (List.mem_of_getElem? (i := 12) rfl) gw_6 gw_19 (n := 3) rfl (by decide +kernel) ⟨rfl, rfl, Nat.le_of_ble_eq_true rfl, Nat.le_of_ble_eq_true rfl⟩ hPD hS [4] [0, 1, 2, 3, 5, 6, 7, 8, 9] [0, 1, 2, 3, 9, 4, 5, 6, 7, 8] (wN := (wX2 G h0 a0 f0 (updA A0_3 3 z_4) ++ (wX7 G h1 a1 z_1 A1))) rfl rfl rfl rfl rfl hl.1 (Nat.le_of_ble_eq_true rfl) dX2_rule_72 (fun H locs hPD hS => ?_)
    obtain ⟨A0_5, eA0_5, h⟩ := lvl h
    have hPD : WD G DA (wX2 G h0 a0 f0 A0_5 ++ (wX7 G h1 a1 z_1 A1)) H := by rw [eA0_5]; exact hPD
    clear eA0_5
    refine lv_iload_n hx hb dX2_rule_75 rfl (lv_at hl 2 rfl) ?_
    refine lv_bipush (v := 115) hx hb dX2_rule_76 (by decide) ?_
    refine lv_icmp_eq (tgt := 87) hx hb dX2_rule_78 (by decide) (fun cc1 => ?_) (fun cc1 => ?_)
    · have h := (if_pos cc1).symm.trans h
      exact ww_f2_rule_b87 C0 A0_5 f0 z_1 h _ _ _ hPD hS (lv_sub hl [0, 1] rfl)
    · have h := (if_neg cc1).symm.trans h
      refine lv_aload_n hx hb dX2_rule_81 rfl (lv_at hl 0 rfl) ?_
      refine lv_aload_n hx hb dX2_rule_82 rfl (lv_at hl 1 rfl) ?_
      refine lv_iconst (v := 0) hx hb dX2_rule_83 (by decide) ?_
      obtain ⟨q_14, hq_14, h⟩ := ob2 h
      refine kVV (As := [.ref h1, .int 0]) (rest := []) C0 (kt_X2_sum 64 l G h0 a0 h1 a1 f0 A0_5 z_1 A1 0 hq_14) gi_V_X2_69_X2_sum (n := 2) rfl (by decide +kernel) rfl ⟨rfl, rfl, Nat.le_of_ble_eq_true rfl, Nat.le_of_ble_eq_true rfl⟩ hPD hS 0 2 rfl rfl rfl [0, 1, 2, 3, 4, 5, 6, 7, 8, 9] [] [0, 1, 2, 3, 4, 5, 6, 7, 8, 9] (wN := (wX2 G h0 a0 q_14.2.1 q_14.1 ++ (wX7 G h1 a1 q_14.2.2 A1))) rfl rfl rfl rfl rfl hl.1 (Nat.le_of_ble_eq_true rfl) dX2_rule_84 (fun H locs hPD hS => ?_)
      exact ww_f2_rule_b87 C0 q_14.1 q_14.2.1 q_14.2.2 h _ _ _ hPD hS (lv_sub hl [0, 1] rfl)
  · have h := (if_neg cc1).symm.trans h
    refine lv_aload_n hx hb dX2_rule_38 rfl (lv_at hl 1 rfl) ?_
    refine lv_iconst (v := 4) hx hb dX2_rule_39 (by decide) ?_
    obtain ⟨z_15, ez_15, h⟩ := lvl h
    have kc := kt_X7_fail l G h1 a1 f1 A1 4
    rw [← ez_15] at kc
    clear ez_15
    refine kVV (As := [.int 4]) (rest := []) C0 (kc) gi_V_X2_58_X7_fail (n := 1) rfl (by decide +kernel) rfl ⟨rfl, rfl, Nat.le_of_ble_eq_true rfl, Nat.le_of_ble_eq_true rfl⟩ hPD hS 8 7 rfl rfl rfl [8, 9] [0, 1, 2, 3, 4, 5, 6, 7] [0, 1, 2, 3, 4, 5, 6, 7, 8, 9] (wN := (wX2 G h0 a0 f0 A0 ++ (wX7 G h1 a1 z_15 A1))) rfl rfl rfl rfl rfl hl.1 (Nat.le_of_ble_eq_true rfl) dX2_rule_40 (fun H locs hPD hS => ?_)
    obtain rfl := Option.some.inj h
    exact eV C0 hPD.1 hPD.2 hS dX2_rule_43
set_option maxRecDepth 100000 in
set_option maxHeartbeats 4000000 in
theorem kt_X2_rule (l : Launch) (G : Gp) (h0 : Nat) (a0 : Nat → Nat) (h1 : Nat) (a1 : Nat → Nat) (f0 : Nat → Int32) (A0 : Nat → Nat → Int32) (f1 : Nat → Int32) (A1 : Nat → Nat → Int32) : ∀ {r : (Nat → Nat → Int32) × (Nat → Int32) × (Nat → Int32)}, f2_rule f0 A0 f1 A1 = some r → CtrV l yX2_rule cX2_rule 3 none rmX2_rule G [.ref h0, .ref h1] (wX2 G h0 a0 f0 A0 ++ (wX7 G h1 a1 f1 A1)) (wX2 G h0 a0 r.2.1 r.1 ++ (wX7 G h1 a1 r.2.2 A1)) := by
  intro res h
  refine ctrV_of (cc := cX2_rule) (maxL := 3) (ret := none) (by decide +kernel) rfl (Nat.le_of_ble_eq_true rfl) (fun p e s m below meth c DA C0 hP hD ls hl => ?_)
  have hPD : WD G DA (wX2 G h0 a0 f0 A0 ++ (wX7 G h1 a1 f1 A1)) s.heap := ⟨hP, hD⟩
  have hS : va_S DA s.heap s.heap [] := va_S.rf
  have hl : lv_has ls 3 [(0, .ref h0), (1, .ref h1)] := hl
  obtain ⟨hx, hb, hml, hown, hts⟩ := C0.1
  have hK := C0.2.2.2.1
  unfold f2_rule at h
  refine lv_aload_n hx hb dX2_rule_0 rfl (lv_at hl 1 rfl) ?_
  refine kVI (As := []) (rest := []) C0 (kt_X7_look l G h1 a1 f1 A1) gi_V_X2_54_X7_look (n := 0) rfl (by decide +kernel) rfl ⟨rfl, rfl, Nat.le_of_ble_eq_true rfl, Nat.le_of_ble_eq_true rfl⟩ hPD hS 8 7 rfl rfl rfl [8, 9] [0, 1, 2, 3, 4, 5, 6, 7] [0, 1, 2, 3, 4, 5, 6, 7, 8, 9] (wN := (wX2 G h0 a0 f0 A0 ++ (wX7 G h1 a1 f1 A1))) rfl rfl rfl rfl rfl hl.1 (Nat.le_of_ble_eq_true rfl) dX2_rule_1 (fun H locs hPD hS => ?_)
  refine lv_istore_n (lv' := [(2, .int (f7_look f1 A1)), (0, .ref h0), (1, .ref h1)]) hx hb dX2_rule_4 rfl hl (by decide) rfl (fun ls hl => ?_)
  refine lv_iload_n hx hb dX2_rule_5 rfl (lv_at hl 0 rfl) ?_
  refine lv_bipush (v := 119) hx hb dX2_rule_6 (by decide) ?_
  refine lv_icmp_eq (tgt := 29) hx hb dX2_rule_8 (by decide) (fun cc1 => ?_) (fun cc1 => ?_)
  · have h := (if_pos cc1).symm.trans h
    exact ww_f2_rule_b29 C0 A0 f0 f1 (f7_look f1 A1) h _ _ _ hPD hS (lv_sub hl [1, 2, 0] rfl)
  · have h := (if_neg cc1).symm.trans h
    refine lv_iload_n hx hb dX2_rule_11 rfl (lv_at hl 0 rfl) ?_
    refine lv_bipush (v := 114) hx hb dX2_rule_12 (by decide) ?_
    refine lv_icmp_eq (tgt := 29) hx hb dX2_rule_14 (by decide) (fun cc1 => ?_) (fun cc1 => ?_)
    · have h := (if_pos cc1).symm.trans h
      exact ww_f2_rule_b29 C0 A0 f0 f1 (f7_look f1 A1) h _ _ _ hPD hS (lv_sub hl [1, 2, 0] rfl)
    · have h := (if_neg cc1).symm.trans h
      refine lv_iload_n hx hb dX2_rule_17 rfl (lv_at hl 0 rfl) ?_
      refine lv_bipush (v := 115) hx hb dX2_rule_18 (by decide) ?_
      refine lv_icmp_eq (tgt := 29) hx hb dX2_rule_20 (by decide) (fun cc1 => ?_) (fun cc1 => ?_)
      · have h := (if_pos cc1).symm.trans h
        exact ww_f2_rule_b29 C0 A0 f0 f1 (f7_look f1 A1) h _ _ _ hPD hS (lv_sub hl [1, 2, 0] rfl)
      · have h := (if_neg cc1).symm.trans h
        refine lv_aload_n hx hb dX2_rule_23 rfl (lv_at hl 2 rfl) ?_
        refine lv_iconst (v := 1) hx hb dX2_rule_24 (by decide) ?_
        obtain ⟨z_16, ez_16, h⟩ := lvl h
        have kc := kt_X7_fail l G h1 a1 f1 A1 1
        rw [← ez_16] at kc
        clear ez_16
        refine kVV (As := [.int 1]) (rest := []) C0 (kc) gi_V_X2_58_X7_fail (n := 1) rfl (by decide +kernel) rfl ⟨rfl, rfl, Nat.le_of_ble_eq_true rfl, Nat.le_of_ble_eq_true rfl⟩ hPD hS 8 7 rfl rfl rfl [8, 9] [0, 1, 2, 3, 4, 5, 6, 7] [0, 1, 2, 3, 4, 5, 6, 7, 8, 9] (wN := (wX2 G h0 a0 f0 A0 ++ (wX7 G h1 a1 z_16 A1))) rfl rfl rfl rfl rfl hl.1 (Nat.le_of_ble_eq_true rfl) dX2_rule_25 (fun H locs hPD hS => ?_)
        obtain rfl := Option.some.inj h
        exact eV C0 hPD.1 hPD.2 hS dX2_rule_28
abbrev rmX7_goesOn : Room := { frames := 3, cells := 0, slots := 0, locals := 64 }
set_option maxRecDepth 100000 in
set_option maxHeartbeats 4000000 in
theorem kt_X7_goesOn (l : Launch) (G : Gp) (h0 : Nat) (a0 : Nat → Nat) (f0 : Nat → Int32) (A0 : Nat → Nat → Int32) : ∀ {r : Int32 × (Nat → Int32)}, f7_goesOn f0 A0 = some r → CtrI l yX7_goesOn cX7_goesOn 1 (some .boolean) rmX7_goesOn G [.ref h0] (wX7 G h0 a0 f0 A0) r.1 (wX7 G h0 a0 r.2 A0) := by
  intro res h
  refine ctrI_of (cc := cX7_goesOn) (maxL := 1) (ret := (some .boolean)) (by decide +kernel) rfl (Nat.le_of_ble_eq_true rfl) (fun p e s m below meth c DA C0 hP hD ls hl => ?_)
  have hPD : WD G DA (wX7 G h0 a0 f0 A0) s.heap := ⟨hP, hD⟩
  have hS : va_S DA s.heap s.heap [] := va_S.rf
  have hl : lv_has ls 1 [(0, .ref h0)] := hl
  obtain ⟨hx, hb, hml, hown, hts⟩ := C0.1
  have hK := C0.2.2.2.1
  unfold f7_goesOn at h
  refine lv_aload_n hx hb dX7_goesOn_0 rfl (lv_at hl 0 rfl) ?_
  refine kVI (As := []) (rest := []) C0 (kt_X7_isFine l G h0 a0 f0 A0) gi_V_X7_54_X7_isFine (n := 0) rfl (by decide +kernel) rfl ⟨rfl, rfl, Nat.le_of_ble_eq_true rfl, Nat.le_of_ble_eq_true rfl⟩ hPD hS 0 7 rfl rfl rfl [0, 1] [] [0, 1] (wN := (wX7 G h0 a0 f0 A0)) rfl rfl rfl rfl rfl hl.1 (Nat.le_of_ble_eq_true rfl) dX7_goesOn_1 (fun H locs hPD hS => ?_)
  refine lv_if_eq (tgt := 15) hx hb dX7_goesOn_4 (by decide) (fun cc1 => ?_) (fun cc1 => ?_)
  · have h := (if_pos cc1).symm.trans h
    refine lv_iconst (v := 0) hx hb dX7_goesOn_15 (by decide) ?_
    obtain rfl := Option.some.inj h
    exact eZ C0 hPD.1 hPD.2 hS rfl rfl dX7_goesOn_16
  · have h := (if_neg cc1).symm.trans h
    refine lv_aload_n hx hb dX7_goesOn_7 rfl (lv_at hl 0 rfl) ?_
    refine kVI (As := []) (rest := []) C0 (kt_X7_look l G h0 a0 f0 A0) gi_V_X7_39_X7_look (n := 0) rfl (by decide +kernel) rfl ⟨rfl, rfl, Nat.le_of_ble_eq_true rfl, Nat.le_of_ble_eq_true rfl⟩ hPD hS 0 7 rfl rfl rfl [0, 1] [] [0, 1] (wN := (wX7 G h0 a0 f0 A0)) rfl rfl rfl rfl rfl hl.1 (Nat.le_of_ble_eq_true rfl) dX7_goesOn_8 (fun H locs hPD hS => ?_)
    refine lv_iconst (v := (-1)) hx hb dX7_goesOn_11 (by decide) ?_
    refine lv_icmp_ne (tgt := 17) hx hb dX7_goesOn_12 (by decide) (fun cc1 => ?_) (fun cc1 => ?_)
    · have h := (if_neg cc1).symm.trans h
      refine lv_aload_n hx hb dX7_goesOn_17 rfl (lv_at hl 0 rfl) ?_
      refine lv_bipush (v := 59) hx hb dX7_goesOn_18 (by decide) ?_
      obtain ⟨q_1, hq_1, h⟩ := ob2 h
      refine kVI (As := [.int 59]) (rest := []) C0 (kt_X7_take l G h0 a0 f0 A0 59 hq_1) gi_V_X7_58_X7_take (n := 1) rfl (by decide +kernel) rfl ⟨rfl, rfl, Nat.le_of_ble_eq_true rfl, Nat.le_of_ble_eq_true rfl⟩ hPD hS 0 7 rfl rfl rfl [0, 1] [] [0, 1] (wN := (wX7 G h0 a0 q_1.2 A0)) rfl rfl rfl rfl rfl hl.1 (Nat.le_of_ble_eq_true rfl) dX7_goesOn_20 (fun H locs hPD hS => ?_)
      obtain ⟨hz, h⟩ := ob h
      obtain rfl := Option.some.inj h
      exact eZ C0 hPD.1 hPD.2 hS rfl (nbool (Classical.not_not.mp hz)) dX7_goesOn_23
    · have h := (if_pos cc1).symm.trans h
      refine lv_iconst (v := 0) hx hb dX7_goesOn_15 (by decide) ?_
      obtain rfl := Option.some.inj h
      exact eZ C0 hPD.1 hPD.2 hS rfl rfl dX7_goesOn_16
abbrev rmX2_read : Room := { frames := 70, cells := 0, slots := 0, locals := 1667 }
set_option maxRecDepth 100000 in
set_option maxHeartbeats 4000000 in
theorem ww_f2_read_b14  (C0 : Cx cX2_read 4 none RX2 p s m args meth c G DA) {h0 : Nat} {a0 : Nat → Nat} {h1 : Nat} {a1 : Nat → Nat} {A1 : Nat → Nat → Int32}  {k14 : (Nat → Nat → Int32) → (Nat → Int32) → (Nat → Int32) → Int32 → Int32 → Option ((Nat → Nat → Int32) × (Nat → Int32) × (Nat → Int32))} {res : (Nat → Nat → Int32) × (Nat → Int32) × (Nat → Int32)}  (hk14 : ∀ (A0 : Nat → Nat → Int32) (f0 : Nat → Int32) (f1 : Nat → Int32) (l2 : Int32) (l3 : Int32), k14 A0 f0 f1 l2 l3 = some res → ∀ (H : Heap) (locs : List Loc) (ls : Array Slot), WD G DA (wX2 G h0 a0 f0 A0 ++ (wX7 G h1 a1 f1 A1)) H → va_S DA s.heap H locs → lv_has ls 4 [(0, .ref h0), (1, .ref h1), (2, .int l2), (3, .int l3)] → W p l e rmX2_read s m args below meth c H locs 0 0 (MQ below (QV G DA (wX2 G h0 a0 res.2.1 res.1 ++ (wX7 G h1 a1 res.2.2 A1))) args s 0 0 DA) (F0 m 14 ls [])) : ∀ (A0 : Nat → Nat → Int32) (f0 : Nat → Int32) (f1 : Nat → Int32) (l2 : Int32) (l3 : Int32), f2_read_b14 A1  k14 A0 f0 f1 l2 l3 = some res → ∀ (H : Heap) (locs : List Loc) (ls : Array Slot), WD G DA (wX2 G h0 a0 f0 A0 ++ (wX7 G h1 a1 f1 A1)) H → va_S DA s.heap H locs → lv_has ls 4 [(0, .ref h0), (1, .ref h1), (2, .int l2), (3, .int l3)] → W p l e rmX2_read s m args below meth c H locs 0 0 (MQ below (QV G DA (wX2 G h0 a0 res.2.1 res.1 ++ (wX7 G h1 a1 res.2.2 A1))) args s 0 0 DA) (F0 m 14 ls []) := by
  obtain ⟨hx, hb, hml, hown, hts⟩ := C0.1
  have hK := C0.2.2.2.1
  intro A0 f0 f1 l2 l3 h _ _ _ hPD hS hl
  unfold f2_read_b14 at h
  refine lv_iload_n hx hb dX2_read_14 rfl (lv_at hl 2 rfl) ?_
  refine lv_if_eq (tgt := 41) hx hb dX2_read_15 (by decide) (fun cc1 => ?_) (fun cc1 => ?_)
  · have h := (if_pos cc1).symm.trans h
    obtain rfl := Option.some.inj h
    exact eV C0 hPD.1 hPD.2 hS dX2_read_41
  · have h := (if_neg cc1).symm.trans h
    refine lv_iload_n hx hb dX2_read_18 rfl (lv_at hl 3 rfl) ?_
    refine lv_sipush (v := 240) hx hb dX2_read_19 (by decide) ?_
    refine lv_icmp_ge (tgt := 41) hx hb dX2_read_22 (by decide) (fun cc1 => ?_) (fun cc1 => ?_)
    · have h := (if_pos cc1).symm.trans h
      obtain rfl := Option.some.inj h
      exact eV C0 hPD.1 hPD.2 hS dX2_read_41
    · have h := (if_neg cc1).symm.trans h
      refine lv_aload_n hx hb dX2_read_25 rfl (lv_at hl 0 rfl) ?_
      refine lv_aload_n hx hb dX2_read_26 rfl (lv_at hl 1 rfl) ?_
      obtain ⟨q_3, hq_3, h⟩ := ob2 h
      refine kVV (As := [.ref h1]) (rest := []) C0 (kt_X2_rule l G h0 a0 h1 a1 f0 A0 f1 A1 hq_3) gi_V_X2_44_X2_rule (n := 1) rfl (by decide +kernel) rfl ⟨rfl, rfl, Nat.le_of_ble_eq_true rfl, Nat.le_of_ble_eq_true rfl⟩ hPD hS 0 2 rfl rfl rfl [0, 1, 2, 3, 4, 5, 6, 7, 8, 9] [] [0, 1, 2, 3, 4, 5, 6, 7, 8, 9] (wN := (wX2 G h0 a0 q_3.2.1 q_3.1 ++ (wX7 G h1 a1 q_3.2.2 A1))) rfl rfl rfl rfl rfl hl.1 (Nat.le_of_ble_eq_true rfl) dX2_read_27 (fun H locs hPD hS => ?_)
      refine lv_aload_n hx hb dX2_read_30 rfl (lv_at hl 1 rfl) ?_
      obtain ⟨q_4, hq_4, h⟩ := ob2 h
      refine kVI (As := []) (rest := []) C0 (kt_X7_goesOn l G h1 a1 q_3.2.2 A1 hq_4) gi_V_X2_48_X7_goesOn (n := 0) rfl (by decide +kernel) rfl ⟨rfl, rfl, Nat.le_of_ble_eq_true rfl, Nat.le_of_ble_eq_true rfl⟩ hPD hS 8 7 rfl rfl rfl [8, 9] [0, 1, 2, 3, 4, 5, 6, 7] [0, 1, 2, 3, 4, 5, 6, 7, 8, 9] (wN := (wX2 G h0 a0 q_3.2.1 q_3.1 ++ (wX7 G h1 a1 q_4.2 A1))) rfl rfl rfl rfl rfl hl.1 (Nat.le_of_ble_eq_true rfl) dX2_read_31 (fun H locs hPD hS => ?_)
      refine lv_istore_n (lv' := [(2, .int q_4.1), (0, .ref h0), (1, .ref h1), (3, .int l3)]) hx hb dX2_read_34 rfl hl (by decide) rfl (fun ls hl => ?_)
      refine lv_iinc (v := l3 + 1) (lv' := [(3, .int (l3 + 1)), (2, .int q_4.1), (0, .ref h0), (1, .ref h1)]) hx hb dX2_read_35 hl (k := 3) rfl rfl (by decide) rfl (fun ls hl => ?_)
      refine lv_goto (tgt := 14) hx hb dX2_read_38 (by decide) ?_
      exact hk14 q_3.1 q_3.2.1 q_4.2 q_4.1 (l3 + 1) h _ _ _ hPD hS (lv_sub hl [2, 3, 1, 0] rfl)
set_option maxRecDepth 100000 in
set_option maxHeartbeats 4000000 in
theorem ww_f2_read_l14  (C0 : Cx cX2_read 4 none RX2 p s m args meth c G DA) {h0 : Nat} {a0 : Nat → Nat} {h1 : Nat} {a1 : Nat → Nat} {A1 : Nat → Nat → Int32}   {res : (Nat → Nat → Int32) × (Nat → Int32) × (Nat → Int32)}  : ∀ (n : Nat) (A0 : Nat → Nat → Int32) (f0 : Nat → Int32) (f1 : Nat → Int32) (l2 : Int32) (l3 : Int32), f2_read_l14 A1  n A0 f0 f1 l2 l3 = some res → ∀ (H : Heap) (locs : List Loc) (ls : Array Slot), WD G DA (wX2 G h0 a0 f0 A0 ++ (wX7 G h1 a1 f1 A1)) H → va_S DA s.heap H locs → lv_has ls 4 [(0, .ref h0), (1, .ref h1), (2, .int l2), (3, .int l3)] → W p l e rmX2_read s m args below meth c H locs 0 0 (MQ below (QV G DA (wX2 G h0 a0 res.2.1 res.1 ++ (wX7 G h1 a1 res.2.2 A1))) args s 0 0 DA) (F0 m 14 ls []) := by
  intro n
  induction n with
  | zero => intro A0 f0 f1 l2 l3 h; cases h
  | succ n ih => intro A0 f0 f1 l2 l3 h; exact ww_f2_read_b14 C0  ih A0 f0 f1 l2 l3 h
set_option maxRecDepth 100000 in
set_option maxHeartbeats 4000000 in
theorem kt_X2_read (l : Launch) (G : Gp) (h0 : Nat) (a0 : Nat → Nat) (h1 : Nat) (a1 : Nat → Nat) (f0 : Nat → Int32) (A0 : Nat → Nat → Int32) (f1 : Nat → Int32) (A1 : Nat → Nat → Int32) : ∀ {r : (Nat → Nat → Int32) × (Nat → Int32) × (Nat → Int32)}, f2_read f0 A0 f1 A1 = some r → CtrV l yX2_read cX2_read 4 none rmX2_read G [.ref h0, .ref h1] (wX2 G h0 a0 f0 A0 ++ (wX7 G h1 a1 f1 A1)) (wX2 G h0 a0 r.2.1 r.1 ++ (wX7 G h1 a1 r.2.2 A1)) := by
  intro res h
  refine ctrV_of (cc := cX2_read) (maxL := 4) (ret := none) (by decide +kernel) rfl (Nat.le_of_ble_eq_true rfl) (fun p e s m below meth c DA C0 hP hD ls hl => ?_)
  have hPD : WD G DA (wX2 G h0 a0 f0 A0 ++ (wX7 G h1 a1 f1 A1)) s.heap := ⟨hP, hD⟩
  have hS : va_S DA s.heap s.heap [] := va_S.rf
  have hl : lv_has ls 4 [(0, .ref h0), (1, .ref h1)] := hl
  obtain ⟨hx, hb, hml, hown, hts⟩ := C0.1
  have hK := C0.2.2.2.1
  unfold f2_read at h
  refine lv_aload_n hx hb dX2_read_0 rfl (lv_at hl 0 rfl) ?_
  refine lv_iconst (v := 0) hx hb dX2_read_1 (by decide) ?_
  refine va_put (D := G.1) (ci := 2) (v := .int 0) (ty := .int) (C := RX2) (T := TX2) (N := 10) hx hb hts inlX2 tyX2 tyX2_ok nmX2 hown hK hPD.1 hPD.2 hS 0 rfl rfl 7 (by decide) (hts _ gw_129) (fun _ h9 => h9) rfl (by decide +kernel) rfl rfl (Nat.le_of_ble_eq_true rfl) dX2_read_2 (fun H locs hP hD hS => ?_)
  obtain ⟨f0_1, ef0_1, h⟩ := lvl h
  have hPD : WD G DA (wX2 G h0 a0 f0_1 A0 ++ (wX7 G h1 a1 f1 A1)) H := by rw [ef0_1]; exact ⟨hP, hD⟩
  clear ef0_1 hP hD
  refine lv_aload_n hx hb dX2_read_5 rfl (lv_at hl 0 rfl) ?_
  refine lv_iconst (v := 0) hx hb dX2_read_6 (by decide) ?_
  refine va_put (D := G.1) (ci := 2) (v := .int 0) (ty := .int) (C := RX2) (T := TX2) (N := 10) hx hb hts inlX2 tyX2 tyX2_ok nmX2 hown hK hPD.1 hPD.2 hS 0 rfl rfl 9 (by decide) (hts _ gw_182) (fun _ h9 => h9) rfl (by decide +kernel) rfl rfl (Nat.le_of_ble_eq_true rfl) dX2_read_7 (fun H locs hP hD hS => ?_)
  obtain ⟨f0_2, ef0_2, h⟩ := lvl h
  have hPD : WD G DA (wX2 G h0 a0 f0_2 A0 ++ (wX7 G h1 a1 f1 A1)) H := by rw [ef0_2]; exact ⟨hP, hD⟩
  clear ef0_2 hP hD
  refine lv_iconst (v := 1) hx hb dX2_read_10 (by decide) ?_
  refine lv_istore_n (lv' := [(2, .int 1), (0, .ref h0), (1, .ref h1)]) hx hb dX2_read_11 rfl hl (by decide) rfl (fun ls hl => ?_)
  refine lv_iconst (v := 0) hx hb dX2_read_12 (by decide) ?_
  refine lv_istore_n (lv' := [(3, .int 0), (2, .int 1), (0, .ref h0), (1, .ref h1)]) hx hb dX2_read_13 rfl hl (by decide) rfl (fun ls hl => ?_)
  exact ww_f2_read_l14 C0 NF A0 f0_2 f1 1 0 h _ _ _ hPD hS (lv_sub hl [2, 3, 1, 0] rfl)
abbrev rmX2_joined : Room := { frames := 0, cells := 0, slots := 0, locals := 0 }
set_option maxRecDepth 100000 in
set_option maxHeartbeats 4000000 in
theorem ww_f2_joined_b23  (C0 : Cx cX2_joined 4 (some .int) RX2 p s m args meth c G DA) {h0 : Nat} {a0 : Nat → Nat} {A0 : Nat → Nat → Int32} {p1 : Int32} {p2 : Int32} {p3 : Int32}   {res : Int32 × (Nat → Int32)}  : ∀ (f0 : Nat → Int32), f2_joined_b23 A0 p1 p2 p3  f0 = some res → ∀ (H : Heap) (locs : List Loc) (ls : Array Slot), WD G DA (wX2 G h0 a0 f0 A0) H → va_S DA s.heap H locs → lv_has ls 4 [(0, .ref h0), (1, .int p1), (2, .int p2), (3, .int p3)] → W p l e rmX2_joined s m args below meth c H locs 0 0 (MQ below (QI G DA res.1 (wX2 G h0 a0 res.2 A0)) args s 0 0 DA) (F0 m 23 ls []) := by
  obtain ⟨hx, hb, hml, hown, hts⟩ := C0.1
  have hK := C0.2.2.2.1
  intro f0 h _ _ _ hPD hS hl
  unfold f2_joined_b23 at h
  refine lv_iload_n hx hb dX2_joined_23 rfl (lv_at hl 1 rfl) ?_
  by_cases cc37 : p1 = 37
  · have h := (if_pos cc37).symm.trans h
    refine lv_swT (tgt := 201) (k := 37) hx hb dX2_joined_24 cc37 (by decide) (by decide) ?_
    refine lv_iload_n hx hb dX2_joined_201 rfl (lv_at hl 3 rfl) ?_
    refine lv_if_ne (tgt := 209) hx hb dX2_joined_202 (by decide) (fun cc1 => ?_) (fun cc1 => ?_)
    · have h := (if_neg cc1).symm.trans h
      refine lv_iload_n hx hb dX2_joined_209 rfl (lv_at hl 2 rfl) ?_
      refine lv_iload_n hx hb dX2_joined_210 rfl (lv_at hl 3 rfl) ?_
      obtain ⟨hz, h⟩ := ob h
      refine lv_irem hx hb dX2_joined_211 hz ?_
      obtain rfl := Option.some.inj h
      exact eI C0 hPD.1 hPD.2 hS rfl dX2_joined_212
    · have h := (if_pos cc1).symm.trans h
      refine lv_iconst (v := 0) hx hb dX2_joined_205 (by decide) ?_
      refine lv_goto (tgt := 212) hx hb dX2_joined_206 (by decide) ?_
      obtain rfl := Option.some.inj h
      exact eI C0 hPD.1 hPD.2 hS rfl dX2_joined_212
  have h := (if_neg cc37).symm.trans h
  by_cases cc42 : p1 = 42
  · have h := (if_pos cc42).symm.trans h
    refine lv_swT (tgt := 185) (k := 42) hx hb dX2_joined_24 cc42 (by decide) (by decide) ?_
    refine lv_iload_n hx hb dX2_joined_185 rfl (lv_at hl 2 rfl) ?_
    refine lv_iload_n hx hb dX2_joined_186 rfl (lv_at hl 3 rfl) ?_
    refine lv_imul hx hb dX2_joined_187 ?_
    obtain rfl := Option.some.inj h
    exact eI C0 hPD.1 hPD.2 hS rfl dX2_joined_188
  have h := (if_neg cc42).symm.trans h
  by_cases cc43 : p1 = 43
  · have h := (if_pos cc43).symm.trans h
    refine lv_swT (tgt := 177) (k := 43) hx hb dX2_joined_24 cc43 (by decide) (by decide) ?_
    refine lv_iload_n hx hb dX2_joined_177 rfl (lv_at hl 2 rfl) ?_
    refine lv_iload_n hx hb dX2_joined_178 rfl (lv_at hl 3 rfl) ?_
    refine lv_iadd hx hb dX2_joined_179 ?_
    obtain rfl := Option.some.inj h
    exact eI C0 hPD.1 hPD.2 hS rfl dX2_joined_180
  have h := (if_neg cc43).symm.trans h
  by_cases cc45 : p1 = 45
  · have h := (if_pos cc45).symm.trans h
    refine lv_swT (tgt := 181) (k := 45) hx hb dX2_joined_24 cc45 (by decide) (by decide) ?_
    refine lv_iload_n hx hb dX2_joined_181 rfl (lv_at hl 2 rfl) ?_
    refine lv_iload_n hx hb dX2_joined_182 rfl (lv_at hl 3 rfl) ?_
    refine lv_isub hx hb dX2_joined_183 ?_
    obtain rfl := Option.some.inj h
    exact eI C0 hPD.1 hPD.2 hS rfl dX2_joined_184
  have h := (if_neg cc45).symm.trans h
  by_cases cc47 : p1 = 47
  · have h := (if_pos cc47).symm.trans h
    refine lv_swT (tgt := 189) (k := 47) hx hb dX2_joined_24 cc47 (by decide) (by decide) ?_
    refine lv_iload_n hx hb dX2_joined_189 rfl (lv_at hl 3 rfl) ?_
    refine lv_if_ne (tgt := 197) hx hb dX2_joined_190 (by decide) (fun cc1 => ?_) (fun cc1 => ?_)
    · have h := (if_neg cc1).symm.trans h
      refine lv_iload_n hx hb dX2_joined_197 rfl (lv_at hl 2 rfl) ?_
      refine lv_iload_n hx hb dX2_joined_198 rfl (lv_at hl 3 rfl) ?_
      obtain ⟨hz, h⟩ := ob h
      refine lv_idiv hx hb dX2_joined_199 hz ?_
      obtain rfl := Option.some.inj h
      exact eI C0 hPD.1 hPD.2 hS rfl dX2_joined_200
    · have h := (if_pos cc1).symm.trans h
      refine lv_iconst (v := 0) hx hb dX2_joined_193 (by decide) ?_
      refine lv_goto (tgt := 200) hx hb dX2_joined_194 (by decide) ?_
      obtain rfl := Option.some.inj h
      exact eI C0 hPD.1 hPD.2 hS rfl dX2_joined_200
  have h := (if_neg cc47).symm.trans h
  by_cases cc60 : p1 = 60
  · have h := (if_pos cc60).symm.trans h
    refine lv_swT (tgt := 144) (k := 60) hx hb dX2_joined_24 cc60 (by decide) (by decide) ?_
    refine lv_iload_n hx hb dX2_joined_144 rfl (lv_at hl 2 rfl) ?_
    refine lv_iload_n hx hb dX2_joined_145 rfl (lv_at hl 3 rfl) ?_
    refine lv_icmp_ge (tgt := 153) hx hb dX2_joined_146 (by decide) (fun cc1 => ?_) (fun cc1 => ?_)
    · have h := (if_pos cc1).symm.trans h
      refine lv_iconst (v := 0) hx hb dX2_joined_153 (by decide) ?_
      obtain rfl := Option.some.inj h
      exact eI C0 hPD.1 hPD.2 hS rfl dX2_joined_154
    · have h := (if_neg cc1).symm.trans h
      refine lv_iconst (v := 1) hx hb dX2_joined_149 (by decide) ?_
      refine lv_goto (tgt := 154) hx hb dX2_joined_150 (by decide) ?_
      obtain rfl := Option.some.inj h
      exact eI C0 hPD.1 hPD.2 hS rfl dX2_joined_154
  have h := (if_neg cc60).symm.trans h
  by_cases cc61 : p1 = 61
  · have h := (if_pos cc61).symm.trans h
    refine lv_swT (tgt := 166) (k := 61) hx hb dX2_joined_24 cc61 (by decide) (by decide) ?_
    refine lv_iload_n hx hb dX2_joined_166 rfl (lv_at hl 2 rfl) ?_
    refine lv_iload_n hx hb dX2_joined_167 rfl (lv_at hl 3 rfl) ?_
    refine lv_icmp_ne (tgt := 175) hx hb dX2_joined_168 (by decide) (fun cc1 => ?_) (fun cc1 => ?_)
    · have h := (if_neg cc1).symm.trans h
      refine lv_iconst (v := 0) hx hb dX2_joined_175 (by decide) ?_
      obtain rfl := Option.some.inj h
      exact eI C0 hPD.1 hPD.2 hS rfl dX2_joined_176
    · have h := (if_pos cc1).symm.trans h
      refine lv_iconst (v := 1) hx hb dX2_joined_171 (by decide) ?_
      refine lv_goto (tgt := 176) hx hb dX2_joined_172 (by decide) ?_
      obtain rfl := Option.some.inj h
      exact eI C0 hPD.1 hPD.2 hS rfl dX2_joined_176
  have h := (if_neg cc61).symm.trans h
  by_cases cc62 : p1 = 62
  · have h := (if_pos cc62).symm.trans h
    refine lv_swT (tgt := 155) (k := 62) hx hb dX2_joined_24 cc62 (by decide) (by decide) ?_
    refine lv_iload_n hx hb dX2_joined_155 rfl (lv_at hl 2 rfl) ?_
    refine lv_iload_n hx hb dX2_joined_156 rfl (lv_at hl 3 rfl) ?_
    refine lv_icmp_le (tgt := 164) hx hb dX2_joined_157 (by decide) (fun cc1 => ?_) (fun cc1 => ?_)
    · have h := (if_pos cc1).symm.trans h
      refine lv_iconst (v := 0) hx hb dX2_joined_164 (by decide) ?_
      obtain rfl := Option.some.inj h
      exact eI C0 hPD.1 hPD.2 hS rfl dX2_joined_165
    · have h := (if_neg cc1).symm.trans h
      refine lv_iconst (v := 1) hx hb dX2_joined_160 (by decide) ?_
      refine lv_goto (tgt := 165) hx hb dX2_joined_161 (by decide) ?_
      obtain rfl := Option.some.inj h
      exact eI C0 hPD.1 hPD.2 hS rfl dX2_joined_165
  have h := (if_neg cc62).symm.trans h
  refine lv_swTD (tgt := 213) (ks := [37, 42, 43, 45, 47, 60, 61, 62]) hx hb dX2_joined_24 (by decide) (by decide) ⟨cc37, cc42, cc43, cc45, cc47, cc60, cc61, cc62, trivial⟩ (by decide) ?_
  refine lv_iload_n hx hb dX2_joined_213 rfl (lv_at hl 2 rfl) ?_
  obtain rfl := Option.some.inj h
  exact eI C0 hPD.1 hPD.2 hS rfl dX2_joined_214
set_option maxRecDepth 100000 in
set_option maxHeartbeats 4000000 in
theorem kt_X2_joined (l : Launch) (G : Gp) (h0 : Nat) (a0 : Nat → Nat) (f0 : Nat → Int32) (A0 : Nat → Nat → Int32) (p1 : Int32) (p2 : Int32) (p3 : Int32) : ∀ {r : Int32 × (Nat → Int32)}, f2_joined f0 A0 p1 p2 p3 = some r → CtrI l yX2_joined cX2_joined 4 (some .int) rmX2_joined G [.ref h0, .int p1, .int p2, .int p3] (wX2 G h0 a0 f0 A0) r.1 (wX2 G h0 a0 r.2 A0) := by
  intro res h
  refine ctrI_of (cc := cX2_joined) (maxL := 4) (ret := (some .int)) (by decide +kernel) rfl (Nat.le_of_ble_eq_true rfl) (fun p e s m below meth c DA C0 hP hD ls hl => ?_)
  have hPD : WD G DA (wX2 G h0 a0 f0 A0) s.heap := ⟨hP, hD⟩
  have hS : va_S DA s.heap s.heap [] := va_S.rf
  have hl : lv_has ls 4 [(0, .ref h0), (1, .int p1), (2, .int p2), (3, .int p3)] := hl
  obtain ⟨hx, hb, hml, hown, hts⟩ := C0.1
  have hK := C0.2.2.2.1
  unfold f2_joined at h
  refine lv_iload_n hx hb dX2_joined_0 rfl (lv_at hl 3 rfl) ?_
  refine lv_if_ne (tgt := 23) hx hb dX2_joined_1 (by decide) (fun cc1 => ?_) (fun cc1 => ?_)
  · have h := (if_neg cc1).symm.trans h
    exact ww_f2_joined_b23 C0 f0 h _ _ _ hPD hS (lv_sub hl [0, 1, 2, 3] rfl)
  · have h := (if_pos cc1).symm.trans h
    refine lv_iload_n hx hb dX2_joined_4 rfl (lv_at hl 1 rfl) ?_
    refine lv_bipush (v := 47) hx hb dX2_joined_5 (by decide) ?_
    refine lv_icmp_eq (tgt := 16) hx hb dX2_joined_7 (by decide) (fun cc1 => ?_) (fun cc1 => ?_)
    · have h := (if_pos cc1).symm.trans h
      refine lv_aload_n hx hb dX2_joined_16 rfl (lv_at hl 0 rfl) ?_
      refine lv_iconst (v := 1) hx hb dX2_joined_17 (by decide) ?_
      refine va_put (D := G.1) (ci := 2) (v := .int 1) (ty := .boolean) (C := RX2) (T := TX2) (N := 10) hx hb hts inlX2 tyX2 tyX2_ok nmX2 hown hK hPD.1 hPD.2 hS 0 rfl rfl 8 (by decide) (hts _ gw_197) (fun _ h9 => h9) rfl (by decide +kernel) rfl rfl (Nat.le_of_ble_eq_true rfl) dX2_joined_18 (fun H locs hP hD hS => ?_)
      obtain ⟨f0_1, ef0_1, h⟩ := lvl h
      have hPD : WD G DA (wX2 G h0 a0 f0_1 A0) H := by rw [ef0_1]; exact ⟨hP, hD⟩
      clear ef0_1 hP hD
      refine lv_iconst (v := 0) hx hb dX2_joined_21 (by decide) ?_
      obtain rfl := Option.some.inj h
      exact eI C0 hPD.1 hPD.2 hS rfl dX2_joined_22
    · have h := (if_neg cc1).symm.trans h
      refine lv_iload_n hx hb dX2_joined_10 rfl (lv_at hl 1 rfl) ?_
      refine lv_bipush (v := 37) hx hb dX2_joined_11 (by decide) ?_
      refine lv_icmp_ne (tgt := 23) hx hb dX2_joined_13 (by decide) (fun cc1 => ?_) (fun cc1 => ?_)
      · have h := (if_neg cc1).symm.trans h
        exact ww_f2_joined_b23 C0 f0 h _ _ _ hPD hS (lv_sub hl [0, 1, 2, 3] rfl)
      · have h := (if_pos cc1).symm.trans h
        refine lv_aload_n hx hb dX2_joined_16 rfl (lv_at hl 0 rfl) ?_
        refine lv_iconst (v := 1) hx hb dX2_joined_17 (by decide) ?_
        refine va_put (D := G.1) (ci := 2) (v := .int 1) (ty := .boolean) (C := RX2) (T := TX2) (N := 10) hx hb hts inlX2 tyX2 tyX2_ok nmX2 hown hK hPD.1 hPD.2 hS 0 rfl rfl 8 (by decide) (hts _ gw_197) (fun _ h9 => h9) rfl (by decide +kernel) rfl rfl (Nat.le_of_ble_eq_true rfl) dX2_joined_18 (fun H locs hP hD hS => ?_)
        obtain ⟨f0_2, ef0_2, h⟩ := lvl h
        have hPD : WD G DA (wX2 G h0 a0 f0_2 A0) H := by rw [ef0_2]; exact ⟨hP, hD⟩
        clear ef0_2 hP hD
        refine lv_iconst (v := 0) hx hb dX2_joined_21 (by decide) ?_
        obtain rfl := Option.some.inj h
        exact eI C0 hPD.1 hPD.2 hS rfl dX2_joined_22
abbrev rmX2_reckoned : Room := { frames := 1, cells := 0, slots := 0, locals := 23 }
set_option maxRecDepth 100000 in
set_option maxHeartbeats 4000000 in
theorem ww_f2_reckoned_b261  (C0 : Cx cX2_reckoned 11 (some .int) RX2 p s m args meth c G DA) {h0 : Nat} {a0 : Nat → Nat} {q1 : Nat} {n1 : Nat} {xs1 : Nat → Int32} {p1 : Int32} {p2 : Int32} (hn1 : n1 < 2147483648)  {res : Int32 × (Nat → Nat → Int32) × (Nat → Int32)}  : ∀ (A0 : Nat → Nat → Int32) (f0 : Nat → Int32) (l4 : Int32), f2_reckoned_b261 n1 xs1 p1 p2  A0 f0 l4 = some res → ∀ (H : Heap) (locs : List Loc) (ls : Array Slot), WD G DA (wX2 G h0 a0 f0 A0 ++ (wI G q1 n1 xs1)) H → va_S DA s.heap H locs → lv_has ls 11 [(0, .ref h0), (1, .int p1), (2, .int p2), (3, .ref q1), (4, .int l4)] → W p l e rmX2_reckoned s m args below meth c H locs 0 0 (MQ below (QI G DA res.1 (wX2 G h0 a0 res.2.2 res.2.1 ++ (wI G q1 n1 xs1))) args s 0 0 DA) (F0 m 261 ls []) := by
  obtain ⟨hx, hb, hml, hown, hts⟩ := C0.1
  have hK := C0.2.2.2.1
  intro A0 f0 l4 h _ _ _ hPD hS hl
  unfold f2_reckoned_b261 at h
  refine lv_aload_n hx hb dX2_reckoned_261 rfl (lv_at hl 0 rfl) ?_
  refine va_get (D := G.1) (ci := 2) (v := .int (f0 8)) (C := RX2) (T := TX2) (N := 10) hx hb hts inlX2 hown hK hPD.1 0 rfl rfl 8 (by decide) (hts _ gw_197) (fun _ h9 => h9) rfl dX2_reckoned_262 ?_
  refine lv_if_eq (tgt := 272) hx hb dX2_reckoned_265 (by decide) (fun cc1 => ?_) (fun cc1 => ?_)
  · have h := (if_pos cc1).symm.trans h
    refine lv_aload_n hx hb dX2_reckoned_272 rfl (lv_at hl 0 rfl) ?_
    refine va_get (D := G.1) (ci := 2) (v := .ref (a0 6)) (C := RX2) (T := TX2) (N := 10) hx hb hts inlX2 hown hK hPD.1 0 rfl rfl 6 (by decide) (hts _ gw_198) (fun _ h9 => h9) rfl dX2_reckoned_273 ?_
    refine lv_iload hx hb dX2_reckoned_276 (lv_at hl 4 rfl) ?_
    refine lv_iconst (v := 1) hx hb dX2_reckoned_278 (by decide) ?_
    refine lv_isub hx hb dX2_reckoned_279 ?_
    refine kNI (As := [.ref (a0 6), .int (l4 - 1)]) (rest := []) C0 (kt_X9_at l G (a0 6) 240 (A0 6) (l4 - 1) (by decide)) gi_U_X9_at (host := "IdleCrimes") (index := 116) (List.mem_of_getElem? (i := 28) rfl) gw_6 gw_7 (n := 2) rfl (by decide +kernel) ⟨rfl, rfl, Nat.le_of_ble_eq_true rfl, Nat.le_of_ble_eq_true rfl⟩ hPD hS [7] [0, 1, 2, 3, 4, 5, 6, 8] [0, 1, 2, 3, 4, 5, 6, 8, 7] (wN := (wX2 G h0 a0 f0 A0 ++ (wI G q1 n1 xs1))) rfl rfl rfl rfl rfl hl.1 (Nat.le_of_ble_eq_true rfl) dX2_reckoned_280 (fun H locs hPD hS => ?_)
    obtain rfl := Option.some.inj h
    exact eI C0 hPD.1 hPD.2 hS rfl dX2_reckoned_283
  · have h := (if_neg cc1).symm.trans h
    refine lv_iconst (v := 0) hx hb dX2_reckoned_268 (by decide) ?_
    refine lv_goto (tgt := 283) hx hb dX2_reckoned_269 (by decide) ?_
    obtain rfl := Option.some.inj h
    exact eI C0 hPD.1 hPD.2 hS rfl dX2_reckoned_283
set_option maxRecDepth 100000 in
set_option maxHeartbeats 4000000 in
theorem ww_f2_reckoned_b108  (C0 : Cx cX2_reckoned 11 (some .int) RX2 p s m args meth c G DA) {h0 : Nat} {a0 : Nat → Nat} {q1 : Nat} {n1 : Nat} {xs1 : Nat → Int32} {p1 : Int32} {p2 : Int32} (hn1 : n1 < 2147483648) {k14 : (Nat → Nat → Int32) → (Nat → Int32) → Int32 → Int32 → Int32 → Option (Int32 × (Nat → Nat → Int32) × (Nat → Int32))} {res : Int32 × (Nat → Nat → Int32) × (Nat → Int32)} (hk14 : ∀ (A0 : Nat → Nat → Int32) (f0 : Nat → Int32) (l4 : Int32) (l5 : Int32) (l6 : Int32), k14 A0 f0 l4 l5 l6 = some res → ∀ (H : Heap) (locs : List Loc) (ls : Array Slot), WD G DA (wX2 G h0 a0 f0 A0 ++ (wI G q1 n1 xs1)) H → va_S DA s.heap H locs → lv_has ls 11 [(0, .ref h0), (1, .int p1), (2, .int p2), (3, .ref q1), (4, .int l4), (5, .int l5), (6, .int l6)] → W p l e rmX2_reckoned s m args below meth c H locs 0 0 (MQ below (QI G DA res.1 (wX2 G h0 a0 res.2.2 res.2.1 ++ (wI G q1 n1 xs1))) args s 0 0 DA) (F0 m 14 ls [])) : ∀ (A0 : Nat → Nat → Int32) (f0 : Nat → Int32) (l4 : Int32) (l5 : Int32) (l6 : Int32) (s0 : Int32) (s1 : Int32), f2_reckoned_b108 n1 xs1 p1 p2 k14 A0 f0 l4 l5 l6 s0 s1 = some res → ∀ (H : Heap) (locs : List Loc) (ls : Array Slot), WD G DA (wX2 G h0 a0 f0 A0 ++ (wI G q1 n1 xs1)) H → va_S DA s.heap H locs → lv_has ls 11 [(0, .ref h0), (1, .int p1), (2, .int p2), (3, .ref q1), (4, .int l4), (5, .int l5), (6, .int l6)] → W p l e rmX2_reckoned s m args below meth c H locs 0 0 (MQ below (QI G DA res.1 (wX2 G h0 a0 res.2.2 res.2.1 ++ (wI G q1 n1 xs1))) args s 0 0 DA) (F0 m 108 ls [.int s0, .int s1, .ref (a0 6)]) := by
  obtain ⟨hx, hb, hml, hown, hts⟩ := C0.1
  have hK := C0.2.2.2.1
  intro A0 f0 l4 l5 l6 s0 s1 h _ _ _ hPD hS hl
  unfold f2_reckoned_b108 at h
  obtain ⟨z_2, ez_2, h⟩ := lvl h
  have kc := kt_X9_put l G (a0 6) 240 (A0 6) s1 s0 (by decide)
  rw [← ez_2] at kc
  clear ez_2
  refine kNV (As := [.ref (a0 6), .int s1, .int s0]) (rest := []) C0 (kc) gi_U_X9_put (host := "IdleCrimes") (index := 65) (List.mem_of_getElem? (i := 12) rfl) gw_6 gw_19 (n := 3) rfl (by decide +kernel) ⟨rfl, rfl, Nat.le_of_ble_eq_true rfl, Nat.le_of_ble_eq_true rfl⟩ hPD hS [7] [0, 1, 2, 3, 4, 5, 6, 8] [0, 1, 2, 3, 4, 5, 6, 8, 7] (wN := (wX2 G h0 a0 f0 (updA A0 6 z_2) ++ (wI G q1 n1 xs1))) rfl rfl rfl rfl rfl hl.1 (Nat.le_of_ble_eq_true rfl) dX2_reckoned_108 (fun H locs hPD hS => ?_)
  obtain ⟨A0_3, eA0_3, h⟩ := lvl h
  have hPD : WD G DA (wX2 G h0 a0 f0 A0_3 ++ (wI G q1 n1 xs1)) H := by rw [eA0_3]; exact hPD
  clear eA0_3
  refine lv_iinc (v := l4 + 1) (lv' := [(4, .int (l4 + 1)), (0, .ref h0), (1, .int p1), (2, .int p2), (3, .ref q1), (5, .int l5), (6, .int l6)]) hx hb dX2_reckoned_111 hl (k := 4) rfl rfl (by decide) rfl (fun ls hl => ?_)
  refine lv_goto (tgt := 255) hx hb dX2_reckoned_114 (by decide) ?_
  refine lv_iinc (v := l6 + 1) (lv' := [(6, .int (l6 + 1)), (4, .int (l4 + 1)), (0, .ref h0), (1, .int p1), (2, .int p2), (3, .ref q1), (5, .int l5)]) hx hb dX2_reckoned_255 hl (k := 6) rfl rfl (by decide) rfl (fun ls hl => ?_)
  refine lv_goto (tgt := 14) hx hb dX2_reckoned_258 (by decide) ?_
  exact hk14 A0_3 f0 (l4 + 1) l5 (l6 + 1) h _ _ _ hPD hS (lv_sub hl [2, 3, 4, 5, 1, 6, 0] rfl)
set_option maxRecDepth 100000 in
set_option maxHeartbeats 4000000 in
theorem ww_f2_reckoned_b85  (C0 : Cx cX2_reckoned 11 (some .int) RX2 p s m args meth c G DA) {h0 : Nat} {a0 : Nat → Nat} {q1 : Nat} {n1 : Nat} {xs1 : Nat → Int32} {p1 : Int32} {p2 : Int32} (hn1 : n1 < 2147483648) {k14 : (Nat → Nat → Int32) → (Nat → Int32) → Int32 → Int32 → Int32 → Option (Int32 × (Nat → Nat → Int32) × (Nat → Int32))} {res : Int32 × (Nat → Nat → Int32) × (Nat → Int32)} (hk14 : ∀ (A0 : Nat → Nat → Int32) (f0 : Nat → Int32) (l4 : Int32) (l5 : Int32) (l6 : Int32), k14 A0 f0 l4 l5 l6 = some res → ∀ (H : Heap) (locs : List Loc) (ls : Array Slot), WD G DA (wX2 G h0 a0 f0 A0 ++ (wI G q1 n1 xs1)) H → va_S DA s.heap H locs → lv_has ls 11 [(0, .ref h0), (1, .int p1), (2, .int p2), (3, .ref q1), (4, .int l4), (5, .int l5), (6, .int l6)] → W p l e rmX2_reckoned s m args below meth c H locs 0 0 (MQ below (QI G DA res.1 (wX2 G h0 a0 res.2.2 res.2.1 ++ (wI G q1 n1 xs1))) args s 0 0 DA) (F0 m 14 ls [])) : ∀ (A0 : Nat → Nat → Int32) (f0 : Nat → Int32) (l4 : Int32) (l5 : Int32) (l6 : Int32) (l7 : Int32) (l8 : Int32), f2_reckoned_b85 n1 xs1 p1 p2 k14 A0 f0 l4 l5 l6 l7 l8 = some res → ∀ (H : Heap) (locs : List Loc) (ls : Array Slot), WD G DA (wX2 G h0 a0 f0 A0 ++ (wI G q1 n1 xs1)) H → va_S DA s.heap H locs → lv_has ls 11 [(0, .ref h0), (1, .int p1), (2, .int p2), (3, .ref q1), (4, .int l4), (5, .int l5), (6, .int l6), (7, .int l7), (8, .int l8)] → W p l e rmX2_reckoned s m args below meth c H locs 0 0 (MQ below (QI G DA res.1 (wX2 G h0 a0 res.2.2 res.2.1 ++ (wI G q1 n1 xs1))) args s 0 0 DA) (F0 m 85 ls []) := by
  obtain ⟨hx, hb, hml, hown, hts⟩ := C0.1
  have hK := C0.2.2.2.1
  intro A0 f0 l4 l5 l6 l7 l8 h _ _ _ hPD hS hl
  unfold f2_reckoned_b85 at h
  refine lv_aload_n hx hb dX2_reckoned_85 rfl (lv_at hl 0 rfl) ?_
  refine va_get (D := G.1) (ci := 2) (v := .ref (a0 6)) (C := RX2) (T := TX2) (N := 10) hx hb hts inlX2 hown hK hPD.1 0 rfl rfl 6 (by decide) (hts _ gw_198) (fun _ h9 => h9) rfl dX2_reckoned_86 ?_
  refine lv_iload hx hb dX2_reckoned_89 (lv_at hl 4 rfl) ?_
  refine lv_iload hx hb dX2_reckoned_91 (lv_at hl 7 rfl) ?_
  refine lv_iconst (v := 1) hx hb dX2_reckoned_93 (by decide) ?_
  refine lv_icmp_ne (tgt := 102) hx hb dX2_reckoned_94 (by decide) (fun cc1 => ?_) (fun cc1 => ?_)
  · have h := (if_neg cc1).symm.trans h
    refine lv_aload_n hx hb dX2_reckoned_102 rfl (lv_at hl 3 rfl) ?_
    refine lv_iload hx hb dX2_reckoned_103 (lv_at hl 8 rfl) ?_
    refine kNI (As := [.ref q1, .int l8]) (rest := [.int l4, .ref (a0 6)]) C0 (kt_X9_at l G q1 n1 xs1 l8 hn1) gi_U_X9_at (host := "IdleCrimes") (index := 116) (List.mem_of_getElem? (i := 28) rfl) gw_6 gw_7 (n := 2) rfl (by decide +kernel) ⟨rfl, rfl, Nat.le_of_ble_eq_true rfl, Nat.le_of_ble_eq_true rfl⟩ hPD hS [8] [0, 1, 2, 3, 4, 5, 6, 7] [0, 1, 2, 3, 4, 5, 6, 7, 8] (wN := (wX2 G h0 a0 f0 A0 ++ (wI G q1 n1 xs1))) rfl rfl rfl rfl rfl hl.1 (Nat.le_of_ble_eq_true rfl) dX2_reckoned_105 (fun H locs hPD hS => ?_)
    exact ww_f2_reckoned_b108 C0 hn1 hk14 A0 f0 l4 l5 l6 (f9_at n1 xs1 l8) l4 h _ _ _ hPD hS (lv_sub hl [0, 1, 2, 3, 4, 5, 6] rfl)
  · have h := (if_pos cc1).symm.trans h
    refine lv_iload hx hb dX2_reckoned_97 (lv_at hl 8 rfl) ?_
    refine lv_goto (tgt := 108) hx hb dX2_reckoned_99 (by decide) ?_
    exact ww_f2_reckoned_b108 C0 hn1 hk14 A0 f0 l4 l5 l6 l8 l4 h _ _ _ hPD hS (lv_sub hl [0, 1, 2, 3, 4, 5, 6] rfl)
set_option maxRecDepth 100000 in
set_option maxHeartbeats 4000000 in
theorem ww_f2_reckoned_b202  (C0 : Cx cX2_reckoned 11 (some .int) RX2 p s m args meth c G DA) {h0 : Nat} {a0 : Nat → Nat} {q1 : Nat} {n1 : Nat} {xs1 : Nat → Int32} {p1 : Int32} {p2 : Int32} (hn1 : n1 < 2147483648) {k14 : (Nat → Nat → Int32) → (Nat → Int32) → Int32 → Int32 → Int32 → Option (Int32 × (Nat → Nat → Int32) × (Nat → Int32))} {res : Int32 × (Nat → Nat → Int32) × (Nat → Int32)} (hk14 : ∀ (A0 : Nat → Nat → Int32) (f0 : Nat → Int32) (l4 : Int32) (l5 : Int32) (l6 : Int32), k14 A0 f0 l4 l5 l6 = some res → ∀ (H : Heap) (locs : List Loc) (ls : Array Slot), WD G DA (wX2 G h0 a0 f0 A0 ++ (wI G q1 n1 xs1)) H → va_S DA s.heap H locs → lv_has ls 11 [(0, .ref h0), (1, .int p1), (2, .int p2), (3, .ref q1), (4, .int l4), (5, .int l5), (6, .int l6)] → W p l e rmX2_reckoned s m args below meth c H locs 0 0 (MQ below (QI G DA res.1 (wX2 G h0 a0 res.2.2 res.2.1 ++ (wI G q1 n1 xs1))) args s 0 0 DA) (F0 m 14 ls [])) : ∀ (A0 : Nat → Nat → Int32) (f0 : Nat → Int32) (l5 : Int32) (l6 : Int32) (l8 : Int32) (l10 : Int32) (s0 : Int32) (s1 : Int32), f2_reckoned_b202 n1 xs1 p1 p2 k14 A0 f0 l5 l6 l8 l10 s0 s1 = some res → ∀ (H : Heap) (locs : List Loc) (ls : Array Slot), WD G DA (wX2 G h0 a0 f0 A0 ++ (wI G q1 n1 xs1)) H → va_S DA s.heap H locs → lv_has ls 11 [(0, .ref h0), (1, .int p1), (2, .int p2), (3, .ref q1), (5, .int l5), (6, .int l6), (8, .int l8), (10, .int l10)] → W p l e rmX2_reckoned s m args below meth c H locs 0 0 (MQ below (QI G DA res.1 (wX2 G h0 a0 res.2.2 res.2.1 ++ (wI G q1 n1 xs1))) args s 0 0 DA) (F0 m 202 ls [.int s0, .int s1]) := by
  obtain ⟨hx, hb, hml, hown, hts⟩ := C0.1
  have hK := C0.2.2.2.1
  intro A0 f0 l5 l6 l8 l10 s0 s1 h _ _ _ hPD hS hl
  unfold f2_reckoned_b202 at h
  refine lv_isub hx hb dX2_reckoned_202 ?_
  refine lv_istore (lv' := [(4, .int (s1 - s0)), (0, .ref h0), (1, .int p1), (2, .int p2), (3, .ref q1), (5, .int l5), (6, .int l6), (8, .int l8), (10, .int l10)]) hx hb dX2_reckoned_203 hl (by decide) rfl (fun ls hl => ?_)
  refine lv_iload hx hb dX2_reckoned_205 (lv_at hl 8 rfl) ?_
  refine lv_if_eq (tgt := 215) hx hb dX2_reckoned_207 (by decide) (fun cc1 => ?_) (fun cc1 => ?_)
  · have h := (if_pos cc1).symm.trans h
    refine lv_iload hx hb dX2_reckoned_215 (lv_at hl 7 rfl) ?_
    refine lv_istore (lv' := [(5, .int l8), (4, .int (s1 - s0)), (0, .ref h0), (1, .int p1), (2, .int p2), (3, .ref q1), (6, .int l6), (8, .int l8), (10, .int l10)]) hx hb dX2_reckoned_217 hl (by decide) rfl (fun ls hl => ?_)
    refine lv_goto (tgt := 255) hx hb dX2_reckoned_219 (by decide) ?_
    refine lv_iinc (v := l6 + 1) (lv' := [(6, .int (l6 + 1)), (5, .int l8), (4, .int (s1 - s0)), (0, .ref h0), (1, .int p1), (2, .int p2), (3, .ref q1), (8, .int l8), (10, .int l10)]) hx hb dX2_reckoned_255 hl (k := 6) rfl rfl (by decide) rfl (fun ls hl => ?_)
    refine lv_goto (tgt := 14) hx hb dX2_reckoned_258 (by decide) ?_
    exact hk14 A0 f0 (s1 - s0) l8 (l6 + 1) h _ _ _ hPD hS (lv_sub hl [3, 4, 5, 6, 2, 1, 0] rfl)
  · have h := (if_neg cc1).symm.trans h
    refine lv_iload hx hb dX2_reckoned_210 (lv_at hl 5 rfl) ?_
    refine lv_goto (tgt := 217) hx hb dX2_reckoned_212 (by decide) ?_
    refine lv_istore (lv' := [(5, .int l5), (4, .int (s1 - s0)), (0, .ref h0), (1, .int p1), (2, .int p2), (3, .ref q1), (6, .int l6), (8, .int l8), (10, .int l10)]) hx hb dX2_reckoned_217 hl (by decide) rfl (fun ls hl => ?_)
    refine lv_goto (tgt := 255) hx hb dX2_reckoned_219 (by decide) ?_
    refine lv_iinc (v := l6 + 1) (lv' := [(6, .int (l6 + 1)), (5, .int l5), (4, .int (s1 - s0)), (0, .ref h0), (1, .int p1), (2, .int p2), (3, .ref q1), (8, .int l8), (10, .int l10)]) hx hb dX2_reckoned_255 hl (k := 6) rfl rfl (by decide) rfl (fun ls hl => ?_)
    refine lv_goto (tgt := 14) hx hb dX2_reckoned_258 (by decide) ?_
    exact hk14 A0 f0 (s1 - s0) l5 (l6 + 1) h _ _ _ hPD hS (lv_sub hl [3, 4, 5, 6, 2, 1, 0] rfl)
set_option maxRecDepth 100000 in
set_option maxHeartbeats 4000000 in
theorem ww_f2_reckoned_b180  (C0 : Cx cX2_reckoned 11 (some .int) RX2 p s m args meth c G DA) {h0 : Nat} {a0 : Nat → Nat} {q1 : Nat} {n1 : Nat} {xs1 : Nat → Int32} {p1 : Int32} {p2 : Int32} (hn1 : n1 < 2147483648) {k14 : (Nat → Nat → Int32) → (Nat → Int32) → Int32 → Int32 → Int32 → Option (Int32 × (Nat → Nat → Int32) × (Nat → Int32))} {res : Int32 × (Nat → Nat → Int32) × (Nat → Int32)} (hk14 : ∀ (A0 : Nat → Nat → Int32) (f0 : Nat → Int32) (l4 : Int32) (l5 : Int32) (l6 : Int32), k14 A0 f0 l4 l5 l6 = some res → ∀ (H : Heap) (locs : List Loc) (ls : Array Slot), WD G DA (wX2 G h0 a0 f0 A0 ++ (wI G q1 n1 xs1)) H → va_S DA s.heap H locs → lv_has ls 11 [(0, .ref h0), (1, .int p1), (2, .int p2), (3, .ref q1), (4, .int l4), (5, .int l5), (6, .int l6)] → W p l e rmX2_reckoned s m args below meth c H locs 0 0 (MQ below (QI G DA res.1 (wX2 G h0 a0 res.2.2 res.2.1 ++ (wI G q1 n1 xs1))) args s 0 0 DA) (F0 m 14 ls [])) : ∀ (A0 : Nat → Nat → Int32) (f0 : Nat → Int32) (l4 : Int32) (l5 : Int32) (l6 : Int32) (l8 : Int32) (s0 : Int32) (s1 : Int32), f2_reckoned_b180 n1 xs1 p1 p2 k14 A0 f0 l4 l5 l6 l8 s0 s1 = some res → ∀ (H : Heap) (locs : List Loc) (ls : Array Slot), WD G DA (wX2 G h0 a0 f0 A0 ++ (wI G q1 n1 xs1)) H → va_S DA s.heap H locs → lv_has ls 11 [(0, .ref h0), (1, .int p1), (2, .int p2), (3, .ref q1), (4, .int l4), (5, .int l5), (6, .int l6), (8, .int l8)] → W p l e rmX2_reckoned s m args below meth c H locs 0 0 (MQ below (QI G DA res.1 (wX2 G h0 a0 res.2.2 res.2.1 ++ (wI G q1 n1 xs1))) args s 0 0 DA) (F0 m 180 ls [.int s0, .int s1]) := by
  obtain ⟨hx, hb, hml, hown, hts⟩ := C0.1
  have hK := C0.2.2.2.1
  intro A0 f0 l4 l5 l6 l8 s0 s1 h _ _ _ hPD hS hl
  unfold f2_reckoned_b180 at h
  refine lv_icmp_ne (tgt := 187) hx hb dX2_reckoned_180 (by decide) (fun cc1 => ?_) (fun cc1 => ?_)
  · have h := (if_neg cc1).symm.trans h
    refine lv_iconst (v := 0) hx hb dX2_reckoned_187 (by decide) ?_
    refine lv_istore (lv' := [(10, .int 0), (0, .ref h0), (1, .int p1), (2, .int p2), (3, .ref q1), (4, .int l4), (5, .int l5), (6, .int l6), (8, .int l8)]) hx hb dX2_reckoned_188 hl (by decide) rfl (fun ls hl => ?_)
    refine lv_iload hx hb dX2_reckoned_190 (lv_at hl 5 rfl) ?_
    refine lv_iload hx hb dX2_reckoned_192 (lv_at hl 0 rfl) ?_
    refine lv_if_eq (tgt := 201) hx hb dX2_reckoned_194 (by decide) (fun cc1 => ?_) (fun cc1 => ?_)
    · have h := (if_pos cc1).symm.trans h
      refine lv_iconst (v := 0) hx hb dX2_reckoned_201 (by decide) ?_
      exact ww_f2_reckoned_b202 C0 hn1 hk14 A0 f0 l5 l6 l8 0 0 l4 h _ _ _ hPD hS (lv_sub hl [1, 2, 3, 4, 6, 7, 8, 0] rfl)
    · have h := (if_neg cc1).symm.trans h
      refine lv_iconst (v := 1) hx hb dX2_reckoned_197 (by decide) ?_
      refine lv_goto (tgt := 202) hx hb dX2_reckoned_198 (by decide) ?_
      exact ww_f2_reckoned_b202 C0 hn1 hk14 A0 f0 l5 l6 l8 0 1 l4 h _ _ _ hPD hS (lv_sub hl [1, 2, 3, 4, 6, 7, 8, 0] rfl)
  · have h := (if_pos cc1).symm.trans h
    refine lv_iconst (v := 1) hx hb dX2_reckoned_183 (by decide) ?_
    refine lv_goto (tgt := 188) hx hb dX2_reckoned_184 (by decide) ?_
    refine lv_istore (lv' := [(10, .int 1), (0, .ref h0), (1, .int p1), (2, .int p2), (3, .ref q1), (4, .int l4), (5, .int l5), (6, .int l6), (8, .int l8)]) hx hb dX2_reckoned_188 hl (by decide) rfl (fun ls hl => ?_)
    refine lv_iload hx hb dX2_reckoned_190 (lv_at hl 5 rfl) ?_
    refine lv_iload hx hb dX2_reckoned_192 (lv_at hl 0 rfl) ?_
    refine lv_if_eq (tgt := 201) hx hb dX2_reckoned_194 (by decide) (fun cc1 => ?_) (fun cc1 => ?_)
    · have h := (if_pos cc1).symm.trans h
      refine lv_iconst (v := 0) hx hb dX2_reckoned_201 (by decide) ?_
      exact ww_f2_reckoned_b202 C0 hn1 hk14 A0 f0 l5 l6 l8 1 0 l4 h _ _ _ hPD hS (lv_sub hl [1, 2, 3, 4, 6, 7, 8, 0] rfl)
    · have h := (if_neg cc1).symm.trans h
      refine lv_iconst (v := 1) hx hb dX2_reckoned_197 (by decide) ?_
      refine lv_goto (tgt := 202) hx hb dX2_reckoned_198 (by decide) ?_
      exact ww_f2_reckoned_b202 C0 hn1 hk14 A0 f0 l5 l6 l8 1 1 l4 h _ _ _ hPD hS (lv_sub hl [1, 2, 3, 4, 6, 7, 8, 0] rfl)
set_option maxRecDepth 100000 in
set_option maxHeartbeats 4000000 in
theorem ww_f2_reckoned_b159  (C0 : Cx cX2_reckoned 11 (some .int) RX2 p s m args meth c G DA) {h0 : Nat} {a0 : Nat → Nat} {q1 : Nat} {n1 : Nat} {xs1 : Nat → Int32} {p1 : Int32} {p2 : Int32} (hn1 : n1 < 2147483648) {k14 : (Nat → Nat → Int32) → (Nat → Int32) → Int32 → Int32 → Int32 → Option (Int32 × (Nat → Nat → Int32) × (Nat → Int32))} {res : Int32 × (Nat → Nat → Int32) × (Nat → Int32)} (hk14 : ∀ (A0 : Nat → Nat → Int32) (f0 : Nat → Int32) (l4 : Int32) (l5 : Int32) (l6 : Int32), k14 A0 f0 l4 l5 l6 = some res → ∀ (H : Heap) (locs : List Loc) (ls : Array Slot), WD G DA (wX2 G h0 a0 f0 A0 ++ (wI G q1 n1 xs1)) H → va_S DA s.heap H locs → lv_has ls 11 [(0, .ref h0), (1, .int p1), (2, .int p2), (3, .ref q1), (4, .int l4), (5, .int l5), (6, .int l6)] → W p l e rmX2_reckoned s m args below meth c H locs 0 0 (MQ below (QI G DA res.1 (wX2 G h0 a0 res.2.2 res.2.1 ++ (wI G q1 n1 xs1))) args s 0 0 DA) (F0 m 14 ls [])) : ∀ (A0 : Nat → Nat → Int32) (f0 : Nat → Int32) (l4 : Int32) (l5 : Int32) (l6 : Int32) (l7 : Int32) (l8 : Int32) (l9 : Int32), f2_reckoned_b159 n1 xs1 p1 p2 k14 A0 f0 l4 l5 l6 l7 l8 l9 = some res → ∀ (H : Heap) (locs : List Loc) (ls : Array Slot), WD G DA (wX2 G h0 a0 f0 A0 ++ (wI G q1 n1 xs1)) H → va_S DA s.heap H locs → lv_has ls 11 [(0, .ref h0), (1, .int p1), (2, .int p2), (3, .ref q1), (4, .int l4), (5, .int l5), (6, .int l6), (7, .int l7), (8, .int l8), (9, .int l9)] → W p l e rmX2_reckoned s m args below meth c H locs 0 0 (MQ below (QI G DA res.1 (wX2 G h0 a0 res.2.2 res.2.1 ++ (wI G q1 n1 xs1))) args s 0 0 DA) (F0 m 159 ls []) := by
  obtain ⟨hx, hb, hml, hown, hts⟩ := C0.1
  have hK := C0.2.2.2.1
  intro A0 f0 l4 l5 l6 l7 l8 l9 h _ _ _ hPD hS hl
  unfold f2_reckoned_b159 at h
  refine lv_iload hx hb dX2_reckoned_159 (lv_at hl 7 rfl) ?_
  refine lv_iconst (v := 4) hx hb dX2_reckoned_161 (by decide) ?_
  refine lv_icmp_ne (tgt := 169) hx hb dX2_reckoned_162 (by decide) (fun cc1 => ?_) (fun cc1 => ?_)
  · have h := (if_neg cc1).symm.trans h
    refine lv_iconst (v := 0) hx hb dX2_reckoned_169 (by decide) ?_
    refine lv_iload hx hb dX2_reckoned_170 (lv_at hl 9 rfl) ?_
    refine lv_if_eq (tgt := 179) hx hb dX2_reckoned_172 (by decide) (fun cc1 => ?_) (fun cc1 => ?_)
    · have h := (if_pos cc1).symm.trans h
      refine lv_iconst (v := 0) hx hb dX2_reckoned_179 (by decide) ?_
      exact ww_f2_reckoned_b180 C0 hn1 hk14 A0 f0 l4 l5 l6 l8 0 0 h _ _ _ hPD hS (lv_sub hl [0, 1, 2, 3, 4, 5, 6, 8] rfl)
    · have h := (if_neg cc1).symm.trans h
      refine lv_iconst (v := 1) hx hb dX2_reckoned_175 (by decide) ?_
      refine lv_goto (tgt := 180) hx hb dX2_reckoned_176 (by decide) ?_
      exact ww_f2_reckoned_b180 C0 hn1 hk14 A0 f0 l4 l5 l6 l8 1 0 h _ _ _ hPD hS (lv_sub hl [0, 1, 2, 3, 4, 5, 6, 8] rfl)
  · have h := (if_pos cc1).symm.trans h
    refine lv_iconst (v := 1) hx hb dX2_reckoned_165 (by decide) ?_
    refine lv_goto (tgt := 170) hx hb dX2_reckoned_166 (by decide) ?_
    refine lv_iload hx hb dX2_reckoned_170 (lv_at hl 9 rfl) ?_
    refine lv_if_eq (tgt := 179) hx hb dX2_reckoned_172 (by decide) (fun cc1 => ?_) (fun cc1 => ?_)
    · have h := (if_pos cc1).symm.trans h
      refine lv_iconst (v := 0) hx hb dX2_reckoned_179 (by decide) ?_
      exact ww_f2_reckoned_b180 C0 hn1 hk14 A0 f0 l4 l5 l6 l8 0 1 h _ _ _ hPD hS (lv_sub hl [0, 1, 2, 3, 4, 5, 6, 8] rfl)
    · have h := (if_neg cc1).symm.trans h
      refine lv_iconst (v := 1) hx hb dX2_reckoned_175 (by decide) ?_
      refine lv_goto (tgt := 180) hx hb dX2_reckoned_176 (by decide) ?_
      exact ww_f2_reckoned_b180 C0 hn1 hk14 A0 f0 l4 l5 l6 l8 1 1 h _ _ _ hPD hS (lv_sub hl [0, 1, 2, 3, 4, 5, 6, 8] rfl)
set_option maxRecDepth 100000 in
set_option maxHeartbeats 4000000 in
theorem ww_f2_reckoned_b14  (C0 : Cx cX2_reckoned 11 (some .int) RX2 p s m args meth c G DA) {h0 : Nat} {a0 : Nat → Nat} {q1 : Nat} {n1 : Nat} {xs1 : Nat → Int32} {p1 : Int32} {p2 : Int32} (hn1 : n1 < 2147483648) {k14 : (Nat → Nat → Int32) → (Nat → Int32) → Int32 → Int32 → Int32 → Option (Int32 × (Nat → Nat → Int32) × (Nat → Int32))} {res : Int32 × (Nat → Nat → Int32) × (Nat → Int32)}  (hk14 : ∀ (A0 : Nat → Nat → Int32) (f0 : Nat → Int32) (l4 : Int32) (l5 : Int32) (l6 : Int32), k14 A0 f0 l4 l5 l6 = some res → ∀ (H : Heap) (locs : List Loc) (ls : Array Slot), WD G DA (wX2 G h0 a0 f0 A0 ++ (wI G q1 n1 xs1)) H → va_S DA s.heap H locs → lv_has ls 11 [(0, .ref h0), (1, .int p1), (2, .int p2), (3, .ref q1), (4, .int l4), (5, .int l5), (6, .int l6)] → W p l e rmX2_reckoned s m args below meth c H locs 0 0 (MQ below (QI G DA res.1 (wX2 G h0 a0 res.2.2 res.2.1 ++ (wI G q1 n1 xs1))) args s 0 0 DA) (F0 m 14 ls [])) : ∀ (A0 : Nat → Nat → Int32) (f0 : Nat → Int32) (l4 : Int32) (l5 : Int32) (l6 : Int32), f2_reckoned_b14 n1 xs1 p1 p2  k14 A0 f0 l4 l5 l6 = some res → ∀ (H : Heap) (locs : List Loc) (ls : Array Slot), WD G DA (wX2 G h0 a0 f0 A0 ++ (wI G q1 n1 xs1)) H → va_S DA s.heap H locs → lv_has ls 11 [(0, .ref h0), (1, .int p1), (2, .int p2), (3, .ref q1), (4, .int l4), (5, .int l5), (6, .int l6)] → W p l e rmX2_reckoned s m args below meth c H locs 0 0 (MQ below (QI G DA res.1 (wX2 G h0 a0 res.2.2 res.2.1 ++ (wI G q1 n1 xs1))) args s 0 0 DA) (F0 m 14 ls []) := by
  obtain ⟨hx, hb, hml, hown, hts⟩ := C0.1
  have hK := C0.2.2.2.1
  intro A0 f0 l4 l5 l6 h _ _ _ hPD hS hl
  unfold f2_reckoned_b14 at h
  refine lv_iload hx hb dX2_reckoned_14 (lv_at hl 6 rfl) ?_
  refine lv_sipush (v := 240) hx hb dX2_reckoned_16 (by decide) ?_
  refine lv_icmp_ge (tgt := 261) hx hb dX2_reckoned_19 (by decide) (fun cc1 => ?_) (fun cc1 => ?_)
  · have h := (if_pos cc1).symm.trans h
    exact ww_f2_reckoned_b261 C0 hn1 A0 f0 l4 h _ _ _ hPD hS (lv_sub hl [0, 1, 2, 3, 4] rfl)
  · have h := (if_neg cc1).symm.trans h
    refine lv_iload hx hb dX2_reckoned_22 (lv_at hl 5 rfl) ?_
    refine lv_iload_n hx hb dX2_reckoned_24 rfl (lv_at hl 2 rfl) ?_
    refine lv_icmp_ge (tgt := 261) hx hb dX2_reckoned_25 (by decide) (fun cc1 => ?_) (fun cc1 => ?_)
    · have h := (if_pos cc1).symm.trans h
      exact ww_f2_reckoned_b261 C0 hn1 A0 f0 l4 h _ _ _ hPD hS (lv_sub hl [0, 1, 2, 3, 4] rfl)
    · have h := (if_neg cc1).symm.trans h
      refine lv_aload_n hx hb dX2_reckoned_28 rfl (lv_at hl 0 rfl) ?_
      refine va_get (D := G.1) (ci := 2) (v := .int (f0 8)) (C := RX2) (T := TX2) (N := 10) hx hb hts inlX2 hown hK hPD.1 0 rfl rfl 8 (by decide) (hts _ gw_197) (fun _ h9 => h9) rfl dX2_reckoned_29 ?_
      refine lv_if_ne (tgt := 261) hx hb dX2_reckoned_32 (by decide) (fun cc1 => ?_) (fun cc1 => ?_)
      · have h := (if_neg cc1).symm.trans h
        exact ww_f2_reckoned_b261 C0 hn1 A0 f0 l4 h _ _ _ hPD hS (lv_sub hl [0, 1, 2, 3, 4] rfl)
      · have h := (if_pos cc1).symm.trans h
        refine lv_aload_n hx hb dX2_reckoned_35 rfl (lv_at hl 0 rfl) ?_
        refine va_get (D := G.1) (ci := 2) (v := .ref (a0 0)) (C := RX2) (T := TX2) (N := 10) hx hb hts inlX2 hown hK hPD.1 0 rfl rfl 0 (by decide) (hts _ gw_128) (fun _ h9 => h9) rfl dX2_reckoned_36 ?_
        refine lv_iload hx hb dX2_reckoned_39 (lv_at hl 5 rfl) ?_
        refine kNI (As := [.ref (a0 0), .int l5]) (rest := []) C0 (kt_X9_at l G (a0 0) 240 (A0 0) l5 (by decide)) gi_U_X9_at (host := "IdleCrimes") (index := 116) (List.mem_of_getElem? (i := 28) rfl) gw_6 gw_7 (n := 2) rfl (by decide +kernel) ⟨rfl, rfl, Nat.le_of_ble_eq_true rfl, Nat.le_of_ble_eq_true rfl⟩ hPD hS [1] [0, 2, 3, 4, 5, 6, 7, 8] [0, 8, 1, 2, 3, 4, 5, 6, 7] (wN := (wX2 G h0 a0 f0 A0 ++ (wI G q1 n1 xs1))) rfl rfl rfl rfl rfl hl.1 (Nat.le_of_ble_eq_true rfl) dX2_reckoned_41 (fun H locs hPD hS => ?_)
        refine lv_istore (lv' := [(7, .int (f9_at 240 (A0 0) l5)), (0, .ref h0), (1, .int p1), (2, .int p2), (3, .ref q1), (4, .int l4), (5, .int l5), (6, .int l6)]) hx hb dX2_reckoned_44 hl (by decide) rfl (fun ls hl => ?_)
        refine lv_aload_n hx hb dX2_reckoned_46 rfl (lv_at hl 1 rfl) ?_
        refine va_get (D := G.1) (ci := 2) (v := .ref (a0 1)) (C := RX2) (T := TX2) (N := 10) hx hb hts inlX2 hown hK hPD.1 0 rfl rfl 1 (by decide) (hts _ gw_130) (fun _ h9 => h9) rfl dX2_reckoned_47 ?_
        refine lv_iload hx hb dX2_reckoned_50 (lv_at hl 6 rfl) ?_
        refine kNI (As := [.ref (a0 1), .int l5]) (rest := []) C0 (kt_X9_at l G (a0 1) 240 (A0 1) l5 (by decide)) gi_U_X9_at (host := "IdleCrimes") (index := 116) (List.mem_of_getElem? (i := 28) rfl) gw_6 gw_7 (n := 2) rfl (by decide +kernel) ⟨rfl, rfl, Nat.le_of_ble_eq_true rfl, Nat.le_of_ble_eq_true rfl⟩ hPD hS [2] [0, 1, 3, 4, 5, 6, 7, 8] [0, 1, 8, 2, 3, 4, 5, 6, 7] (wN := (wX2 G h0 a0 f0 A0 ++ (wI G q1 n1 xs1))) rfl rfl rfl rfl rfl hl.1 (Nat.le_of_ble_eq_true rfl) dX2_reckoned_52 (fun H locs hPD hS => ?_)
        refine lv_istore (lv' := [(8, .int (f9_at 240 (A0 1) l5)), (7, .int (f9_at 240 (A0 0) l5)), (0, .ref h0), (1, .int p1), (2, .int p2), (3, .ref q1), (4, .int l4), (5, .int l5), (6, .int l6)]) hx hb dX2_reckoned_55 hl (by decide) rfl (fun ls hl => ?_)
        refine lv_aload_n hx hb dX2_reckoned_57 rfl (lv_at hl 2 rfl) ?_
        refine va_get (D := G.1) (ci := 2) (v := .ref (a0 6)) (C := RX2) (T := TX2) (N := 10) hx hb hts inlX2 hown hK hPD.1 0 rfl rfl 6 (by decide) (hts _ gw_198) (fun _ h9 => h9) rfl dX2_reckoned_58 ?_
        refine lv_iload hx hb dX2_reckoned_61 (lv_at hl 6 rfl) ?_
        refine lv_iconst (v := 1) hx hb dX2_reckoned_63 (by decide) ?_
        refine lv_isub hx hb dX2_reckoned_64 ?_
        refine kNI (As := [.ref (a0 6), .int (l4 - 1)]) (rest := []) C0 (kt_X9_at l G (a0 6) 240 (A0 6) (l4 - 1) (by decide)) gi_U_X9_at (host := "IdleCrimes") (index := 116) (List.mem_of_getElem? (i := 28) rfl) gw_6 gw_7 (n := 2) rfl (by decide +kernel) ⟨rfl, rfl, Nat.le_of_ble_eq_true rfl, Nat.le_of_ble_eq_true rfl⟩ hPD hS [7] [0, 1, 2, 3, 4, 5, 6, 8] [0, 1, 2, 3, 4, 5, 6, 8, 7] (wN := (wX2 G h0 a0 f0 A0 ++ (wI G q1 n1 xs1))) rfl rfl rfl rfl rfl hl.1 (Nat.le_of_ble_eq_true rfl) dX2_reckoned_65 (fun H locs hPD hS => ?_)
        refine lv_istore (lv' := [(9, .int (f9_at 240 (A0 6) (l4 - 1))), (8, .int (f9_at 240 (A0 1) l5)), (7, .int (f9_at 240 (A0 0) l5)), (0, .ref h0), (1, .int p1), (2, .int p2), (3, .ref q1), (4, .int l4), (5, .int l5), (6, .int l6)]) hx hb dX2_reckoned_68 hl (by decide) rfl (fun ls hl => ?_)
        refine lv_iinc (v := l5 + 1) (lv' := [(5, .int (l5 + 1)), (9, .int (f9_at 240 (A0 6) (l4 - 1))), (8, .int (f9_at 240 (A0 1) l5)), (7, .int (f9_at 240 (A0 0) l5)), (0, .ref h0), (1, .int p1), (2, .int p2), (3, .ref q1), (4, .int l4), (6, .int l6)]) hx hb dX2_reckoned_70 hl (k := 8) rfl rfl (by decide) rfl (fun ls hl => ?_)
        refine lv_iload hx hb dX2_reckoned_73 (lv_at hl 3 rfl) ?_
        refine lv_iconst (v := 1) hx hb dX2_reckoned_75 (by decide) ?_
        refine lv_icmp_eq (tgt := 85) hx hb dX2_reckoned_76 (by decide) (fun cc1 => ?_) (fun cc1 => ?_)
        · have h := (if_pos cc1).symm.trans h
          exact ww_f2_reckoned_b85 C0 hn1 hk14 A0 f0 l4 (l5 + 1) l6 (f9_at 240 (A0 0) l5) (f9_at 240 (A0 1) l5) h _ _ _ hPD hS (lv_sub hl [4, 5, 6, 7, 8, 0, 9, 3, 2] rfl)
        · have h := (if_neg cc1).symm.trans h
          refine lv_iload hx hb dX2_reckoned_79 (lv_at hl 3 rfl) ?_
          refine lv_iconst (v := 2) hx hb dX2_reckoned_81 (by decide) ?_
          refine lv_icmp_ne (tgt := 117) hx hb dX2_reckoned_82 (by decide) (fun cc1 => ?_) (fun cc1 => ?_)
          · have h := (if_neg cc1).symm.trans h
            refine lv_iload hx hb dX2_reckoned_117 (lv_at hl 3 rfl) ?_
            refine lv_iconst (v := 3) hx hb dX2_reckoned_119 (by decide) ?_
            refine lv_icmp_ne (tgt := 147) hx hb dX2_reckoned_120 (by decide) (fun cc1 => ?_) (fun cc1 => ?_)
            · have h := (if_neg cc1).symm.trans h
              refine lv_iload hx hb dX2_reckoned_147 (lv_at hl 3 rfl) ?_
              refine lv_iconst (v := 4) hx hb dX2_reckoned_149 (by decide) ?_
              refine lv_icmp_eq (tgt := 159) hx hb dX2_reckoned_150 (by decide) (fun cc1 => ?_) (fun cc1 => ?_)
              · have h := (if_pos cc1).symm.trans h
                exact ww_f2_reckoned_b159 C0 hn1 hk14 A0 f0 l4 (l5 + 1) l6 (f9_at 240 (A0 0) l5) (f9_at 240 (A0 1) l5) (f9_at 240 (A0 6) (l4 - 1)) h _ _ _ hPD hS (lv_sub hl [4, 5, 6, 7, 8, 0, 9, 3, 2, 1] rfl)
              · have h := (if_neg cc1).symm.trans h
                refine lv_iload hx hb dX2_reckoned_153 (lv_at hl 3 rfl) ?_
                refine lv_iconst (v := 5) hx hb dX2_reckoned_155 (by decide) ?_
                refine lv_icmp_ne (tgt := 222) hx hb dX2_reckoned_156 (by decide) (fun cc1 => ?_) (fun cc1 => ?_)
                · have h := (if_neg cc1).symm.trans h
                  refine lv_iinc (v := l4 + (-1)) (lv' := [(4, .int (l4 + (-1))), (5, .int (l5 + 1)), (9, .int (f9_at 240 (A0 6) (l4 - 1))), (8, .int (f9_at 240 (A0 1) l5)), (7, .int (f9_at 240 (A0 0) l5)), (0, .ref h0), (1, .int p1), (2, .int p2), (3, .ref q1), (6, .int l6)]) hx hb dX2_reckoned_222 hl (k := 8) rfl rfl (by decide) rfl (fun ls hl => ?_)
                  refine lv_aload_n hx hb dX2_reckoned_225 rfl (lv_at hl 5 rfl) ?_
                  refine va_get (D := G.1) (ci := 2) (v := .ref (a0 6)) (C := RX2) (T := TX2) (N := 10) hx hb hts inlX2 hown hK hPD.1 0 rfl rfl 6 (by decide) (hts _ gw_198) (fun _ h9 => h9) rfl dX2_reckoned_226 ?_
                  refine lv_iload hx hb dX2_reckoned_229 (lv_at hl 0 rfl) ?_
                  refine lv_iconst (v := 1) hx hb dX2_reckoned_231 (by decide) ?_
                  refine lv_isub hx hb dX2_reckoned_232 ?_
                  refine lv_aload_n hx hb dX2_reckoned_233 rfl (lv_at hl 5 rfl) ?_
                  refine lv_iload hx hb dX2_reckoned_234 (lv_at hl 4 rfl) ?_
                  refine lv_aload_n hx hb dX2_reckoned_236 rfl (lv_at hl 5 rfl) ?_
                  refine va_get (D := G.1) (ci := 2) (v := .ref (a0 6)) (C := RX2) (T := TX2) (N := 10) hx hb hts inlX2 hown hK hPD.1 0 rfl rfl 6 (by decide) (hts _ gw_198) (fun _ h9 => h9) rfl dX2_reckoned_237 ?_
                  refine lv_iload hx hb dX2_reckoned_240 (lv_at hl 0 rfl) ?_
                  refine lv_iconst (v := 1) hx hb dX2_reckoned_242 (by decide) ?_
                  refine lv_isub hx hb dX2_reckoned_243 ?_
                  refine kNI (As := [.ref (a0 6), .int ((l4 + (-1)) - 1)]) (rest := [.int (f9_at 240 (A0 0) l5), .ref h0, .int ((l4 + (-1)) - 1), .ref (a0 6)]) C0 (kt_X9_at l G (a0 6) 240 (A0 6) ((l4 + (-1)) - 1) (by decide)) gi_U_X9_at (host := "IdleCrimes") (index := 116) (List.mem_of_getElem? (i := 28) rfl) gw_6 gw_7 (n := 2) rfl (by decide +kernel) ⟨rfl, rfl, Nat.le_of_ble_eq_true rfl, Nat.le_of_ble_eq_true rfl⟩ hPD hS [7] [0, 1, 2, 3, 4, 5, 6, 8] [0, 1, 2, 3, 4, 5, 6, 8, 7] (wN := (wX2 G h0 a0 f0 A0 ++ (wI G q1 n1 xs1))) rfl rfl rfl rfl rfl hl.1 (Nat.le_of_ble_eq_true rfl) dX2_reckoned_244 (fun H locs hPD hS => ?_)
                  refine lv_iload hx hb dX2_reckoned_247 (lv_at hl 2 rfl) ?_
                  obtain ⟨q_4, hq_4, h⟩ := ob2 h
                  refine kVI (As := [.int (f9_at 240 (A0 0) l5), .int (f9_at 240 (A0 6) ((l4 + (-1)) - 1)), .int (f9_at 240 (A0 6) (l4 - 1))]) (rest := [.int ((l4 + (-1)) - 1), .ref (a0 6)]) C0 (kt_X2_joined l G h0 a0 f0 A0 (f9_at 240 (A0 0) l5) (f9_at 240 (A0 6) ((l4 + (-1)) - 1)) (f9_at 240 (A0 6) (l4 - 1)) hq_4) gi_V_X2_128_X2_joined (n := 3) rfl (by decide +kernel) rfl ⟨rfl, rfl, Nat.le_of_ble_eq_true rfl, Nat.le_of_ble_eq_true rfl⟩ hPD hS 0 2 rfl rfl rfl [0, 1, 2, 3, 4, 5, 6, 7] [8] [1, 2, 3, 4, 5, 6, 7, 8, 0] (wN := (wX2 G h0 a0 q_4.2 A0 ++ (wI G q1 n1 xs1))) rfl rfl rfl rfl rfl hl.1 (Nat.le_of_ble_eq_true rfl) dX2_reckoned_249 (fun H locs hPD hS => ?_)
                  obtain ⟨z_5, ez_5, h⟩ := lvl h
                  have kc := kt_X9_put l G (a0 6) 240 (A0 6) ((l4 + (-1)) - 1) q_4.1 (by decide)
                  rw [← ez_5] at kc
                  clear ez_5
                  refine kNV (As := [.ref (a0 6), .int ((l4 + (-1)) - 1), .int q_4.1]) (rest := []) C0 (kc) gi_U_X9_put (host := "IdleCrimes") (index := 65) (List.mem_of_getElem? (i := 12) rfl) gw_6 gw_19 (n := 3) rfl (by decide +kernel) ⟨rfl, rfl, Nat.le_of_ble_eq_true rfl, Nat.le_of_ble_eq_true rfl⟩ hPD hS [7] [0, 1, 2, 3, 4, 5, 6, 8] [0, 1, 2, 3, 4, 5, 6, 8, 7] (wN := (wX2 G h0 a0 q_4.2 (updA A0 6 z_5) ++ (wI G q1 n1 xs1))) rfl rfl rfl rfl rfl hl.1 (Nat.le_of_ble_eq_true rfl) dX2_reckoned_252 (fun H locs hPD hS => ?_)
                  obtain ⟨A0_6, eA0_6, h⟩ := lvl h
                  have hPD : WD G DA (wX2 G h0 a0 q_4.2 A0_6 ++ (wI G q1 n1 xs1)) H := by rw [eA0_6]; exact hPD
                  clear eA0_6
                  refine lv_iinc (v := l6 + 1) (lv' := [(6, .int (l6 + 1)), (4, .int (l4 + (-1))), (5, .int (l5 + 1)), (9, .int (f9_at 240 (A0 6) (l4 - 1))), (8, .int (f9_at 240 (A0 1) l5)), (7, .int (f9_at 240 (A0 0) l5)), (0, .ref h0), (1, .int p1), (2, .int p2), (3, .ref q1)]) hx hb dX2_reckoned_255 hl (k := 9) rfl rfl (by decide) rfl (fun ls hl => ?_)
                  refine lv_goto (tgt := 14) hx hb dX2_reckoned_258 (by decide) ?_
                  exact hk14 A0_6 q_4.2 (l4 + (-1)) (l5 + 1) (l6 + 1) h _ _ _ hPD hS (lv_sub hl [6, 7, 8, 9, 1, 2, 0] rfl)
                · have h := (if_pos cc1).symm.trans h
                  exact ww_f2_reckoned_b159 C0 hn1 hk14 A0 f0 l4 (l5 + 1) l6 (f9_at 240 (A0 0) l5) (f9_at 240 (A0 1) l5) (f9_at 240 (A0 6) (l4 - 1)) h _ _ _ hPD hS (lv_sub hl [4, 5, 6, 7, 8, 0, 9, 3, 2, 1] rfl)
            · have h := (if_pos cc1).symm.trans h
              refine lv_aload_n hx hb dX2_reckoned_123 rfl (lv_at hl 4 rfl) ?_
              refine va_get (D := G.1) (ci := 2) (v := .ref (a0 6)) (C := RX2) (T := TX2) (N := 10) hx hb hts inlX2 hown hK hPD.1 0 rfl rfl 6 (by decide) (hts _ gw_198) (fun _ h9 => h9) rfl dX2_reckoned_124 ?_
              refine lv_iload hx hb dX2_reckoned_127 (lv_at hl 8 rfl) ?_
              refine lv_iconst (v := 1) hx hb dX2_reckoned_129 (by decide) ?_
              refine lv_isub hx hb dX2_reckoned_130 ?_
              refine lv_iload hx hb dX2_reckoned_131 (lv_at hl 1 rfl) ?_
              refine lv_if_ne (tgt := 140) hx hb dX2_reckoned_133 (by decide) (fun cc1 => ?_) (fun cc1 => ?_)
              · have h := (if_neg cc1).symm.trans h
                refine lv_iconst (v := 0) hx hb dX2_reckoned_140 (by decide) ?_
                obtain ⟨z_7, ez_7, h⟩ := lvl h
                have kc := kt_X9_put l G (a0 6) 240 (A0 6) (l4 - 1) 0 (by decide)
                rw [← ez_7] at kc
                clear ez_7
                refine kNV (As := [.ref (a0 6), .int (l4 - 1), .int 0]) (rest := []) C0 (kc) gi_U_X9_put (host := "IdleCrimes") (index := 65) (List.mem_of_getElem? (i := 12) rfl) gw_6 gw_19 (n := 3) rfl (by decide +kernel) ⟨rfl, rfl, Nat.le_of_ble_eq_true rfl, Nat.le_of_ble_eq_true rfl⟩ hPD hS [7] [0, 1, 2, 3, 4, 5, 6, 8] [0, 1, 2, 3, 4, 5, 6, 8, 7] (wN := (wX2 G h0 a0 f0 (updA A0 6 z_7) ++ (wI G q1 n1 xs1))) rfl rfl rfl rfl rfl hl.1 (Nat.le_of_ble_eq_true rfl) dX2_reckoned_141 (fun H locs hPD hS => ?_)
                obtain ⟨A0_8, eA0_8, h⟩ := lvl h
                have hPD : WD G DA (wX2 G h0 a0 f0 A0_8 ++ (wI G q1 n1 xs1)) H := by rw [eA0_8]; exact hPD
                clear eA0_8
                refine lv_goto (tgt := 255) hx hb dX2_reckoned_144 (by decide) ?_
                refine lv_iinc (v := l6 + 1) (lv' := [(6, .int (l6 + 1)), (5, .int (l5 + 1)), (9, .int (f9_at 240 (A0 6) (l4 - 1))), (8, .int (f9_at 240 (A0 1) l5)), (7, .int (f9_at 240 (A0 0) l5)), (0, .ref h0), (1, .int p1), (2, .int p2), (3, .ref q1), (4, .int l4)]) hx hb dX2_reckoned_255 hl (k := 9) rfl rfl (by decide) rfl (fun ls hl => ?_)
                refine lv_goto (tgt := 14) hx hb dX2_reckoned_258 (by decide) ?_
                exact hk14 A0_8 f0 l4 (l5 + 1) (l6 + 1) h _ _ _ hPD hS (lv_sub hl [5, 6, 7, 8, 9, 1, 0] rfl)
              · have h := (if_pos cc1).symm.trans h
                refine lv_iconst (v := 1) hx hb dX2_reckoned_136 (by decide) ?_
                refine lv_goto (tgt := 141) hx hb dX2_reckoned_137 (by decide) ?_
                obtain ⟨z_9, ez_9, h⟩ := lvl h
                have kc := kt_X9_put l G (a0 6) 240 (A0 6) (l4 - 1) 1 (by decide)
                rw [← ez_9] at kc
                clear ez_9
                refine kNV (As := [.ref (a0 6), .int (l4 - 1), .int 1]) (rest := []) C0 (kc) gi_U_X9_put (host := "IdleCrimes") (index := 65) (List.mem_of_getElem? (i := 12) rfl) gw_6 gw_19 (n := 3) rfl (by decide +kernel) ⟨rfl, rfl, Nat.le_of_ble_eq_true rfl, Nat.le_of_ble_eq_true rfl⟩ hPD hS [7] [0, 1, 2, 3, 4, 5, 6, 8] [0, 1, 2, 3, 4, 5, 6, 8, 7] (wN := (wX2 G h0 a0 f0 (updA A0 6 z_9) ++ (wI G q1 n1 xs1))) rfl rfl rfl rfl rfl hl.1 (Nat.le_of_ble_eq_true rfl) dX2_reckoned_141 (fun H locs hPD hS => ?_)
                obtain ⟨A0_10, eA0_10, h⟩ := lvl h
                have hPD : WD G DA (wX2 G h0 a0 f0 A0_10 ++ (wI G q1 n1 xs1)) H := by rw [eA0_10]; exact hPD
                clear eA0_10
                refine lv_goto (tgt := 255) hx hb dX2_reckoned_144 (by decide) ?_
                refine lv_iinc (v := l6 + 1) (lv' := [(6, .int (l6 + 1)), (5, .int (l5 + 1)), (9, .int (f9_at 240 (A0 6) (l4 - 1))), (8, .int (f9_at 240 (A0 1) l5)), (7, .int (f9_at 240 (A0 0) l5)), (0, .ref h0), (1, .int p1), (2, .int p2), (3, .ref q1), (4, .int l4)]) hx hb dX2_reckoned_255 hl (k := 9) rfl rfl (by decide) rfl (fun ls hl => ?_)
                refine lv_goto (tgt := 14) hx hb dX2_reckoned_258 (by decide) ?_
                exact hk14 A0_10 f0 l4 (l5 + 1) (l6 + 1) h _ _ _ hPD hS (lv_sub hl [5, 6, 7, 8, 9, 1, 0] rfl)
          · have h := (if_pos cc1).symm.trans h
            exact ww_f2_reckoned_b85 C0 hn1 hk14 A0 f0 l4 (l5 + 1) l6 (f9_at 240 (A0 0) l5) (f9_at 240 (A0 1) l5) h _ _ _ hPD hS (lv_sub hl [4, 5, 6, 7, 8, 0, 9, 3, 2] rfl)
set_option maxRecDepth 100000 in
set_option maxHeartbeats 4000000 in
theorem ww_f2_reckoned_l14  (C0 : Cx cX2_reckoned 11 (some .int) RX2 p s m args meth c G DA) {h0 : Nat} {a0 : Nat → Nat} {q1 : Nat} {n1 : Nat} {xs1 : Nat → Int32} {p1 : Int32} {p2 : Int32} (hn1 : n1 < 2147483648)  {res : Int32 × (Nat → Nat → Int32) × (Nat → Int32)}  : ∀ (n : Nat) (A0 : Nat → Nat → Int32) (f0 : Nat → Int32) (l4 : Int32) (l5 : Int32) (l6 : Int32), f2_reckoned_l14 n1 xs1 p1 p2  n A0 f0 l4 l5 l6 = some res → ∀ (H : Heap) (locs : List Loc) (ls : Array Slot), WD G DA (wX2 G h0 a0 f0 A0 ++ (wI G q1 n1 xs1)) H → va_S DA s.heap H locs → lv_has ls 11 [(0, .ref h0), (1, .int p1), (2, .int p2), (3, .ref q1), (4, .int l4), (5, .int l5), (6, .int l6)] → W p l e rmX2_reckoned s m args below meth c H locs 0 0 (MQ below (QI G DA res.1 (wX2 G h0 a0 res.2.2 res.2.1 ++ (wI G q1 n1 xs1))) args s 0 0 DA) (F0 m 14 ls []) := by
  intro n
  induction n with
  | zero => intro A0 f0 l4 l5 l6 h; cases h
  | succ n ih => intro A0 f0 l4 l5 l6 h; exact ww_f2_reckoned_b14 C0 hn1  ih A0 f0 l4 l5 l6 h
set_option maxRecDepth 100000 in
set_option maxHeartbeats 4000000 in
theorem kt_X2_reckoned (l : Launch) (G : Gp) (h0 : Nat) (a0 : Nat → Nat) (q1 : Nat) (f0 : Nat → Int32) (A0 : Nat → Nat → Int32) (n1 : Nat) (xs1 : Nat → Int32) (p1 : Int32) (p2 : Int32) (hn1 : n1 < 2147483648) : ∀ {r : Int32 × (Nat → Nat → Int32) × (Nat → Int32)}, f2_reckoned f0 A0 n1 xs1 p1 p2 = some r → CtrI l yX2_reckoned cX2_reckoned 11 (some .int) rmX2_reckoned G [.ref h0, .int p1, .int p2, .ref q1] (wX2 G h0 a0 f0 A0 ++ (wI G q1 n1 xs1)) r.1 (wX2 G h0 a0 r.2.2 r.2.1 ++ (wI G q1 n1 xs1)) := by
  intro res h
  refine ctrI_of (cc := cX2_reckoned) (maxL := 11) (ret := (some .int)) (by decide +kernel) rfl (Nat.le_of_ble_eq_true rfl) (fun p e s m below meth c DA C0 hP hD ls hl => ?_)
  have hPD : WD G DA (wX2 G h0 a0 f0 A0 ++ (wI G q1 n1 xs1)) s.heap := ⟨hP, hD⟩
  have hS : va_S DA s.heap s.heap [] := va_S.rf
  have hl : lv_has ls 11 [(0, .ref h0), (1, .int p1), (2, .int p2), (3, .ref q1)] := hl
  obtain ⟨hx, hb, hml, hown, hts⟩ := C0.1
  have hK := C0.2.2.2.1
  unfold f2_reckoned at h
  refine lv_iconst (v := 0) hx hb dX2_reckoned_0 (by decide) ?_
  refine lv_istore (lv' := [(4, .int 0), (0, .ref h0), (1, .int p1), (2, .int p2), (3, .ref q1)]) hx hb dX2_reckoned_1 hl (by decide) rfl (fun ls hl => ?_)
  refine lv_iload_n hx hb dX2_reckoned_3 rfl (lv_at hl 2 rfl) ?_
  refine lv_istore (lv' := [(5, .int p1), (4, .int 0), (0, .ref h0), (1, .int p1), (2, .int p2), (3, .ref q1)]) hx hb dX2_reckoned_4 hl (by decide) rfl (fun ls hl => ?_)
  refine lv_aload_n hx hb dX2_reckoned_6 rfl (lv_at hl 2 rfl) ?_
  refine lv_iconst (v := 0) hx hb dX2_reckoned_7 (by decide) ?_
  refine va_put (D := G.1) (ci := 2) (v := .int 0) (ty := .boolean) (C := RX2) (T := TX2) (N := 10) hx hb hts inlX2 tyX2 tyX2_ok nmX2 hown hK hPD.1 hPD.2 hS 0 rfl rfl 8 (by decide) (hts _ gw_197) (fun _ h9 => h9) rfl (by decide +kernel) rfl rfl (Nat.le_of_ble_eq_true rfl) dX2_reckoned_8 (fun H locs hP hD hS => ?_)
  obtain ⟨f0_1, ef0_1, h⟩ := lvl h
  have hPD : WD G DA (wX2 G h0 a0 f0_1 A0 ++ (wI G q1 n1 xs1)) H := by rw [ef0_1]; exact ⟨hP, hD⟩
  clear ef0_1 hP hD
  refine lv_iconst (v := 0) hx hb dX2_reckoned_11 (by decide) ?_
  refine lv_istore (lv' := [(6, .int 0), (5, .int p1), (4, .int 0), (0, .ref h0), (1, .int p1), (2, .int p2), (3, .ref q1)]) hx hb dX2_reckoned_12 hl (by decide) rfl (fun ls hl => ?_)
  exact ww_f2_reckoned_l14 C0 hn1 NF A0 f0_1 0 p1 0 h _ _ _ hPD hS (lv_sub hl [3, 4, 5, 6, 2, 1, 0] rfl)
abbrev rmX2_isSafe : Room := { frames := 2, cells := 0, slots := 0, locals := 53 }
set_option maxRecDepth 100000 in
set_option maxHeartbeats 4000000 in
theorem ww_f2_isSafe_b2  (C0 : Cx cX2_isSafe 3 (some .boolean) RX2 p s m args meth c G DA) {h0 : Nat} {a0 : Nat → Nat} {q1 : Nat} {n1 : Nat} {xs1 : Nat → Int32} (hn1 : n1 < 2147483648) {k2 : (Nat → Nat → Int32) → (Nat → Int32) → Int32 → Option (Int32 × (Nat → Nat → Int32) × (Nat → Int32))} {res : Int32 × (Nat → Nat → Int32) × (Nat → Int32)}  (hk2 : ∀ (A0 : Nat → Nat → Int32) (f0 : Nat → Int32) (l2 : Int32), k2 A0 f0 l2 = some res → ∀ (H : Heap) (locs : List Loc) (ls : Array Slot), WD G DA (wX2 G h0 a0 f0 A0 ++ (wI G q1 n1 xs1)) H → va_S DA s.heap H locs → lv_has ls 3 [(0, .ref h0), (1, .ref q1), (2, .int l2)] → W p l e rmX2_isSafe s m args below meth c H locs 0 0 (MQ below (QI G DA res.1 (wX2 G h0 a0 res.2.2 res.2.1 ++ (wI G q1 n1 xs1))) args s 0 0 DA) (F0 m 2 ls [])) : ∀ (A0 : Nat → Nat → Int32) (f0 : Nat → Int32) (l2 : Int32), f2_isSafe_b2 n1 xs1  k2 A0 f0 l2 = some res → ∀ (H : Heap) (locs : List Loc) (ls : Array Slot), WD G DA (wX2 G h0 a0 f0 A0 ++ (wI G q1 n1 xs1)) H → va_S DA s.heap H locs → lv_has ls 3 [(0, .ref h0), (1, .ref q1), (2, .int l2)] → W p l e rmX2_isSafe s m args below meth c H locs 0 0 (MQ below (QI G DA res.1 (wX2 G h0 a0 res.2.2 res.2.1 ++ (wI G q1 n1 xs1))) args s 0 0 DA) (F0 m 2 ls []) := by
  obtain ⟨hx, hb, hml, hown, hts⟩ := C0.1
  have hK := C0.2.2.2.1
  intro A0 f0 l2 h _ _ _ hPD hS hl
  unfold f2_isSafe_b2 at h
  refine lv_iload_n hx hb dX2_isSafe_2 rfl (lv_at hl 2 rfl) ?_
  refine lv_aload_n hx hb dX2_isSafe_3 rfl (lv_at hl 0 rfl) ?_
  refine va_get (D := G.1) (ci := 2) (v := .int (f0 9)) (C := RX2) (T := TX2) (N := 10) hx hb hts inlX2 hown hK hPD.1 0 rfl rfl 9 (by decide) (hts _ gw_182) (fun _ h9 => h9) rfl dX2_isSafe_4 ?_
  refine lv_icmp_ge (tgt := 55) hx hb dX2_isSafe_7 (by decide) (fun cc1 => ?_) (fun cc1 => ?_)
  · have h := (if_pos cc1).symm.trans h
    refine lv_iconst (v := 0) hx hb dX2_isSafe_55 (by decide) ?_
    obtain rfl := Option.some.inj h
    exact eZ C0 hPD.1 hPD.2 hS rfl rfl dX2_isSafe_56
  · have h := (if_neg cc1).symm.trans h
    refine lv_aload_n hx hb dX2_isSafe_10 rfl (lv_at hl 0 rfl) ?_
    refine va_get (D := G.1) (ci := 2) (v := .ref (a0 2)) (C := RX2) (T := TX2) (N := 10) hx hb hts inlX2 hown hK hPD.1 0 rfl rfl 2 (by decide) (hts _ gw_183) (fun _ h9 => h9) rfl dX2_isSafe_11 ?_
    refine lv_iload_n hx hb dX2_isSafe_14 rfl (lv_at hl 2 rfl) ?_
    refine kNI (As := [.ref (a0 2), .int l2]) (rest := []) C0 (kt_X9_at l G (a0 2) 16 (A0 2) l2 (by decide)) gi_U_X9_at (host := "IdleCrimes") (index := 116) (List.mem_of_getElem? (i := 28) rfl) gw_6 gw_7 (n := 2) rfl (by decide +kernel) ⟨rfl, rfl, Nat.le_of_ble_eq_true rfl, Nat.le_of_ble_eq_true rfl⟩ hPD hS [3] [0, 1, 2, 4, 5, 6, 7, 8] [0, 1, 2, 8, 3, 4, 5, 6, 7] (wN := (wX2 G h0 a0 f0 A0 ++ (wI G q1 n1 xs1))) rfl rfl rfl rfl rfl hl.1 (Nat.le_of_ble_eq_true rfl) dX2_isSafe_15 (fun H locs hPD hS => ?_)
    refine lv_bipush (v := 115) hx hb dX2_isSafe_18 (by decide) ?_
    refine lv_icmp_ne (tgt := 49) hx hb dX2_isSafe_20 (by decide) (fun cc1 => ?_) (fun cc1 => ?_)
    · have h := (if_neg cc1).symm.trans h
      refine lv_iinc (v := l2 + 1) (lv' := [(2, .int (l2 + 1)), (0, .ref h0), (1, .ref q1)]) hx hb dX2_isSafe_49 hl (k := 2) rfl rfl (by decide) rfl (fun ls hl => ?_)
      refine lv_goto (tgt := 2) hx hb dX2_isSafe_52 (by decide) ?_
      exact hk2 A0 f0 (l2 + 1) h _ _ _ hPD hS (lv_sub hl [1, 2, 0] rfl)
    · have h := (if_pos cc1).symm.trans h
      refine lv_aload_n hx hb dX2_isSafe_23 rfl (lv_at hl 0 rfl) ?_
      refine lv_aload_n hx hb dX2_isSafe_24 rfl (lv_at hl 0 rfl) ?_
      refine va_get (D := G.1) (ci := 2) (v := .ref (a0 4)) (C := RX2) (T := TX2) (N := 10) hx hb hts inlX2 hown hK hPD.1 0 rfl rfl 4 (by decide) (hts _ gw_185) (fun _ h9 => h9) rfl dX2_isSafe_25 ?_
      refine lv_iload_n hx hb dX2_isSafe_28 rfl (lv_at hl 2 rfl) ?_
      refine kNI (As := [.ref (a0 4), .int l2]) (rest := [.ref h0]) C0 (kt_X9_at l G (a0 4) 16 (A0 4) l2 (by decide)) gi_U_X9_at (host := "IdleCrimes") (index := 116) (List.mem_of_getElem? (i := 28) rfl) gw_6 gw_7 (n := 2) rfl (by decide +kernel) ⟨rfl, rfl, Nat.le_of_ble_eq_true rfl, Nat.le_of_ble_eq_true rfl⟩ hPD hS [5] [0, 1, 2, 3, 4, 6, 7, 8] [0, 1, 2, 3, 4, 8, 5, 6, 7] (wN := (wX2 G h0 a0 f0 A0 ++ (wI G q1 n1 xs1))) rfl rfl rfl rfl rfl hl.1 (Nat.le_of_ble_eq_true rfl) dX2_isSafe_29 (fun H locs hPD hS => ?_)
      refine lv_aload_n hx hb dX2_isSafe_32 rfl (lv_at hl 0 rfl) ?_
      refine va_get (D := G.1) (ci := 2) (v := .ref (a0 5)) (C := RX2) (T := TX2) (N := 10) hx hb hts inlX2 hown hK hPD.1 0 rfl rfl 5 (by decide) (hts _ gw_186) (fun _ h9 => h9) rfl dX2_isSafe_33 ?_
      refine lv_iload_n hx hb dX2_isSafe_36 rfl (lv_at hl 2 rfl) ?_
      refine kNI (As := [.ref (a0 5), .int l2]) (rest := [.int (f9_at 16 (A0 4) l2), .ref h0]) C0 (kt_X9_at l G (a0 5) 16 (A0 5) l2 (by decide)) gi_U_X9_at (host := "IdleCrimes") (index := 116) (List.mem_of_getElem? (i := 28) rfl) gw_6 gw_7 (n := 2) rfl (by decide +kernel) ⟨rfl, rfl, Nat.le_of_ble_eq_true rfl, Nat.le_of_ble_eq_true rfl⟩ hPD hS [6] [0, 1, 2, 3, 4, 5, 7, 8] [0, 1, 2, 3, 4, 5, 8, 6, 7] (wN := (wX2 G h0 a0 f0 A0 ++ (wI G q1 n1 xs1))) rfl rfl rfl rfl rfl hl.1 (Nat.le_of_ble_eq_true rfl) dX2_isSafe_37 (fun H locs hPD hS => ?_)
      refine lv_aload_n hx hb dX2_isSafe_40 rfl (lv_at hl 1 rfl) ?_
      obtain ⟨q_1, hq_1, h⟩ := ob2 h
      refine kVI (As := [.int (f9_at 16 (A0 4) l2), .int (f9_at 16 (A0 5) l2), .ref q1]) (rest := []) C0 (kt_X2_reckoned l G h0 a0 q1 f0 A0 n1 xs1 (f9_at 16 (A0 4) l2) (f9_at 16 (A0 5) l2) hn1 hq_1) gi_V_X2_120_X2_reckoned (n := 3) rfl (by decide +kernel) rfl ⟨rfl, rfl, Nat.le_of_ble_eq_true rfl, Nat.le_of_ble_eq_true rfl⟩ hPD hS 0 2 rfl rfl rfl [0, 1, 2, 3, 4, 5, 6, 7, 8] [] [0, 1, 2, 3, 4, 5, 6, 7, 8] (wN := (wX2 G h0 a0 q_1.2.2 q_1.2.1 ++ (wI G q1 n1 xs1))) rfl rfl rfl rfl rfl hl.1 (Nat.le_of_ble_eq_true rfl) dX2_isSafe_41 (fun H locs hPD hS => ?_)
      refine lv_if_eq (tgt := 49) hx hb dX2_isSafe_44 (by decide) (fun cc1 => ?_) (fun cc1 => ?_)
      · have h := (if_pos cc1).symm.trans h
        refine lv_iinc (v := l2 + 1) (lv' := [(2, .int (l2 + 1)), (0, .ref h0), (1, .ref q1)]) hx hb dX2_isSafe_49 hl (k := 2) rfl rfl (by decide) rfl (fun ls hl => ?_)
        refine lv_goto (tgt := 2) hx hb dX2_isSafe_52 (by decide) ?_
        exact hk2 q_1.2.1 q_1.2.2 (l2 + 1) h _ _ _ hPD hS (lv_sub hl [1, 2, 0] rfl)
      · have h := (if_neg cc1).symm.trans h
        refine lv_iconst (v := 1) hx hb dX2_isSafe_47 (by decide) ?_
        obtain rfl := Option.some.inj h
        exact eZ C0 hPD.1 hPD.2 hS rfl rfl dX2_isSafe_48
set_option maxRecDepth 100000 in
set_option maxHeartbeats 4000000 in
theorem ww_f2_isSafe_l2  (C0 : Cx cX2_isSafe 3 (some .boolean) RX2 p s m args meth c G DA) {h0 : Nat} {a0 : Nat → Nat} {q1 : Nat} {n1 : Nat} {xs1 : Nat → Int32} (hn1 : n1 < 2147483648)  {res : Int32 × (Nat → Nat → Int32) × (Nat → Int32)}  : ∀ (n : Nat) (A0 : Nat → Nat → Int32) (f0 : Nat → Int32) (l2 : Int32), f2_isSafe_l2 n1 xs1  n A0 f0 l2 = some res → ∀ (H : Heap) (locs : List Loc) (ls : Array Slot), WD G DA (wX2 G h0 a0 f0 A0 ++ (wI G q1 n1 xs1)) H → va_S DA s.heap H locs → lv_has ls 3 [(0, .ref h0), (1, .ref q1), (2, .int l2)] → W p l e rmX2_isSafe s m args below meth c H locs 0 0 (MQ below (QI G DA res.1 (wX2 G h0 a0 res.2.2 res.2.1 ++ (wI G q1 n1 xs1))) args s 0 0 DA) (F0 m 2 ls []) := by
  intro n
  induction n with
  | zero => intro A0 f0 l2 h; cases h
  | succ n ih => intro A0 f0 l2 h; exact ww_f2_isSafe_b2 C0 hn1  ih A0 f0 l2 h
set_option maxRecDepth 100000 in
set_option maxHeartbeats 4000000 in
theorem kt_X2_isSafe (l : Launch) (G : Gp) (h0 : Nat) (a0 : Nat → Nat) (q1 : Nat) (f0 : Nat → Int32) (A0 : Nat → Nat → Int32) (n1 : Nat) (xs1 : Nat → Int32) (hn1 : n1 < 2147483648) : ∀ {r : Int32 × (Nat → Nat → Int32) × (Nat → Int32)}, f2_isSafe f0 A0 n1 xs1 = some r → CtrI l yX2_isSafe cX2_isSafe 3 (some .boolean) rmX2_isSafe G [.ref h0, .ref q1] (wX2 G h0 a0 f0 A0 ++ (wI G q1 n1 xs1)) r.1 (wX2 G h0 a0 r.2.2 r.2.1 ++ (wI G q1 n1 xs1)) := by
  intro res h
  refine ctrI_of (cc := cX2_isSafe) (maxL := 3) (ret := (some .boolean)) (by decide +kernel) rfl (Nat.le_of_ble_eq_true rfl) (fun p e s m below meth c DA C0 hP hD ls hl => ?_)
  have hPD : WD G DA (wX2 G h0 a0 f0 A0 ++ (wI G q1 n1 xs1)) s.heap := ⟨hP, hD⟩
  have hS : va_S DA s.heap s.heap [] := va_S.rf
  have hl : lv_has ls 3 [(0, .ref h0), (1, .ref q1)] := hl
  obtain ⟨hx, hb, hml, hown, hts⟩ := C0.1
  have hK := C0.2.2.2.1
  unfold f2_isSafe at h
  refine lv_iconst (v := 0) hx hb dX2_isSafe_0 (by decide) ?_
  refine lv_istore_n (lv' := [(2, .int 0), (0, .ref h0), (1, .ref q1)]) hx hb dX2_isSafe_1 rfl hl (by decide) rfl (fun ls hl => ?_)
  exact ww_f2_isSafe_l2 C0 hn1 NF A0 f0 0 h _ _ _ hPD hS (lv_sub hl [1, 2, 0] rfl)
abbrev rmX9_clamp : Room := { frames := 1, cells := 0, slots := 0, locals := 21 }
set_option maxRecDepth 100000 in
set_option maxHeartbeats 4000000 in
theorem kt_X9_clamp (l : Launch) (G : Gp) (p0 : Int32) (p1 : Int32) (p2 : Int32) : CtrI l yX9_clamp cX9_clamp 3 (some .int) rmX9_clamp G [.int p0, .int p1, .int p2] ([] : va_W) (f9_clamp p0 p1 p2) ([] : va_W) := by
  obtain ⟨res, h⟩ : ∃ res, f9_clamp p0 p1 p2 = res := ⟨_, rfl⟩
  rw [h]
  refine ctrI_of (cc := cX9_clamp) (maxL := 3) (ret := (some .int)) (by decide +kernel) rfl (Nat.le_of_ble_eq_true rfl) (fun p e s m below meth c DA C0 hP hD ls hl => ?_)
  have hPD : WD G DA ([] : va_W) s.heap := ⟨hP, hD⟩
  have hS : va_S DA s.heap s.heap [] := va_S.rf
  have hl : lv_has ls 3 [(0, .int p0), (1, .int p1), (2, .int p2)] := hl
  obtain ⟨hx, hb, hml, hown, hts⟩ := C0.1
  have hK := C0.2.2.2.1
  unfold f9_clamp at h
  refine lv_iload_n hx hb dX9_clamp_0 rfl (lv_at hl 1 rfl) ?_
  refine lv_iload_n hx hb dX9_clamp_1 rfl (lv_at hl 0 rfl) ?_
  refine lv_iload_n hx hb dX9_clamp_2 rfl (lv_at hl 2 rfl) ?_
  refine va_mmin hx hb (hml.trans hl.1.symm) hown (hts _ gw_207) (hts _ gw_208) (hts _ gw_209) (hts _ gw_210) (Nat.le_of_ble_eq_true rfl) (Nat.le_of_ble_eq_true rfl) (Nat.zero_le _) (Nat.zero_le _) dX9_clamp_3 ?_
  refine va_mmax hx hb (hml.trans hl.1.symm) hown (hts _ gw_211) (hts _ gw_212) (hts _ gw_209) (hts _ gw_213) (Nat.le_of_ble_eq_true rfl) (Nat.le_of_ble_eq_true rfl) (Nat.zero_le _) (Nat.zero_le _) dX9_clamp_6 ?_
  subst h
  exact eI C0 hPD.1 hPD.2 hS rfl dX9_clamp_9
abbrev rmX2_rate : Room := { frames := 2, cells := 0, slots := 0, locals := 53 }
set_option maxRecDepth 100000 in
set_option maxHeartbeats 4000000 in
theorem ww_f2_rate_b3  (C0 : Cx cX2_rate 5 (some .int) RX2 p s m args meth c G DA) {h0 : Nat} {a0 : Nat → Nat} {q1 : Nat} {n1 : Nat} {xs1 : Nat → Int32} {p1 : Int32} {p2 : Int32} (hn1 : n1 < 2147483648) {k3 : (Nat → Nat → Int32) → (Nat → Int32) → Int32 → Option (Int32 × (Nat → Nat → Int32) × (Nat → Int32))} {res : Int32 × (Nat → Nat → Int32) × (Nat → Int32)}  (hk3 : ∀ (A0 : Nat → Nat → Int32) (f0 : Nat → Int32) (l4 : Int32), k3 A0 f0 l4 = some res → ∀ (H : Heap) (locs : List Loc) (ls : Array Slot), WD G DA (wX2 G h0 a0 f0 A0 ++ (wI G q1 n1 xs1)) H → va_S DA s.heap H locs → lv_has ls 5 [(0, .ref h0), (1, .int p1), (2, .int p2), (3, .ref q1), (4, .int l4)] → W p l e rmX2_rate s m args below meth c H locs 0 0 (MQ below (QI G DA res.1 (wX2 G h0 a0 res.2.2 res.2.1 ++ (wI G q1 n1 xs1))) args s 0 0 DA) (F0 m 3 ls [])) : ∀ (A0 : Nat → Nat → Int32) (f0 : Nat → Int32) (l4 : Int32), f2_rate_b3 n1 xs1 p1 p2  k3 A0 f0 l4 = some res → ∀ (H : Heap) (locs : List Loc) (ls : Array Slot), WD G DA (wX2 G h0 a0 f0 A0 ++ (wI G q1 n1 xs1)) H → va_S DA s.heap H locs → lv_has ls 5 [(0, .ref h0), (1, .int p1), (2, .int p2), (3, .ref q1), (4, .int l4)] → W p l e rmX2_rate s m args below meth c H locs 0 0 (MQ below (QI G DA res.1 (wX2 G h0 a0 res.2.2 res.2.1 ++ (wI G q1 n1 xs1))) args s 0 0 DA) (F0 m 3 ls []) := by
  obtain ⟨hx, hb, hml, hown, hts⟩ := C0.1
  have hK := C0.2.2.2.1
  intro A0 f0 l4 h _ _ _ hPD hS hl
  unfold f2_rate_b3 at h
  refine lv_iload hx hb dX2_rate_3 (lv_at hl 4 rfl) ?_
  refine lv_aload_n hx hb dX2_rate_5 rfl (lv_at hl 0 rfl) ?_
  refine va_get (D := G.1) (ci := 2) (v := .int (f0 9)) (C := RX2) (T := TX2) (N := 10) hx hb hts inlX2 hown hK hPD.1 0 rfl rfl 9 (by decide) (hts _ gw_182) (fun _ h9 => h9) rfl dX2_rate_6 ?_
  refine lv_icmp_ge (tgt := 86) hx hb dX2_rate_9 (by decide) (fun cc1 => ?_) (fun cc1 => ?_)
  · have h := (if_pos cc1).symm.trans h
    refine lv_iconst (v := 0) hx hb dX2_rate_86 (by decide) ?_
    obtain rfl := Option.some.inj h
    exact eI C0 hPD.1 hPD.2 hS rfl dX2_rate_87
  · have h := (if_neg cc1).symm.trans h
    refine lv_aload_n hx hb dX2_rate_12 rfl (lv_at hl 0 rfl) ?_
    refine va_get (D := G.1) (ci := 2) (v := .ref (a0 2)) (C := RX2) (T := TX2) (N := 10) hx hb hts inlX2 hown hK hPD.1 0 rfl rfl 2 (by decide) (hts _ gw_183) (fun _ h9 => h9) rfl dX2_rate_13 ?_
    refine lv_iload hx hb dX2_rate_16 (lv_at hl 4 rfl) ?_
    refine kNI (As := [.ref (a0 2), .int l4]) (rest := []) C0 (kt_X9_at l G (a0 2) 16 (A0 2) l4 (by decide)) gi_U_X9_at (host := "IdleCrimes") (index := 116) (List.mem_of_getElem? (i := 28) rfl) gw_6 gw_7 (n := 2) rfl (by decide +kernel) ⟨rfl, rfl, Nat.le_of_ble_eq_true rfl, Nat.le_of_ble_eq_true rfl⟩ hPD hS [3] [0, 1, 2, 4, 5, 6, 7, 8] [0, 1, 2, 8, 3, 4, 5, 6, 7] (wN := (wX2 G h0 a0 f0 A0 ++ (wI G q1 n1 xs1))) rfl rfl rfl rfl rfl hl.1 (Nat.le_of_ble_eq_true rfl) dX2_rate_18 (fun H locs hPD hS => ?_)
    refine lv_iload_n hx hb dX2_rate_21 rfl (lv_at hl 1 rfl) ?_
    refine lv_icmp_ne (tgt := 80) hx hb dX2_rate_22 (by decide) (fun cc1 => ?_) (fun cc1 => ?_)
    · have h := (if_neg cc1).symm.trans h
      refine lv_iinc (v := l4 + 1) (lv' := [(4, .int (l4 + 1)), (0, .ref h0), (1, .int p1), (2, .int p2), (3, .ref q1)]) hx hb dX2_rate_80 hl (k := 4) rfl rfl (by decide) rfl (fun ls hl => ?_)
      refine lv_goto (tgt := 3) hx hb dX2_rate_83 (by decide) ?_
      exact hk3 A0 f0 (l4 + 1) h _ _ _ hPD hS (lv_sub hl [1, 2, 3, 4, 0] rfl)
    · have h := (if_pos cc1).symm.trans h
      refine lv_aload_n hx hb dX2_rate_25 rfl (lv_at hl 0 rfl) ?_
      refine lv_aload_n hx hb dX2_rate_26 rfl (lv_at hl 0 rfl) ?_
      refine va_get (D := G.1) (ci := 2) (v := .ref (a0 4)) (C := RX2) (T := TX2) (N := 10) hx hb hts inlX2 hown hK hPD.1 0 rfl rfl 4 (by decide) (hts _ gw_185) (fun _ h9 => h9) rfl dX2_rate_27 ?_
      refine lv_iload hx hb dX2_rate_30 (lv_at hl 4 rfl) ?_
      refine kNI (As := [.ref (a0 4), .int l4]) (rest := [.ref h0]) C0 (kt_X9_at l G (a0 4) 16 (A0 4) l4 (by decide)) gi_U_X9_at (host := "IdleCrimes") (index := 116) (List.mem_of_getElem? (i := 28) rfl) gw_6 gw_7 (n := 2) rfl (by decide +kernel) ⟨rfl, rfl, Nat.le_of_ble_eq_true rfl, Nat.le_of_ble_eq_true rfl⟩ hPD hS [5] [0, 1, 2, 3, 4, 6, 7, 8] [0, 1, 2, 3, 4, 8, 5, 6, 7] (wN := (wX2 G h0 a0 f0 A0 ++ (wI G q1 n1 xs1))) rfl rfl rfl rfl rfl hl.1 (Nat.le_of_ble_eq_true rfl) dX2_rate_32 (fun H locs hPD hS => ?_)
      refine lv_aload_n hx hb dX2_rate_35 rfl (lv_at hl 0 rfl) ?_
      refine va_get (D := G.1) (ci := 2) (v := .ref (a0 5)) (C := RX2) (T := TX2) (N := 10) hx hb hts inlX2 hown hK hPD.1 0 rfl rfl 5 (by decide) (hts _ gw_186) (fun _ h9 => h9) rfl dX2_rate_36 ?_
      refine lv_iload hx hb dX2_rate_39 (lv_at hl 4 rfl) ?_
      refine kNI (As := [.ref (a0 5), .int l4]) (rest := [.int (f9_at 16 (A0 4) l4), .ref h0]) C0 (kt_X9_at l G (a0 5) 16 (A0 5) l4 (by decide)) gi_U_X9_at (host := "IdleCrimes") (index := 116) (List.mem_of_getElem? (i := 28) rfl) gw_6 gw_7 (n := 2) rfl (by decide +kernel) ⟨rfl, rfl, Nat.le_of_ble_eq_true rfl, Nat.le_of_ble_eq_true rfl⟩ hPD hS [6] [0, 1, 2, 3, 4, 5, 7, 8] [0, 1, 2, 3, 4, 5, 8, 6, 7] (wN := (wX2 G h0 a0 f0 A0 ++ (wI G q1 n1 xs1))) rfl rfl rfl rfl rfl hl.1 (Nat.le_of_ble_eq_true rfl) dX2_rate_41 (fun H locs hPD hS => ?_)
      refine lv_aload_n hx hb dX2_rate_44 rfl (lv_at hl 3 rfl) ?_
      obtain ⟨q_1, hq_1, h⟩ := ob2 h
      refine kVI (As := [.int (f9_at 16 (A0 4) l4), .int (f9_at 16 (A0 5) l4), .ref q1]) (rest := []) C0 (kt_X2_reckoned l G h0 a0 q1 f0 A0 n1 xs1 (f9_at 16 (A0 4) l4) (f9_at 16 (A0 5) l4) hn1 hq_1) gi_V_X2_120_X2_reckoned (n := 3) rfl (by decide +kernel) rfl ⟨rfl, rfl, Nat.le_of_ble_eq_true rfl, Nat.le_of_ble_eq_true rfl⟩ hPD hS 0 2 rfl rfl rfl [0, 1, 2, 3, 4, 5, 6, 7, 8] [] [0, 1, 2, 3, 4, 5, 6, 7, 8] (wN := (wX2 G h0 a0 q_1.2.2 q_1.2.1 ++ (wI G q1 n1 xs1))) rfl rfl rfl rfl rfl hl.1 (Nat.le_of_ble_eq_true rfl) dX2_rate_45 (fun H locs hPD hS => ?_)
      refine lv_if_eq (tgt := 80) hx hb dX2_rate_48 (by decide) (fun cc1 => ?_) (fun cc1 => ?_)
      · have h := (if_pos cc1).symm.trans h
        refine lv_iinc (v := l4 + 1) (lv' := [(4, .int (l4 + 1)), (0, .ref h0), (1, .int p1), (2, .int p2), (3, .ref q1)]) hx hb dX2_rate_80 hl (k := 4) rfl rfl (by decide) rfl (fun ls hl => ?_)
        refine lv_goto (tgt := 3) hx hb dX2_rate_83 (by decide) ?_
        exact hk3 q_1.2.1 q_1.2.2 (l4 + 1) h _ _ _ hPD hS (lv_sub hl [1, 2, 3, 4, 0] rfl)
      · have h := (if_neg cc1).symm.trans h
        refine lv_aload_n hx hb dX2_rate_51 rfl (lv_at hl 0 rfl) ?_
        refine lv_aload_n hx hb dX2_rate_52 rfl (lv_at hl 0 rfl) ?_
        refine va_get (D := G.1) (ci := 2) (v := .ref (a0 3)) (C := RX2) (T := TX2) (N := 10) hx hb hts inlX2 hown hK hPD.1 0 rfl rfl 3 (by decide) (hts _ gw_184) (fun _ h9 => h9) rfl dX2_rate_53 ?_
        refine lv_iload hx hb dX2_rate_56 (lv_at hl 4 rfl) ?_
        refine kNI (As := [.ref (a0 3), .int l4]) (rest := [.ref h0]) C0 (kt_X9_at l G (a0 3) 16 (q_1.2.1 3) l4 (by decide)) gi_U_X9_at (host := "IdleCrimes") (index := 116) (List.mem_of_getElem? (i := 28) rfl) gw_6 gw_7 (n := 2) rfl (by decide +kernel) ⟨rfl, rfl, Nat.le_of_ble_eq_true rfl, Nat.le_of_ble_eq_true rfl⟩ hPD hS [4] [0, 1, 2, 3, 5, 6, 7, 8] [0, 1, 2, 3, 8, 4, 5, 6, 7] (wN := (wX2 G h0 a0 q_1.2.2 q_1.2.1 ++ (wI G q1 n1 xs1))) rfl rfl rfl rfl rfl hl.1 (Nat.le_of_ble_eq_true rfl) dX2_rate_58 (fun H locs hPD hS => ?_)
        refine lv_aload_n hx hb dX2_rate_61 rfl (lv_at hl 0 rfl) ?_
        refine va_get (D := G.1) (ci := 2) (v := .ref (a0 4)) (C := RX2) (T := TX2) (N := 10) hx hb hts inlX2 hown hK hPD.1 0 rfl rfl 4 (by decide) (hts _ gw_185) (fun _ h9 => h9) rfl dX2_rate_62 ?_
        refine lv_iload hx hb dX2_rate_65 (lv_at hl 4 rfl) ?_
        refine kNI (As := [.ref (a0 4), .int l4]) (rest := [.int (f9_at 16 (q_1.2.1 3) l4), .ref h0]) C0 (kt_X9_at l G (a0 4) 16 (q_1.2.1 4) l4 (by decide)) gi_U_X9_at (host := "IdleCrimes") (index := 116) (List.mem_of_getElem? (i := 28) rfl) gw_6 gw_7 (n := 2) rfl (by decide +kernel) ⟨rfl, rfl, Nat.le_of_ble_eq_true rfl, Nat.le_of_ble_eq_true rfl⟩ hPD hS [5] [0, 1, 2, 3, 4, 6, 7, 8] [0, 1, 2, 3, 4, 8, 5, 6, 7] (wN := (wX2 G h0 a0 q_1.2.2 q_1.2.1 ++ (wI G q1 n1 xs1))) rfl rfl rfl rfl rfl hl.1 (Nat.le_of_ble_eq_true rfl) dX2_rate_67 (fun H locs hPD hS => ?_)
        refine lv_aload_n hx hb dX2_rate_70 rfl (lv_at hl 3 rfl) ?_
        obtain ⟨q_2, hq_2, h⟩ := ob2 h
        refine kVI (As := [.int (f9_at 16 (q_1.2.1 3) l4), .int (f9_at 16 (q_1.2.1 4) l4), .ref q1]) (rest := []) C0 (kt_X2_reckoned l G h0 a0 q1 q_1.2.2 q_1.2.1 n1 xs1 (f9_at 16 (q_1.2.1 3) l4) (f9_at 16 (q_1.2.1 4) l4) hn1 hq_2) gi_V_X2_120_X2_reckoned (n := 3) rfl (by decide +kernel) rfl ⟨rfl, rfl, Nat.le_of_ble_eq_true rfl, Nat.le_of_ble_eq_true rfl⟩ hPD hS 0 2 rfl rfl rfl [0, 1, 2, 3, 4, 5, 6, 7, 8] [] [0, 1, 2, 3, 4, 5, 6, 7, 8] (wN := (wX2 G h0 a0 q_2.2.2 q_2.2.1 ++ (wI G q1 n1 xs1))) rfl rfl rfl rfl rfl hl.1 (Nat.le_of_ble_eq_true rfl) dX2_rate_71 (fun H locs hPD hS => ?_)
        refine lv_iconst (v := 0) hx hb dX2_rate_74 (by decide) ?_
        refine lv_iload_n hx hb dX2_rate_75 rfl (lv_at hl 2 rfl) ?_
        refine kNI (As := [.int q_2.1, .int 0, .int p2]) (rest := []) C0 (kt_X9_clamp l G  q_2.1 0 p2) gi_U_X9_clamp (host := "IdleCrimes") (index := 124) (List.mem_of_getElem? (i := 29) rfl) gw_6 gw_214 (n := 3) rfl (by decide +kernel) ⟨rfl, rfl, Nat.le_of_ble_eq_true rfl, Nat.le_of_ble_eq_true rfl⟩ hPD hS [] [0, 1, 2, 3, 4, 5, 6, 7, 8] [0, 1, 2, 3, 4, 5, 6, 7, 8] (wN := (wX2 G h0 a0 q_2.2.2 q_2.2.1 ++ (wI G q1 n1 xs1))) rfl rfl rfl rfl rfl hl.1 (Nat.le_of_ble_eq_true rfl) dX2_rate_76 (fun H locs hPD hS => ?_)
        obtain rfl := Option.some.inj h
        exact eI C0 hPD.1 hPD.2 hS rfl dX2_rate_79
set_option maxRecDepth 100000 in
set_option maxHeartbeats 4000000 in
theorem ww_f2_rate_l3  (C0 : Cx cX2_rate 5 (some .int) RX2 p s m args meth c G DA) {h0 : Nat} {a0 : Nat → Nat} {q1 : Nat} {n1 : Nat} {xs1 : Nat → Int32} {p1 : Int32} {p2 : Int32} (hn1 : n1 < 2147483648)  {res : Int32 × (Nat → Nat → Int32) × (Nat → Int32)}  : ∀ (n : Nat) (A0 : Nat → Nat → Int32) (f0 : Nat → Int32) (l4 : Int32), f2_rate_l3 n1 xs1 p1 p2  n A0 f0 l4 = some res → ∀ (H : Heap) (locs : List Loc) (ls : Array Slot), WD G DA (wX2 G h0 a0 f0 A0 ++ (wI G q1 n1 xs1)) H → va_S DA s.heap H locs → lv_has ls 5 [(0, .ref h0), (1, .int p1), (2, .int p2), (3, .ref q1), (4, .int l4)] → W p l e rmX2_rate s m args below meth c H locs 0 0 (MQ below (QI G DA res.1 (wX2 G h0 a0 res.2.2 res.2.1 ++ (wI G q1 n1 xs1))) args s 0 0 DA) (F0 m 3 ls []) := by
  intro n
  induction n with
  | zero => intro A0 f0 l4 h; cases h
  | succ n ih => intro A0 f0 l4 h; exact ww_f2_rate_b3 C0 hn1  ih A0 f0 l4 h
set_option maxRecDepth 100000 in
set_option maxHeartbeats 4000000 in
theorem kt_X2_rate (l : Launch) (G : Gp) (h0 : Nat) (a0 : Nat → Nat) (q1 : Nat) (f0 : Nat → Int32) (A0 : Nat → Nat → Int32) (n1 : Nat) (xs1 : Nat → Int32) (p1 : Int32) (p2 : Int32) (hn1 : n1 < 2147483648) : ∀ {r : Int32 × (Nat → Nat → Int32) × (Nat → Int32)}, f2_rate f0 A0 n1 xs1 p1 p2 = some r → CtrI l yX2_rate cX2_rate 5 (some .int) rmX2_rate G [.ref h0, .int p1, .int p2, .ref q1] (wX2 G h0 a0 f0 A0 ++ (wI G q1 n1 xs1)) r.1 (wX2 G h0 a0 r.2.2 r.2.1 ++ (wI G q1 n1 xs1)) := by
  intro res h
  refine ctrI_of (cc := cX2_rate) (maxL := 5) (ret := (some .int)) (by decide +kernel) rfl (Nat.le_of_ble_eq_true rfl) (fun p e s m below meth c DA C0 hP hD ls hl => ?_)
  have hPD : WD G DA (wX2 G h0 a0 f0 A0 ++ (wI G q1 n1 xs1)) s.heap := ⟨hP, hD⟩
  have hS : va_S DA s.heap s.heap [] := va_S.rf
  have hl : lv_has ls 5 [(0, .ref h0), (1, .int p1), (2, .int p2), (3, .ref q1)] := hl
  obtain ⟨hx, hb, hml, hown, hts⟩ := C0.1
  have hK := C0.2.2.2.1
  unfold f2_rate at h
  refine lv_iconst (v := 0) hx hb dX2_rate_0 (by decide) ?_
  refine lv_istore (lv' := [(4, .int 0), (0, .ref h0), (1, .int p1), (2, .int p2), (3, .ref q1)]) hx hb dX2_rate_1 hl (by decide) rfl (fun ls hl => ?_)
  exact ww_f2_rate_l3 C0 hn1 NF A0 f0 0 h _ _ _ hPD hS (lv_sub hl [1, 2, 3, 4, 0] rfl)
abbrev rmX3_isSign : Room := { frames := 0, cells := 0, slots := 0, locals := 0 }
set_option maxRecDepth 100000 in
set_option maxHeartbeats 4000000 in
theorem kt_X3_isSign (l : Launch) (G : Gp) (p0 : Int32) : CtrI l yX3_isSign cX3_isSign 1 (some .boolean) rmX3_isSign G [.int p0] ([] : va_W) (f3_isSign p0) ([] : va_W) := by
  obtain ⟨res, h⟩ : ∃ res, f3_isSign p0 = res := ⟨_, rfl⟩
  rw [h]
  refine ctrI_of (cc := cX3_isSign) (maxL := 1) (ret := (some .boolean)) (by decide +kernel) rfl (Nat.le_of_ble_eq_true rfl) (fun p e s m below meth c DA C0 hP hD ls hl => ?_)
  have hPD : WD G DA ([] : va_W) s.heap := ⟨hP, hD⟩
  have hS : va_S DA s.heap s.heap [] := va_S.rf
  have hl : lv_has ls 1 [(0, .int p0)] := hl
  obtain ⟨hx, hb, hml, hown, hts⟩ := C0.1
  have hK := C0.2.2.2.1
  unfold f3_isSign at h
  refine lv_iload_n hx hb dX3_isSign_0 rfl (lv_at hl 0 rfl) ?_
  refine lv_bipush (v := 43) hx hb dX3_isSign_1 (by decide) ?_
  refine lv_icmp_eq (tgt := 30) hx hb dX3_isSign_3 (by decide) (fun cc1 => ?_) (fun cc1 => ?_)
  · have h := (if_pos cc1).symm.trans h
    refine lv_iconst (v := 1) hx hb dX3_isSign_30 (by decide) ?_
    refine lv_goto (tgt := 35) hx hb dX3_isSign_31 (by decide) ?_
    subst h
    exact eZ C0 hPD.1 hPD.2 hS rfl rfl dX3_isSign_35
  · have h := (if_neg cc1).symm.trans h
    refine lv_iload_n hx hb dX3_isSign_6 rfl (lv_at hl 0 rfl) ?_
    refine lv_bipush (v := 45) hx hb dX3_isSign_7 (by decide) ?_
    refine lv_icmp_eq (tgt := 30) hx hb dX3_isSign_9 (by decide) (fun cc1 => ?_) (fun cc1 => ?_)
    · have h := (if_pos cc1).symm.trans h
      refine lv_iconst (v := 1) hx hb dX3_isSign_30 (by decide) ?_
      refine lv_goto (tgt := 35) hx hb dX3_isSign_31 (by decide) ?_
      subst h
      exact eZ C0 hPD.1 hPD.2 hS rfl rfl dX3_isSign_35
    · have h := (if_neg cc1).symm.trans h
      refine lv_iload_n hx hb dX3_isSign_12 rfl (lv_at hl 0 rfl) ?_
      refine lv_bipush (v := 61) hx hb dX3_isSign_13 (by decide) ?_
      refine lv_icmp_eq (tgt := 30) hx hb dX3_isSign_15 (by decide) (fun cc1 => ?_) (fun cc1 => ?_)
      · have h := (if_pos cc1).symm.trans h
        refine lv_iconst (v := 1) hx hb dX3_isSign_30 (by decide) ?_
        refine lv_goto (tgt := 35) hx hb dX3_isSign_31 (by decide) ?_
        subst h
        exact eZ C0 hPD.1 hPD.2 hS rfl rfl dX3_isSign_35
      · have h := (if_neg cc1).symm.trans h
        refine lv_iload_n hx hb dX3_isSign_18 rfl (lv_at hl 0 rfl) ?_
        refine lv_bipush (v := 38) hx hb dX3_isSign_19 (by decide) ?_
        refine lv_icmp_eq (tgt := 30) hx hb dX3_isSign_21 (by decide) (fun cc1 => ?_) (fun cc1 => ?_)
        · have h := (if_pos cc1).symm.trans h
          refine lv_iconst (v := 1) hx hb dX3_isSign_30 (by decide) ?_
          refine lv_goto (tgt := 35) hx hb dX3_isSign_31 (by decide) ?_
          subst h
          exact eZ C0 hPD.1 hPD.2 hS rfl rfl dX3_isSign_35
        · have h := (if_neg cc1).symm.trans h
          refine lv_iload_n hx hb dX3_isSign_24 rfl (lv_at hl 0 rfl) ?_
          refine lv_bipush (v := 47) hx hb dX3_isSign_25 (by decide) ?_
          refine lv_icmp_ne (tgt := 34) hx hb dX3_isSign_27 (by decide) (fun cc1 => ?_) (fun cc1 => ?_)
          · have h := (if_neg cc1).symm.trans h
            refine lv_iconst (v := 0) hx hb dX3_isSign_34 (by decide) ?_
            subst h
            exact eZ C0 hPD.1 hPD.2 hS rfl rfl dX3_isSign_35
          · have h := (if_pos cc1).symm.trans h
            refine lv_iconst (v := 1) hx hb dX3_isSign_30 (by decide) ?_
            refine lv_goto (tgt := 35) hx hb dX3_isSign_31 (by decide) ?_
            subst h
            exact eZ C0 hPD.1 hPD.2 hS rfl rfl dX3_isSign_35
abbrev rmX3_other : Room := { frames := 3, cells := 0, slots := 0, locals := 64 }
set_option maxRecDepth 100000 in
set_option maxHeartbeats 4000000 in
theorem kt_X3_other (l : Launch) (G : Gp) (h0 : Nat) (a0 : Nat → Nat) (h1 : Nat) (a1 : Nat → Nat) (f0 : Nat → Int32) (A0 : Nat → Nat → Int32) (f1 : Nat → Int32) (A1 : Nat → Nat → Int32) (p2 : Int32) : ∀ {r : Int32 × (Nat → Int32)}, f3_other f0 A0 f1 A1 p2 = some r → CtrI l yX3_other cX3_other 4 (some .int) rmX3_other G [.ref h0, .ref h1, .int p2] (wX7 G h0 a0 f0 A0 ++ (wX1 G h1 a1 f1 A1)) r.1 (wX7 G h0 a0 r.2 A0 ++ (wX1 G h1 a1 f1 A1)) := by
  intro res h
  refine ctrI_of (cc := cX3_other) (maxL := 4) (ret := (some .int)) (by decide +kernel) rfl (Nat.le_of_ble_eq_true rfl) (fun p e s m below meth c DA C0 hP hD ls hl => ?_)
  have hPD : WD G DA (wX7 G h0 a0 f0 A0 ++ (wX1 G h1 a1 f1 A1)) s.heap := ⟨hP, hD⟩
  have hS : va_S DA s.heap s.heap [] := va_S.rf
  have hl : lv_has ls 4 [(0, .ref h0), (1, .ref h1), (2, .int p2)] := hl
  obtain ⟨hx, hb, hml, hown, hts⟩ := C0.1
  have hK := C0.2.2.2.1
  unfold f3_other at h
  refine lv_aload_n hx hb dX3_other_0 rfl (lv_at hl 0 rfl) ?_
  refine kVI (As := []) (rest := []) C0 (kt_X7_look l G h0 a0 f0 A0) gi_V_X3_35_X7_look (n := 0) rfl (by decide +kernel) rfl ⟨rfl, rfl, Nat.le_of_ble_eq_true rfl, Nat.le_of_ble_eq_true rfl⟩ hPD hS 0 7 rfl rfl rfl [0, 1] [2, 3, 4, 5] [4, 5, 0, 1, 2, 3] (wN := (wX7 G h0 a0 f0 A0 ++ (wX1 G h1 a1 f1 A1))) rfl rfl rfl rfl rfl hl.1 (Nat.le_of_ble_eq_true rfl) dX3_other_1 (fun H locs hPD hS => ?_)
  refine kSI (As := [.int (f7_look f0 A0)]) (rest := []) C0 (kt_X7_placeOf l G  (f7_look f0 A0)) gi_S_X3_39_X7_placeOf (n := 1) rfl (by decide +kernel) ⟨rfl, rfl, Nat.le_of_ble_eq_true rfl, Nat.le_of_ble_eq_true rfl⟩ hPD hS [] [0, 1, 2, 3, 4, 5] [0, 1, 2, 3, 4, 5] (wN := (wX7 G h0 a0 f0 A0 ++ (wX1 G h1 a1 f1 A1))) rfl rfl rfl rfl rfl hl.1 (Nat.le_of_ble_eq_true rfl) dX3_other_4 (fun H locs hPD hS => ?_)
  refine lv_istore_n (lv' := [(3, .int (f7_placeOf (f7_look f0 A0))), (0, .ref h0), (1, .ref h1), (2, .int p2)]) hx hb dX3_other_7 rfl hl (by decide) rfl (fun ls hl => ?_)
  refine lv_iload_n hx hb dX3_other_8 rfl (lv_at hl 0 rfl) ?_
  refine lv_iconst (v := (-1)) hx hb dX3_other_9 (by decide) ?_
  refine lv_icmp_ne (tgt := 21) hx hb dX3_other_10 (by decide) (fun cc1 => ?_) (fun cc1 => ?_)
  · have h := (if_neg cc1).symm.trans h
    refine lv_iload_n hx hb dX3_other_21 rfl (lv_at hl 0 rfl) ?_
    refine lv_iload_n hx hb dX3_other_22 rfl (lv_at hl 3 rfl) ?_
    refine lv_icmp_ne (tgt := 35) hx hb dX3_other_23 (by decide) (fun cc1 => ?_) (fun cc1 => ?_)
    · have h := (if_neg cc1).symm.trans h
      refine lv_aload_n hx hb dX3_other_35 rfl (lv_at hl 2 rfl) ?_
      refine lv_iload_n hx hb dX3_other_36 rfl (lv_at hl 0 rfl) ?_
      refine kVI (As := [.int (f7_placeOf (f7_look f0 A0))]) (rest := []) C0 (kt_X1_isTold l G h1 a1 f1 A1 (f7_placeOf (f7_look f0 A0))) gi_V_X3_47_X1_isTold (n := 1) rfl (by decide +kernel) rfl ⟨rfl, rfl, Nat.le_of_ble_eq_true rfl, Nat.le_of_ble_eq_true rfl⟩ hPD hS 2 1 rfl rfl rfl [2, 3, 4, 5] [0, 1] [0, 1, 2, 3, 4, 5] (wN := (wX7 G h0 a0 f0 A0 ++ (wX1 G h1 a1 f1 A1))) rfl rfl rfl rfl rfl hl.1 (Nat.le_of_ble_eq_true rfl) dX3_other_37 (fun H locs hPD hS => ?_)
      refine lv_if_ne (tgt := 52) hx hb dX3_other_40 (by decide) (fun cc1 => ?_) (fun cc1 => ?_)
      · have h := (if_neg cc1).symm.trans h
        refine lv_aload_n hx hb dX3_other_52 rfl (lv_at hl 1 rfl) ?_
        obtain ⟨z_1, ez_1, h⟩ := lvl h
        have kc := kt_X7_step l G h0 a0 f0 A0
        rw [← ez_1] at kc
        clear ez_1
        refine kVV (As := []) (rest := []) C0 (kc) gi_V_X3_56_X7_step (n := 0) rfl (by decide +kernel) rfl ⟨rfl, rfl, Nat.le_of_ble_eq_true rfl, Nat.le_of_ble_eq_true rfl⟩ hPD hS 0 7 rfl rfl rfl [0, 1] [2, 3, 4, 5] [4, 5, 0, 1, 2, 3] (wN := (wX7 G h0 a0 z_1 A0 ++ (wX1 G h1 a1 f1 A1))) rfl rfl rfl rfl rfl hl.1 (Nat.le_of_ble_eq_true rfl) dX3_other_53 (fun H locs hPD hS => ?_)
        refine lv_iload_n hx hb dX3_other_56 rfl (lv_at hl 0 rfl) ?_
        obtain rfl := Option.some.inj h
        exact eI C0 hPD.1 hPD.2 hS rfl dX3_other_57
      · have h := (if_pos cc1).symm.trans h
        refine lv_aload_n hx hb dX3_other_43 rfl (lv_at hl 1 rfl) ?_
        refine lv_bipush (v := 7) hx hb dX3_other_44 (by decide) ?_
        obtain ⟨z_2, ez_2, h⟩ := lvl h
        have kc := kt_X7_fail l G h0 a0 f0 A0 7
        rw [← ez_2] at kc
        clear ez_2
        refine kVV (As := [.int 7]) (rest := []) C0 (kc) gi_V_X3_43_X7_fail (n := 1) rfl (by decide +kernel) rfl ⟨rfl, rfl, Nat.le_of_ble_eq_true rfl, Nat.le_of_ble_eq_true rfl⟩ hPD hS 0 7 rfl rfl rfl [0, 1] [2, 3, 4, 5] [4, 5, 0, 1, 2, 3] (wN := (wX7 G h0 a0 z_2 A0 ++ (wX1 G h1 a1 f1 A1))) rfl rfl rfl rfl rfl hl.1 (Nat.le_of_ble_eq_true rfl) dX3_other_46 (fun H locs hPD hS => ?_)
        refine lv_goto (tgt := 56) hx hb dX3_other_49 (by decide) ?_
        refine lv_iload_n hx hb dX3_other_56 rfl (lv_at hl 0 rfl) ?_
        obtain rfl := Option.some.inj h
        exact eI C0 hPD.1 hPD.2 hS rfl dX3_other_57
    · have h := (if_pos cc1).symm.trans h
      refine lv_aload_n hx hb dX3_other_26 rfl (lv_at hl 1 rfl) ?_
      refine lv_bipush (v := 6) hx hb dX3_other_27 (by decide) ?_
      obtain ⟨z_3, ez_3, h⟩ := lvl h
      have kc := kt_X7_fail l G h0 a0 f0 A0 6
      rw [← ez_3] at kc
      clear ez_3
      refine kVV (As := [.int 6]) (rest := []) C0 (kc) gi_V_X3_43_X7_fail (n := 1) rfl (by decide +kernel) rfl ⟨rfl, rfl, Nat.le_of_ble_eq_true rfl, Nat.le_of_ble_eq_true rfl⟩ hPD hS 0 7 rfl rfl rfl [0, 1] [2, 3, 4, 5] [4, 5, 0, 1, 2, 3] (wN := (wX7 G h0 a0 z_3 A0 ++ (wX1 G h1 a1 f1 A1))) rfl rfl rfl rfl rfl hl.1 (Nat.le_of_ble_eq_true rfl) dX3_other_29 (fun H locs hPD hS => ?_)
      refine lv_goto (tgt := 56) hx hb dX3_other_32 (by decide) ?_
      refine lv_iload_n hx hb dX3_other_56 rfl (lv_at hl 0 rfl) ?_
      obtain rfl := Option.some.inj h
      exact eI C0 hPD.1 hPD.2 hS rfl dX3_other_57
  · have h := (if_pos cc1).symm.trans h
    refine lv_aload_n hx hb dX3_other_13 rfl (lv_at hl 1 rfl) ?_
    refine lv_iconst (v := 1) hx hb dX3_other_14 (by decide) ?_
    obtain ⟨z_4, ez_4, h⟩ := lvl h
    have kc := kt_X7_fail l G h0 a0 f0 A0 1
    rw [← ez_4] at kc
    clear ez_4
    refine kVV (As := [.int 1]) (rest := []) C0 (kc) gi_V_X3_43_X7_fail (n := 1) rfl (by decide +kernel) rfl ⟨rfl, rfl, Nat.le_of_ble_eq_true rfl, Nat.le_of_ble_eq_true rfl⟩ hPD hS 0 7 rfl rfl rfl [0, 1] [2, 3, 4, 5] [4, 5, 0, 1, 2, 3] (wN := (wX7 G h0 a0 z_4 A0 ++ (wX1 G h1 a1 f1 A1))) rfl rfl rfl rfl rfl hl.1 (Nat.le_of_ble_eq_true rfl) dX3_other_15 (fun H locs hPD hS => ?_)
    refine lv_goto (tgt := 56) hx hb dX3_other_18 (by decide) ?_
    refine lv_iload_n hx hb dX3_other_56 rfl (lv_at hl 0 rfl) ?_
    obtain rfl := Option.some.inj h
    exact eI C0 hPD.1 hPD.2 hS rfl dX3_other_57
abbrev rmX3_line : Room := { frames := 4, cells := 0, slots := 0, locals := 87 }
set_option maxRecDepth 100000 in
set_option maxHeartbeats 4000000 in
theorem ww_f3_line_b127  (C0 : Cx cX3_line 6 none RX3 p s m args meth c G DA) {h0 : Nat} {a0 : Nat → Nat} {h1 : Nat} {a1 : Nat → Nat} {h2 : Nat} {a2 : Nat → Nat} {A1 : Nat → Nat → Int32} {f2 : Nat → Int32} {A2 : Nat → Nat → Int32}   {res : (Nat → Nat → Int32) × (Nat → Int32) × (Nat → Int32)}  : ∀ (A0 : Nat → Nat → Int32) (f0 : Nat → Int32) (f1 : Nat → Int32) (l3 : Int32) (l4 : Int32) (s0 : Int32), f3_line_b127 A1 f2 A2  A0 f0 f1 l3 l4 s0 = some res → ∀ (H : Heap) (locs : List Loc) (ls : Array Slot), WD G DA (wX3 G h0 a0 f0 A0 ++ (wX7 G h1 a1 f1 A1 ++ (wX1 G h2 a2 f2 A2))) H → va_S DA s.heap H locs → lv_has ls 6 [(0, .ref h0), (1, .ref h1), (2, .ref h2), (3, .int l3), (4, .int l4)] → W p l e rmX3_line s m args below meth c H locs 0 0 (MQ below (QV G DA (wX3 G h0 a0 res.2.1 res.1 ++ (wX7 G h1 a1 res.2.2 A1 ++ (wX1 G h2 a2 f2 A2)))) args s 0 0 DA) (F0 m 127 ls [.int s0]) := by
  obtain ⟨hx, hb, hml, hown, hts⟩ := C0.1
  have hK := C0.2.2.2.1
  intro A0 f0 f1 l3 l4 s0 h _ _ _ hPD hS hl
  unfold f3_line_b127 at h
  refine lv_istore (lv' := [(5, .int s0), (0, .ref h0), (1, .ref h1), (2, .ref h2), (3, .int l3), (4, .int l4)]) hx hb dX3_line_127 hl (by decide) rfl (fun ls hl => ?_)
  refine lv_aload_n hx hb dX3_line_129 rfl (lv_at hl 1 rfl) ?_
  refine va_get (D := G.1) (ci := 3) (v := .ref (a0 0)) (C := RX3) (T := TX3) (N := 4) hx hb hts inlX3 hown hK hPD.1 0 rfl rfl 0 (by decide) (hts _ gw_233) (fun _ h9 => h9) rfl dX3_line_130 ?_
  refine lv_aload_n hx hb dX3_line_133 rfl (lv_at hl 1 rfl) ?_
  refine va_get (D := G.1) (ci := 3) (v := .int (f0 3)) (C := RX3) (T := TX3) (N := 4) hx hb hts inlX3 hown hK hPD.1 0 rfl rfl 3 (by decide) (hts _ gw_224) (fun _ h9 => h9) rfl dX3_line_134 ?_
  refine lv_iload_n hx hb dX3_line_137 rfl (lv_at hl 4 rfl) ?_
  obtain ⟨z_4, ez_4, h⟩ := lvl h
  have kc := kt_X9_put l G (a0 0) 20 (A0 0) (f0 3) l3 (by decide)
  rw [← ez_4] at kc
  clear ez_4
  refine kNV (As := [.ref (a0 0), .int (f0 3), .int l3]) (rest := []) C0 (kc) gi_U_X9_put (host := "IdleCrimes") (index := 69) (List.mem_of_getElem? (i := 17) rfl) gw_6 gw_19 (n := 3) rfl (by decide +kernel) ⟨rfl, rfl, Nat.le_of_ble_eq_true rfl, Nat.le_of_ble_eq_true rfl⟩ hPD hS [1] [0, 2, 3, 4, 5, 6, 7, 8, 9] [0, 9, 1, 2, 3, 4, 5, 6, 7, 8] (wN := (wX3 G h0 a0 f0 (updA A0 0 z_4) ++ (wX7 G h1 a1 f1 A1 ++ (wX1 G h2 a2 f2 A2)))) rfl rfl rfl rfl rfl hl.1 (Nat.le_of_ble_eq_true rfl) dX3_line_138 (fun H locs hPD hS => ?_)
  obtain ⟨A0_5, eA0_5, h⟩ := lvl h
  have hPD : WD G DA (wX3 G h0 a0 f0 A0_5 ++ (wX7 G h1 a1 f1 A1 ++ (wX1 G h2 a2 f2 A2))) H := by rw [eA0_5]; exact hPD
  clear eA0_5
  refine lv_aload_n hx hb dX3_line_141 rfl (lv_at hl 1 rfl) ?_
  refine va_get (D := G.1) (ci := 3) (v := .ref (a0 1)) (C := RX3) (T := TX3) (N := 4) hx hb hts inlX3 hown hK hPD.1 0 rfl rfl 1 (by decide) (hts _ gw_234) (fun _ h9 => h9) rfl dX3_line_142 ?_
  refine lv_aload_n hx hb dX3_line_145 rfl (lv_at hl 1 rfl) ?_
  refine va_get (D := G.1) (ci := 3) (v := .int (f0 3)) (C := RX3) (T := TX3) (N := 4) hx hb hts inlX3 hown hK hPD.1 0 rfl rfl 3 (by decide) (hts _ gw_224) (fun _ h9 => h9) rfl dX3_line_146 ?_
  refine lv_iload hx hb dX3_line_149 (lv_at hl 5 rfl) ?_
  obtain ⟨z_6, ez_6, h⟩ := lvl h
  have kc := kt_X9_put l G (a0 1) 20 (A0_5 1) (f0 3) l4 (by decide)
  rw [← ez_6] at kc
  clear ez_6
  refine kNV (As := [.ref (a0 1), .int (f0 3), .int l4]) (rest := []) C0 (kc) gi_U_X9_put (host := "IdleCrimes") (index := 69) (List.mem_of_getElem? (i := 17) rfl) gw_6 gw_19 (n := 3) rfl (by decide +kernel) ⟨rfl, rfl, Nat.le_of_ble_eq_true rfl, Nat.le_of_ble_eq_true rfl⟩ hPD hS [2] [0, 1, 3, 4, 5, 6, 7, 8, 9] [0, 1, 9, 2, 3, 4, 5, 6, 7, 8] (wN := (wX3 G h0 a0 f0 (updA A0_5 1 z_6) ++ (wX7 G h1 a1 f1 A1 ++ (wX1 G h2 a2 f2 A2)))) rfl rfl rfl rfl rfl hl.1 (Nat.le_of_ble_eq_true rfl) dX3_line_151 (fun H locs hPD hS => ?_)
  obtain ⟨A0_7, eA0_7, h⟩ := lvl h
  have hPD : WD G DA (wX3 G h0 a0 f0 A0_7 ++ (wX7 G h1 a1 f1 A1 ++ (wX1 G h2 a2 f2 A2))) H := by rw [eA0_7]; exact hPD
  clear eA0_7
  refine lv_aload_n hx hb dX3_line_154 rfl (lv_at hl 1 rfl) ?_
  refine va_get (D := G.1) (ci := 3) (v := .ref (a0 2)) (C := RX3) (T := TX3) (N := 4) hx hb hts inlX3 hown hK hPD.1 0 rfl rfl 2 (by decide) (hts _ gw_235) (fun _ h9 => h9) rfl dX3_line_155 ?_
  refine lv_aload_n hx hb dX3_line_158 rfl (lv_at hl 1 rfl) ?_
  refine va_get (D := G.1) (ci := 3) (v := .int (f0 3)) (C := RX3) (T := TX3) (N := 4) hx hb hts inlX3 hown hK hPD.1 0 rfl rfl 3 (by decide) (hts _ gw_224) (fun _ h9 => h9) rfl dX3_line_159 ?_
  refine lv_iload hx hb dX3_line_162 (lv_at hl 0 rfl) ?_
  obtain ⟨z_8, ez_8, h⟩ := lvl h
  have kc := kt_X9_put l G (a0 2) 20 (A0_7 2) (f0 3) s0 (by decide)
  rw [← ez_8] at kc
  clear ez_8
  refine kNV (As := [.ref (a0 2), .int (f0 3), .int s0]) (rest := []) C0 (kc) gi_U_X9_put (host := "IdleCrimes") (index := 69) (List.mem_of_getElem? (i := 17) rfl) gw_6 gw_19 (n := 3) rfl (by decide +kernel) ⟨rfl, rfl, Nat.le_of_ble_eq_true rfl, Nat.le_of_ble_eq_true rfl⟩ hPD hS [3] [0, 1, 2, 4, 5, 6, 7, 8, 9] [0, 1, 2, 9, 3, 4, 5, 6, 7, 8] (wN := (wX3 G h0 a0 f0 (updA A0_7 2 z_8) ++ (wX7 G h1 a1 f1 A1 ++ (wX1 G h2 a2 f2 A2)))) rfl rfl rfl rfl rfl hl.1 (Nat.le_of_ble_eq_true rfl) dX3_line_164 (fun H locs hPD hS => ?_)
  obtain ⟨A0_9, eA0_9, h⟩ := lvl h
  have hPD : WD G DA (wX3 G h0 a0 f0 A0_9 ++ (wX7 G h1 a1 f1 A1 ++ (wX1 G h2 a2 f2 A2))) H := by rw [eA0_9]; exact hPD
  clear eA0_9
  refine lv_aload_n hx hb dX3_line_167 rfl (lv_at hl 1 rfl) ?_
  refine lv_dup hx hb dX3_line_168 rfl ?_
  refine va_get (D := G.1) (ci := 3) (v := .int (f0 3)) (C := RX3) (T := TX3) (N := 4) hx hb hts inlX3 hown hK hPD.1 0 rfl rfl 3 (by decide) (hts _ gw_224) (fun _ h9 => h9) rfl dX3_line_169 ?_
  refine lv_iconst (v := 1) hx hb dX3_line_172 (by decide) ?_
  refine lv_iadd hx hb dX3_line_173 ?_
  refine va_put (D := G.1) (ci := 3) (v := .int ((f0 3) + 1)) (ty := .int) (C := RX3) (T := TX3) (N := 4) hx hb hts inlX3 tyX3 tyX3_ok nmX3 hown hK hPD.1 hPD.2 hS 0 rfl rfl 3 (by decide) (hts _ gw_224) (fun _ h9 => h9) rfl (by decide +kernel) rfl rfl (Nat.le_of_ble_eq_true rfl) dX3_line_174 (fun H locs hP hD hS => ?_)
  obtain ⟨f0_10, ef0_10, h⟩ := lvl h
  have hPD : WD G DA (wX3 G h0 a0 f0_10 A0_9 ++ (wX7 G h1 a1 f1 A1 ++ (wX1 G h2 a2 f2 A2))) H := by rw [ef0_10]; exact ⟨hP, hD⟩
  clear ef0_10 hP hD
  obtain rfl := Option.some.inj h
  exact eV C0 hPD.1 hPD.2 hS dX3_line_177
set_option maxRecDepth 100000 in
set_option maxHeartbeats 4000000 in
theorem ww_f3_line_b102  (C0 : Cx cX3_line 6 none RX3 p s m args meth c G DA) {h0 : Nat} {a0 : Nat → Nat} {h1 : Nat} {a1 : Nat → Nat} {h2 : Nat} {a2 : Nat → Nat} {A1 : Nat → Nat → Int32} {f2 : Nat → Int32} {A2 : Nat → Nat → Int32}   {res : (Nat → Nat → Int32) × (Nat → Int32) × (Nat → Int32)}  : ∀ (A0 : Nat → Nat → Int32) (f0 : Nat → Int32) (f1 : Nat → Int32) (l3 : Int32) (l4 : Int32), f3_line_b102 A1 f2 A2  A0 f0 f1 l3 l4 = some res → ∀ (H : Heap) (locs : List Loc) (ls : Array Slot), WD G DA (wX3 G h0 a0 f0 A0 ++ (wX7 G h1 a1 f1 A1 ++ (wX1 G h2 a2 f2 A2))) H → va_S DA s.heap H locs → lv_has ls 6 [(0, .ref h0), (1, .ref h1), (2, .ref h2), (3, .int l3), (4, .int l4)] → W p l e rmX3_line s m args below meth c H locs 0 0 (MQ below (QV G DA (wX3 G h0 a0 res.2.1 res.1 ++ (wX7 G h1 a1 res.2.2 A1 ++ (wX1 G h2 a2 f2 A2)))) args s 0 0 DA) (F0 m 102 ls []) := by
  obtain ⟨hx, hb, hml, hown, hts⟩ := C0.1
  have hK := C0.2.2.2.1
  intro A0 f0 f1 l3 l4 h _ _ _ hPD hS hl
  unfold f3_line_b102 at h
  refine lv_aload_n hx hb dX3_line_102 rfl (lv_at hl 1 rfl) ?_
  refine lv_aload_n hx hb dX3_line_103 rfl (lv_at hl 2 rfl) ?_
  refine lv_iload_n hx hb dX3_line_104 rfl (lv_at hl 3 rfl) ?_
  obtain ⟨q_3, hq_3, h⟩ := ob2 h
  refine kSI (As := [.ref h1, .ref h2, .int l3]) (rest := []) C0 (kt_X3_other l G h1 a1 h2 a2 f1 A1 f2 A2 l3 hq_3) gi_S_X3_62_X3_other (n := 3) rfl (by decide +kernel) ⟨rfl, rfl, Nat.le_of_ble_eq_true rfl, Nat.le_of_ble_eq_true rfl⟩ hPD hS [4, 5, 6, 7, 8, 9] [0, 1, 2, 3] [0, 1, 2, 3, 4, 5, 6, 7, 8, 9] (wN := (wX3 G h0 a0 f0 A0 ++ (wX7 G h1 a1 q_3.2 A1 ++ (wX1 G h2 a2 f2 A2)))) rfl rfl rfl rfl rfl hl.1 (Nat.le_of_ble_eq_true rfl) dX3_line_105 (fun H locs hPD hS => ?_)
  refine lv_goto (tgt := 127) hx hb dX3_line_108 (by decide) ?_
  exact ww_f3_line_b127 C0 A0 f0 q_3.2 l3 l4 q_3.1 h _ _ _ hPD hS (lv_sub hl [0, 1, 2, 3, 4] rfl)
set_option maxRecDepth 100000 in
set_option maxHeartbeats 4000000 in
theorem ww_f3_line_b52  (C0 : Cx cX3_line 6 none RX3 p s m args meth c G DA) {h0 : Nat} {a0 : Nat → Nat} {h1 : Nat} {a1 : Nat → Nat} {h2 : Nat} {a2 : Nat → Nat} {A1 : Nat → Nat → Int32} {f2 : Nat → Int32} {A2 : Nat → Nat → Int32}   {res : (Nat → Nat → Int32) × (Nat → Int32) × (Nat → Int32)}  : ∀ (A0 : Nat → Nat → Int32) (f0 : Nat → Int32) (f1 : Nat → Int32) (l3 : Int32), f3_line_b52 A1 f2 A2  A0 f0 f1 l3 = some res → ∀ (H : Heap) (locs : List Loc) (ls : Array Slot), WD G DA (wX3 G h0 a0 f0 A0 ++ (wX7 G h1 a1 f1 A1 ++ (wX1 G h2 a2 f2 A2))) H → va_S DA s.heap H locs → lv_has ls 6 [(0, .ref h0), (1, .ref h1), (2, .ref h2), (3, .int l3)] → W p l e rmX3_line s m args below meth c H locs 0 0 (MQ below (QV G DA (wX3 G h0 a0 res.2.1 res.1 ++ (wX7 G h1 a1 res.2.2 A1 ++ (wX1 G h2 a2 f2 A2)))) args s 0 0 DA) (F0 m 52 ls []) := by
  obtain ⟨hx, hb, hml, hown, hts⟩ := C0.1
  have hK := C0.2.2.2.1
  intro A0 f0 f1 l3 h _ _ _ hPD hS hl
  unfold f3_line_b52 at h
  refine lv_aload_n hx hb dX3_line_52 rfl (lv_at hl 1 rfl) ?_
  refine kVI (As := []) (rest := []) C0 (kt_X7_isFine l G h1 a1 f1 A1) gi_V_X3_53_X7_isFine (n := 0) rfl (by decide +kernel) rfl ⟨rfl, rfl, Nat.le_of_ble_eq_true rfl, Nat.le_of_ble_eq_true rfl⟩ hPD hS 4 7 rfl rfl rfl [4, 5] [0, 1, 2, 3, 6, 7, 8, 9] [0, 1, 2, 3, 8, 9, 4, 5, 6, 7] (wN := (wX3 G h0 a0 f0 A0 ++ (wX7 G h1 a1 f1 A1 ++ (wX1 G h2 a2 f2 A2)))) rfl rfl rfl rfl rfl hl.1 (Nat.le_of_ble_eq_true rfl) dX3_line_53 (fun H locs hPD hS => ?_)
  refine lv_if_ne (tgt := 60) hx hb dX3_line_56 (by decide) (fun cc1 => ?_) (fun cc1 => ?_)
  · have h := (if_neg cc1).symm.trans h
    refine lv_aload_n hx hb dX3_line_60 rfl (lv_at hl 1 rfl) ?_
    obtain ⟨z_1, ez_1, h⟩ := lvl h
    have kc := kt_X7_step l G h1 a1 f1 A1
    rw [← ez_1] at kc
    clear ez_1
    refine kVV (As := []) (rest := []) C0 (kc) gi_V_X3_56_X7_step (n := 0) rfl (by decide +kernel) rfl ⟨rfl, rfl, Nat.le_of_ble_eq_true rfl, Nat.le_of_ble_eq_true rfl⟩ hPD hS 4 7 rfl rfl rfl [4, 5] [0, 1, 2, 3, 6, 7, 8, 9] [0, 1, 2, 3, 8, 9, 4, 5, 6, 7] (wN := (wX3 G h0 a0 f0 A0 ++ (wX7 G h1 a1 z_1 A1 ++ (wX1 G h2 a2 f2 A2)))) rfl rfl rfl rfl rfl hl.1 (Nat.le_of_ble_eq_true rfl) dX3_line_61 (fun H locs hPD hS => ?_)
    refine lv_aload_n hx hb dX3_line_64 rfl (lv_at hl 1 rfl) ?_
    refine kVI (As := []) (rest := []) C0 (kt_X7_look l G h1 a1 z_1 A1) gi_V_X3_35_X7_look (n := 0) rfl (by decide +kernel) rfl ⟨rfl, rfl, Nat.le_of_ble_eq_true rfl, Nat.le_of_ble_eq_true rfl⟩ hPD hS 4 7 rfl rfl rfl [4, 5] [0, 1, 2, 3, 6, 7, 8, 9] [0, 1, 2, 3, 8, 9, 4, 5, 6, 7] (wN := (wX3 G h0 a0 f0 A0 ++ (wX7 G h1 a1 z_1 A1 ++ (wX1 G h2 a2 f2 A2)))) rfl rfl rfl rfl rfl hl.1 (Nat.le_of_ble_eq_true rfl) dX3_line_65 (fun H locs hPD hS => ?_)
    refine lv_istore (lv' := [(4, .int (f7_look z_1 A1)), (0, .ref h0), (1, .ref h1), (2, .ref h2), (3, .int l3)]) hx hb dX3_line_68 hl (by decide) rfl (fun ls hl => ?_)
    refine lv_iload hx hb dX3_line_70 (lv_at hl 0 rfl) ?_
    refine kSI (As := [.int (f7_look z_1 A1)]) (rest := []) C0 (kt_X3_isSign l G  (f7_look z_1 A1)) gi_S_X3_59_X3_isSign (n := 1) rfl (by decide +kernel) ⟨rfl, rfl, Nat.le_of_ble_eq_true rfl, Nat.le_of_ble_eq_true rfl⟩ hPD hS [] [0, 1, 2, 3, 4, 5, 6, 7, 8, 9] [0, 1, 2, 3, 4, 5, 6, 7, 8, 9] (wN := (wX3 G h0 a0 f0 A0 ++ (wX7 G h1 a1 z_1 A1 ++ (wX1 G h2 a2 f2 A2)))) rfl rfl rfl rfl rfl hl.1 (Nat.le_of_ble_eq_true rfl) dX3_line_72 (fun H locs hPD hS => ?_)
    refine lv_if_ne (tgt := 84) hx hb dX3_line_75 (by decide) (fun cc1 => ?_) (fun cc1 => ?_)
    · have h := (if_neg cc1).symm.trans h
      refine lv_aload_n hx hb dX3_line_84 rfl (lv_at hl 2 rfl) ?_
      obtain ⟨z_2, ez_2, h⟩ := lvl h
      have kc := kt_X7_step l G h1 a1 z_1 A1
      rw [← ez_2] at kc
      clear ez_2
      refine kVV (As := []) (rest := []) C0 (kc) gi_V_X3_56_X7_step (n := 0) rfl (by decide +kernel) rfl ⟨rfl, rfl, Nat.le_of_ble_eq_true rfl, Nat.le_of_ble_eq_true rfl⟩ hPD hS 4 7 rfl rfl rfl [4, 5] [0, 1, 2, 3, 6, 7, 8, 9] [0, 1, 2, 3, 8, 9, 4, 5, 6, 7] (wN := (wX3 G h0 a0 f0 A0 ++ (wX7 G h1 a1 z_2 A1 ++ (wX1 G h2 a2 f2 A2)))) rfl rfl rfl rfl rfl hl.1 (Nat.le_of_ble_eq_true rfl) dX3_line_85 (fun H locs hPD hS => ?_)
      refine lv_iload hx hb dX3_line_88 (lv_at hl 0 rfl) ?_
      refine lv_bipush (v := 38) hx hb dX3_line_90 (by decide) ?_
      refine lv_icmp_eq (tgt := 102) hx hb dX3_line_92 (by decide) (fun cc1 => ?_) (fun cc1 => ?_)
      · have h := (if_pos cc1).symm.trans h
        exact ww_f3_line_b102 C0 A0 f0 z_2 l3 (f7_look z_1 A1) h _ _ _ hPD hS (lv_sub hl [1, 2, 3, 4, 0] rfl)
      · have h := (if_neg cc1).symm.trans h
        refine lv_iload hx hb dX3_line_95 (lv_at hl 0 rfl) ?_
        refine lv_bipush (v := 47) hx hb dX3_line_97 (by decide) ?_
        refine lv_icmp_ne (tgt := 111) hx hb dX3_line_99 (by decide) (fun cc1 => ?_) (fun cc1 => ?_)
        · have h := (if_neg cc1).symm.trans h
          refine lv_aload_n hx hb dX3_line_111 rfl (lv_at hl 2 rfl) ?_
          refine lv_iload hx hb dX3_line_112 (lv_at hl 0 rfl) ?_
          refine lv_bipush (v := 61) hx hb dX3_line_114 (by decide) ?_
          refine lv_icmp_ne (tgt := 123) hx hb dX3_line_116 (by decide) (fun cc1 => ?_) (fun cc1 => ?_)
          · have h := (if_neg cc1).symm.trans h
            refine lv_iconst (v := 2) hx hb dX3_line_123 (by decide) ?_
            obtain ⟨q_11, hq_11, h⟩ := ob2 h
            refine kVI (As := [.int 2]) (rest := []) C0 (kt_X7_number l G h1 a1 z_2 A1 2 hq_11) gi_V_X3_66_X7_number (n := 1) rfl (by decide +kernel) rfl ⟨rfl, rfl, Nat.le_of_ble_eq_true rfl, Nat.le_of_ble_eq_true rfl⟩ hPD hS 4 7 rfl rfl rfl [4, 5] [0, 1, 2, 3, 6, 7, 8, 9] [0, 1, 2, 3, 8, 9, 4, 5, 6, 7] (wN := (wX3 G h0 a0 f0 A0 ++ (wX7 G h1 a1 q_11.2 A1 ++ (wX1 G h2 a2 f2 A2)))) rfl rfl rfl rfl rfl hl.1 (Nat.le_of_ble_eq_true rfl) dX3_line_124 (fun H locs hPD hS => ?_)
            exact ww_f3_line_b127 C0 A0 f0 q_11.2 l3 (f7_look z_1 A1) q_11.1 h _ _ _ hPD hS (lv_sub hl [1, 2, 3, 4, 0] rfl)
          · have h := (if_pos cc1).symm.trans h
            refine lv_iconst (v := 3) hx hb dX3_line_119 (by decide) ?_
            refine lv_goto (tgt := 124) hx hb dX3_line_120 (by decide) ?_
            obtain ⟨q_12, hq_12, h⟩ := ob2 h
            refine kVI (As := [.int 3]) (rest := []) C0 (kt_X7_number l G h1 a1 z_2 A1 3 hq_12) gi_V_X3_66_X7_number (n := 1) rfl (by decide +kernel) rfl ⟨rfl, rfl, Nat.le_of_ble_eq_true rfl, Nat.le_of_ble_eq_true rfl⟩ hPD hS 4 7 rfl rfl rfl [4, 5] [0, 1, 2, 3, 6, 7, 8, 9] [0, 1, 2, 3, 8, 9, 4, 5, 6, 7] (wN := (wX3 G h0 a0 f0 A0 ++ (wX7 G h1 a1 q_12.2 A1 ++ (wX1 G h2 a2 f2 A2)))) rfl rfl rfl rfl rfl hl.1 (Nat.le_of_ble_eq_true rfl) dX3_line_124 (fun H locs hPD hS => ?_)
            exact ww_f3_line_b127 C0 A0 f0 q_12.2 l3 (f7_look z_1 A1) q_12.1 h _ _ _ hPD hS (lv_sub hl [1, 2, 3, 4, 0] rfl)
        · have h := (if_pos cc1).symm.trans h
          exact ww_f3_line_b102 C0 A0 f0 z_2 l3 (f7_look z_1 A1) h _ _ _ hPD hS (lv_sub hl [1, 2, 3, 4, 0] rfl)
    · have h := (if_pos cc1).symm.trans h
      refine lv_aload_n hx hb dX3_line_78 rfl (lv_at hl 2 rfl) ?_
      refine lv_iconst (v := 1) hx hb dX3_line_79 (by decide) ?_
      obtain ⟨z_13, ez_13, h⟩ := lvl h
      have kc := kt_X7_fail l G h1 a1 z_1 A1 1
      rw [← ez_13] at kc
      clear ez_13
      refine kVV (As := [.int 1]) (rest := []) C0 (kc) gi_V_X3_43_X7_fail (n := 1) rfl (by decide +kernel) rfl ⟨rfl, rfl, Nat.le_of_ble_eq_true rfl, Nat.le_of_ble_eq_true rfl⟩ hPD hS 4 7 rfl rfl rfl [4, 5] [0, 1, 2, 3, 6, 7, 8, 9] [0, 1, 2, 3, 8, 9, 4, 5, 6, 7] (wN := (wX3 G h0 a0 f0 A0 ++ (wX7 G h1 a1 z_13 A1 ++ (wX1 G h2 a2 f2 A2)))) rfl rfl rfl rfl rfl hl.1 (Nat.le_of_ble_eq_true rfl) dX3_line_80 (fun H locs hPD hS => ?_)
      obtain rfl := Option.some.inj h
      exact eV C0 hPD.1 hPD.2 hS dX3_line_83
  · have h := (if_pos cc1).symm.trans h
    obtain rfl := Option.some.inj h
    exact eV C0 hPD.1 hPD.2 hS dX3_line_59
set_option maxRecDepth 100000 in
set_option maxHeartbeats 4000000 in
theorem kt_X3_line (l : Launch) (G : Gp) (h0 : Nat) (a0 : Nat → Nat) (h1 : Nat) (a1 : Nat → Nat) (h2 : Nat) (a2 : Nat → Nat) (f0 : Nat → Int32) (A0 : Nat → Nat → Int32) (f1 : Nat → Int32) (A1 : Nat → Nat → Int32) (f2 : Nat → Int32) (A2 : Nat → Nat → Int32) : ∀ {r : (Nat → Nat → Int32) × (Nat → Int32) × (Nat → Int32)}, f3_line f0 A0 f1 A1 f2 A2 = some r → CtrV l yX3_line cX3_line 6 none rmX3_line G [.ref h0, .ref h1, .ref h2] (wX3 G h0 a0 f0 A0 ++ (wX7 G h1 a1 f1 A1 ++ (wX1 G h2 a2 f2 A2))) (wX3 G h0 a0 r.2.1 r.1 ++ (wX7 G h1 a1 r.2.2 A1 ++ (wX1 G h2 a2 f2 A2))) := by
  intro res h
  refine ctrV_of (cc := cX3_line) (maxL := 6) (ret := none) (by decide +kernel) rfl (Nat.le_of_ble_eq_true rfl) (fun p e s m below meth c DA C0 hP hD ls hl => ?_)
  have hPD : WD G DA (wX3 G h0 a0 f0 A0 ++ (wX7 G h1 a1 f1 A1 ++ (wX1 G h2 a2 f2 A2))) s.heap := ⟨hP, hD⟩
  have hS : va_S DA s.heap s.heap [] := va_S.rf
  have hl : lv_has ls 6 [(0, .ref h0), (1, .ref h1), (2, .ref h2)] := hl
  obtain ⟨hx, hb, hml, hown, hts⟩ := C0.1
  have hK := C0.2.2.2.1
  unfold f3_line at h
  refine lv_aload_n hx hb dX3_line_0 rfl (lv_at hl 1 rfl) ?_
  refine kVI (As := []) (rest := []) C0 (kt_X7_look l G h1 a1 f1 A1) gi_V_X3_35_X7_look (n := 0) rfl (by decide +kernel) rfl ⟨rfl, rfl, Nat.le_of_ble_eq_true rfl, Nat.le_of_ble_eq_true rfl⟩ hPD hS 4 7 rfl rfl rfl [4, 5] [0, 1, 2, 3, 6, 7, 8, 9] [0, 1, 2, 3, 8, 9, 4, 5, 6, 7] (wN := (wX3 G h0 a0 f0 A0 ++ (wX7 G h1 a1 f1 A1 ++ (wX1 G h2 a2 f2 A2)))) rfl rfl rfl rfl rfl hl.1 (Nat.le_of_ble_eq_true rfl) dX3_line_1 (fun H locs hPD hS => ?_)
  refine kSI (As := [.int (f7_look f1 A1)]) (rest := []) C0 (kt_X7_placeOf l G  (f7_look f1 A1)) gi_S_X3_39_X7_placeOf (n := 1) rfl (by decide +kernel) ⟨rfl, rfl, Nat.le_of_ble_eq_true rfl, Nat.le_of_ble_eq_true rfl⟩ hPD hS [] [0, 1, 2, 3, 4, 5, 6, 7, 8, 9] [0, 1, 2, 3, 4, 5, 6, 7, 8, 9] (wN := (wX3 G h0 a0 f0 A0 ++ (wX7 G h1 a1 f1 A1 ++ (wX1 G h2 a2 f2 A2)))) rfl rfl rfl rfl rfl hl.1 (Nat.le_of_ble_eq_true rfl) dX3_line_4 (fun H locs hPD hS => ?_)
  refine lv_istore_n (lv' := [(3, .int (f7_placeOf (f7_look f1 A1))), (0, .ref h0), (1, .ref h1), (2, .ref h2)]) hx hb dX3_line_7 rfl hl (by decide) rfl (fun ls hl => ?_)
  refine lv_iload_n hx hb dX3_line_8 rfl (lv_at hl 0 rfl) ?_
  refine lv_iconst (v := (-1)) hx hb dX3_line_9 (by decide) ?_
  refine lv_icmp_ne (tgt := 21) hx hb dX3_line_10 (by decide) (fun cc1 => ?_) (fun cc1 => ?_)
  · have h := (if_neg cc1).symm.trans h
    refine lv_aload_n hx hb dX3_line_21 rfl (lv_at hl 1 rfl) ?_
    refine va_get (D := G.1) (ci := 3) (v := .int (f0 3)) (C := RX3) (T := TX3) (N := 4) hx hb hts inlX3 hown hK hPD.1 0 rfl rfl 3 (by decide) (hts _ gw_224) (fun _ h9 => h9) rfl dX3_line_22 ?_
    refine lv_bipush (v := 20) hx hb dX3_line_25 (by decide) ?_
    refine lv_icmp_lt (tgt := 38) hx hb dX3_line_27 (by decide) (fun cc1 => ?_) (fun cc1 => ?_)
    · have h := (if_pos cc1).symm.trans h
      refine lv_aload_n hx hb dX3_line_38 rfl (lv_at hl 3 rfl) ?_
      refine lv_iload_n hx hb dX3_line_39 rfl (lv_at hl 0 rfl) ?_
      refine kVI (As := [.int (f7_placeOf (f7_look f1 A1))]) (rest := []) C0 (kt_X1_isTold l G h2 a2 f2 A2 (f7_placeOf (f7_look f1 A1))) gi_V_X3_47_X1_isTold (n := 1) rfl (by decide +kernel) rfl ⟨rfl, rfl, Nat.le_of_ble_eq_true rfl, Nat.le_of_ble_eq_true rfl⟩ hPD hS 6 1 rfl rfl rfl [6, 7, 8, 9] [0, 1, 2, 3, 4, 5] [0, 1, 2, 3, 4, 5, 6, 7, 8, 9] (wN := (wX3 G h0 a0 f0 A0 ++ (wX7 G h1 a1 f1 A1 ++ (wX1 G h2 a2 f2 A2)))) rfl rfl rfl rfl rfl hl.1 (Nat.le_of_ble_eq_true rfl) dX3_line_40 (fun H locs hPD hS => ?_)
      refine lv_if_ne (tgt := 52) hx hb dX3_line_43 (by decide) (fun cc1 => ?_) (fun cc1 => ?_)
      · have h := (if_neg cc1).symm.trans h
        exact ww_f3_line_b52 C0 A0 f0 f1 (f7_placeOf (f7_look f1 A1)) h _ _ _ hPD hS (lv_sub hl [1, 2, 3, 0] rfl)
      · have h := (if_pos cc1).symm.trans h
        refine lv_aload_n hx hb dX3_line_46 rfl (lv_at hl 2 rfl) ?_
        refine lv_bipush (v := 7) hx hb dX3_line_47 (by decide) ?_
        obtain ⟨z_14, ez_14, h⟩ := lvl h
        have kc := kt_X7_fail l G h1 a1 f1 A1 7
        rw [← ez_14] at kc
        clear ez_14
        refine kVV (As := [.int 7]) (rest := []) C0 (kc) gi_V_X3_43_X7_fail (n := 1) rfl (by decide +kernel) rfl ⟨rfl, rfl, Nat.le_of_ble_eq_true rfl, Nat.le_of_ble_eq_true rfl⟩ hPD hS 4 7 rfl rfl rfl [4, 5] [0, 1, 2, 3, 6, 7, 8, 9] [0, 1, 2, 3, 8, 9, 4, 5, 6, 7] (wN := (wX3 G h0 a0 f0 A0 ++ (wX7 G h1 a1 z_14 A1 ++ (wX1 G h2 a2 f2 A2)))) rfl rfl rfl rfl rfl hl.1 (Nat.le_of_ble_eq_true rfl) dX3_line_49 (fun H locs hPD hS => ?_)
        exact ww_f3_line_b52 C0 A0 f0 z_14 (f7_placeOf (f7_look f1 A1)) h _ _ _ hPD hS (lv_sub hl [1, 2, 3, 0] rfl)
    · have h := (if_neg cc1).symm.trans h
      refine lv_aload_n hx hb dX3_line_30 rfl (lv_at hl 2 rfl) ?_
      refine lv_iconst (v := 4) hx hb dX3_line_31 (by decide) ?_
      obtain ⟨z_15, ez_15, h⟩ := lvl h
      have kc := kt_X7_fail l G h1 a1 f1 A1 4
      rw [← ez_15] at kc
      clear ez_15
      refine kVV (As := [.int 4]) (rest := []) C0 (kc) gi_V_X3_43_X7_fail (n := 1) rfl (by decide +kernel) rfl ⟨rfl, rfl, Nat.le_of_ble_eq_true rfl, Nat.le_of_ble_eq_true rfl⟩ hPD hS 4 7 rfl rfl rfl [4, 5] [0, 1, 2, 3, 6, 7, 8, 9] [0, 1, 2, 3, 8, 9, 4, 5, 6, 7] (wN := (wX3 G h0 a0 f0 A0 ++ (wX7 G h1 a1 z_15 A1 ++ (wX1 G h2 a2 f2 A2)))) rfl rfl rfl rfl rfl hl.1 (Nat.le_of_ble_eq_true rfl) dX3_line_32 (fun H locs hPD hS => ?_)
      refine lv_goto (tgt := 52) hx hb dX3_line_35 (by decide) ?_
      exact ww_f3_line_b52 C0 A0 f0 z_15 (f7_placeOf (f7_look f1 A1)) h _ _ _ hPD hS (lv_sub hl [1, 2, 3, 0] rfl)
  · have h := (if_pos cc1).symm.trans h
    refine lv_aload_n hx hb dX3_line_13 rfl (lv_at hl 2 rfl) ?_
    refine lv_iconst (v := 1) hx hb dX3_line_14 (by decide) ?_
    obtain ⟨z_16, ez_16, h⟩ := lvl h
    have kc := kt_X7_fail l G h1 a1 f1 A1 1
    rw [← ez_16] at kc
    clear ez_16
    refine kVV (As := [.int 1]) (rest := []) C0 (kc) gi_V_X3_43_X7_fail (n := 1) rfl (by decide +kernel) rfl ⟨rfl, rfl, Nat.le_of_ble_eq_true rfl, Nat.le_of_ble_eq_true rfl⟩ hPD hS 4 7 rfl rfl rfl [4, 5] [0, 1, 2, 3, 6, 7, 8, 9] [0, 1, 2, 3, 8, 9, 4, 5, 6, 7] (wN := (wX3 G h0 a0 f0 A0 ++ (wX7 G h1 a1 z_16 A1 ++ (wX1 G h2 a2 f2 A2)))) rfl rfl rfl rfl rfl hl.1 (Nat.le_of_ble_eq_true rfl) dX3_line_15 (fun H locs hPD hS => ?_)
    refine lv_goto (tgt := 52) hx hb dX3_line_18 (by decide) ?_
    exact ww_f3_line_b52 C0 A0 f0 z_16 (f7_placeOf (f7_look f1 A1)) h _ _ _ hPD hS (lv_sub hl [1, 2, 3, 0] rfl)
end WALK
