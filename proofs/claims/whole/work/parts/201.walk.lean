section WALK
variable {p : Program} {l : Launch} {e : Env} {s : State} {m : MethodId} {args : Array Value} {below : List Frame} {meth : Method} {c : Code} {G : Gp} {DA : Nat → Prop}
abbrev rmX7_fail : Room := { frames := 1, cells := 0, slots := 0, locals := 22 }
set_option maxRecDepth 100000 in
set_option maxHeartbeats 4000000 in
theorem kt_X7_fail (l : Launch) (G : Gp) (h0 : Nat) (a0 : Nat → Nat) (f0 : Nat → Int32) (A0 : Nat → Nat → Int32) (p1 : Int32) : CtrV l yX7_fail cX7_fail 2 none rmX7_fail G [.ref h0, .int p1] (wX7 G h0 a0 f0 A0) (wX7 G h0 a0 (f7_fail f0 A0 p1) A0) := by
  obtain ⟨res, h⟩ : ∃ res, f7_fail f0 A0 p1 = res := ⟨_, rfl⟩
  rw [h]
  refine ctrV_of (cc := cX7_fail) (maxL := 2) (ret := none) (by decide +kernel) rfl (Nat.le_of_ble_eq_true rfl) (fun p e s m below meth c DA C0 hP hD ls hl => ?_)
  have hPD : WD G DA (wX7 G h0 a0 f0 A0) s.heap := ⟨hP, hD⟩
  have hS : va_S DA s.heap s.heap [] := va_S.rf
  have hl : lv_has ls 2 [(0, .ref h0), (1, .int p1)] := hl
  obtain ⟨hx, hb, hml, hown, hts⟩ := C0.1
  have hK := C0.2.2.2.1
  unfold f7_fail at h
  refine lv_aload_n hx hb dX7_fail_0 rfl (lv_at hl 0 rfl) ?_
  refine lv_iload_n hx hb dX7_fail_1 rfl (lv_at hl 1 rfl) ?_
  refine lv_aload_n hx hb dX7_fail_2 rfl (lv_at hl 0 rfl) ?_
  refine va_get (D := G.1) (ci := 7) (v := .int (f0 3)) (C := RX7) (T := TX7) (N := 6) hx hb hts inlX7 hown hK hPD.1 0 rfl rfl 3 (by decide) (hts _ gw_10) (fun _ h9 => h9) rfl dX7_fail_3 ?_
  obtain ⟨z_1, ez_1, h⟩ := lvl h
  have kc := kt_X7_failAt l G h0 a0 f0 A0 p1 (f0 3)
  rw [← ez_1] at kc
  clear ez_1
  refine kVV (As := [.int p1, .int (f0 3)]) (rest := []) C0 (kc) gi_V_X7_61_X7_failAt (n := 2) rfl (by decide +kernel) rfl ⟨rfl, rfl, Nat.le_of_ble_eq_true rfl, Nat.le_of_ble_eq_true rfl⟩ hPD hS 0 7 rfl rfl rfl [0, 1] [] [0, 1] (wr := ([] : va_W)) (wN := (wX7 G h0 a0 z_1 A0)) rfl rfl rfl rfl rfl hl.1 (Nat.le_of_ble_eq_true rfl) dX7_fail_6 (fun H locs hPD hS => ?_)
  subst h
  exact eV C0 hPD.1 hPD.2 hS dX7_fail_9
abbrev rmX7_take : Room := { frames := 2, cells := 0, slots := 0, locals := 43 }
set_option maxRecDepth 100000 in
set_option maxHeartbeats 4000000 in
theorem ww_f7_take_b15  (C0 : Cx cX7_take 2 (some .boolean) RX7 p s m args meth c G DA) {h0 : Nat} {a0 : Nat → Nat} {A0 : Nat → Nat → Int32} {p1 : Int32}   {res : Int32 × (Nat → Int32)}  : ∀ (f0 : Nat → Int32), f7_take_b15 A0 p1  f0 = some res → ∀ (H : Heap) (locs : List Loc) (ls : Array Slot), WD G DA (wX7 G h0 a0 f0 A0) H → va_S DA s.heap H locs → lv_has ls 2 [(0, .ref h0), (1, .int p1)] → W p l e rmX7_take s m args below meth c H locs 0 0 (MQ below (QI G DA res.1 (wX7 G h0 a0 res.2 A0)) args s 0 0 DA) (F0 m 15 ls []) := by
  obtain ⟨hx, hb, hml, hown, hts⟩ := C0.1
  have hK := C0.2.2.2.1
  intro f0 h _ _ _ hPD hS hl
  unfold f7_take_b15 at h
  refine lv_aload_n hx hb dX7_take_15 rfl (lv_at hl 0 rfl) ?_
  refine lv_iconst (v := 1) hx hb dX7_take_16 (by decide) ?_
  obtain ⟨z_1, ez_1, h⟩ := lvl h
  have kc := kt_X7_fail l G h0 a0 f0 A0 1
  rw [← ez_1] at kc
  clear ez_1
  refine kVV (As := [.int 1]) (rest := []) C0 (kc) gi_V_X7_47_X7_fail (n := 1) rfl (by decide +kernel) rfl ⟨rfl, rfl, Nat.le_of_ble_eq_true rfl, Nat.le_of_ble_eq_true rfl⟩ hPD hS 0 7 rfl rfl rfl [0, 1] [] [0, 1] (wr := ([] : va_W)) (wN := (wX7 G h0 a0 z_1 A0)) rfl rfl rfl rfl rfl hl.1 (Nat.le_of_ble_eq_true rfl) dX7_take_17 (fun H locs hPD hS => ?_)
  refine lv_iconst (v := 0) hx hb dX7_take_20 (by decide) ?_
  obtain rfl := Option.some.inj h
  exact eZ C0 hPD.1 hPD.2 hS rfl rfl dX7_take_21
set_option maxRecDepth 100000 in
set_option maxHeartbeats 4000000 in
theorem kt_X7_take (l : Launch) (G : Gp) (h0 : Nat) (a0 : Nat → Nat) (f0 : Nat → Int32) (A0 : Nat → Nat → Int32) (p1 : Int32) : ∀ {r : Int32 × (Nat → Int32)}, f7_take f0 A0 p1 = some r → CtrI l yX7_take cX7_take 2 (some .boolean) rmX7_take G [.ref h0, .int p1] (wX7 G h0 a0 f0 A0) r.1 (wX7 G h0 a0 r.2 A0) := by
  intro res h
  refine ctrI_of (cc := cX7_take) (maxL := 2) (ret := (some .boolean)) (by decide +kernel) rfl (Nat.le_of_ble_eq_true rfl) (fun p e s m below meth c DA C0 hP hD ls hl => ?_)
  have hPD : WD G DA (wX7 G h0 a0 f0 A0) s.heap := ⟨hP, hD⟩
  have hS : va_S DA s.heap s.heap [] := va_S.rf
  have hl : lv_has ls 2 [(0, .ref h0), (1, .int p1)] := hl
  obtain ⟨hx, hb, hml, hown, hts⟩ := C0.1
  have hK := C0.2.2.2.1
  unfold f7_take at h
  refine lv_aload_n hx hb dX7_take_0 rfl (lv_at hl 0 rfl) ?_
  refine kVI (As := []) (rest := []) C0 (kt_X7_isFine l G h0 a0 f0 A0) gi_V_X7_39_X7_isFine (n := 0) rfl (by decide +kernel) rfl ⟨rfl, rfl, Nat.le_of_ble_eq_true rfl, Nat.le_of_ble_eq_true rfl⟩ hPD hS 0 7 rfl rfl rfl [0, 1] [] [0, 1] (wr := ([] : va_W)) (wN := (wX7 G h0 a0 f0 A0)) rfl rfl rfl rfl rfl hl.1 (Nat.le_of_ble_eq_true rfl) dX7_take_1 (fun H locs hPD hS => ?_)
  refine lv_if_eq (tgt := 15) hx hb dX7_take_4 (by decide) (fun cc1 => ?_) (fun cc1 => ?_)
  · have h := (if_pos cc1).symm.trans h
    exact ww_f7_take_b15 C0 f0 h _ _ _ hPD hS (lv_sub hl [0, 1] rfl)
  · have h := (if_neg cc1).symm.trans h
    refine lv_aload_n hx hb dX7_take_7 rfl (lv_at hl 0 rfl) ?_
    refine kVI (As := []) (rest := []) C0 (kt_X7_look l G h0 a0 f0 A0) gi_V_X7_43_X7_look (n := 0) rfl (by decide +kernel) rfl ⟨rfl, rfl, Nat.le_of_ble_eq_true rfl, Nat.le_of_ble_eq_true rfl⟩ hPD hS 0 7 rfl rfl rfl [0, 1] [] [0, 1] (wr := ([] : va_W)) (wN := (wX7 G h0 a0 f0 A0)) rfl rfl rfl rfl rfl hl.1 (Nat.le_of_ble_eq_true rfl) dX7_take_8 (fun H locs hPD hS => ?_)
    refine lv_iload_n hx hb dX7_take_11 rfl (lv_at hl 1 rfl) ?_
    refine lv_icmp_eq (tgt := 22) hx hb dX7_take_12 (by decide) (fun cc1 => ?_) (fun cc1 => ?_)
    · have h := (if_pos cc1).symm.trans h
      refine lv_aload_n hx hb dX7_take_22 rfl (lv_at hl 0 rfl) ?_
      obtain ⟨z_2, ez_2, h⟩ := lvl h
      have kc := kt_X7_step l G h0 a0 f0 A0
      rw [← ez_2] at kc
      clear ez_2
      refine kVV (As := []) (rest := []) C0 (kc) gi_V_X7_51_X7_step (n := 0) rfl (by decide +kernel) rfl ⟨rfl, rfl, Nat.le_of_ble_eq_true rfl, Nat.le_of_ble_eq_true rfl⟩ hPD hS 0 7 rfl rfl rfl [0, 1] [] [0, 1] (wr := ([] : va_W)) (wN := (wX7 G h0 a0 z_2 A0)) rfl rfl rfl rfl rfl hl.1 (Nat.le_of_ble_eq_true rfl) dX7_take_23 (fun H locs hPD hS => ?_)
      refine lv_iconst (v := 1) hx hb dX7_take_26 (by decide) ?_
      obtain rfl := Option.some.inj h
      exact eZ C0 hPD.1 hPD.2 hS rfl rfl dX7_take_27
    · have h := (if_neg cc1).symm.trans h
      exact ww_f7_take_b15 C0 f0 h _ _ _ hPD hS (lv_sub hl [0, 1] rfl)
abbrev rmGX0_items (d : Nat) : Room := { frames := d + 3, cells := 0, slots := 0, locals := 26 * d + 64 }
set_option maxRecDepth 100000 in
set_option maxHeartbeats 4000000 in
theorem ww_f0_items_b5 {d : Nat} {rec : Nat → (Nat → Int32) → (Nat → Nat → Int32) → (Nat → Int32) → (Nat → Nat → Int32) → Int32 → Option ((Nat → Nat → Int32) × (Nat → Int32) × (Nat → Int32))} (hrec0 : ∀ (l : Launch) (G : Gp) (h0 : Nat) (a0 : Nat → Nat) (h1 : Nat) (a1 : Nat → Nat) (f0 : Nat → Int32) (A0 : Nat → Nat → Int32) (f1 : Nat → Int32) (A1 : Nat → Nat → Int32) (p2 : Int32), ∀ {r : (Nat → Nat → Int32) × (Nat → Int32) × (Nat → Int32)}, rec 0 f0 A0 f1 A1 p2 = some r → CtrV l yX0_items cX0_items 5 none (rmGX0_items d) G [.ref h0, .ref h1, .int p2] (wX0 G h0 a0 f0 A0 ++ (wX7 G h1 a1 f1 A1)) (wX0 G h0 a0 r.2.1 r.1 ++ (wX7 G h1 a1 r.2.2 A1))) (hrec1 : ∀ (l : Launch) (G : Gp) (h0 : Nat) (a0 : Nat → Nat) (h1 : Nat) (a1 : Nat → Nat) (f0 : Nat → Int32) (A0 : Nat → Nat → Int32) (f1 : Nat → Int32) (A1 : Nat → Nat → Int32) (p2 : Int32), ∀ {r : (Nat → Nat → Int32) × (Nat → Int32) × (Nat → Int32)}, rec 1 f0 A0 f1 A1 p2 = some r → CtrV l yX0_item cX0_item 7 none (rmGX0_items d) G [.ref h0, .ref h1, .int p2] (wX0 G h0 a0 f0 A0 ++ (wX7 G h1 a1 f1 A1)) (wX0 G h0 a0 r.2.1 r.1 ++ (wX7 G h1 a1 r.2.2 A1))) (hrec2 : ∀ (l : Launch) (G : Gp) (h0 : Nat) (a0 : Nat → Nat) (h1 : Nat) (a1 : Nat → Nat) (f0 : Nat → Int32) (A0 : Nat → Nat → Int32) (f1 : Nat → Int32) (A1 : Nat → Nat → Int32) (p2 : Int32), ∀ {r : (Nat → Nat → Int32) × (Nat → Int32) × (Nat → Int32)}, rec 2 f0 A0 f1 A1 p2 = some r → CtrV l yX0_group cX0_group 3 none (rmGX0_items d) G [.ref h0, .ref h1, .int p2] (wX0 G h0 a0 f0 A0 ++ (wX7 G h1 a1 f1 A1)) (wX0 G h0 a0 r.2.1 r.1 ++ (wX7 G h1 a1 r.2.2 A1))) (hdd : True)  (C0 : Cx cX0_items 5 none RX0 p s m args meth c G DA) {h0 : Nat} {a0 : Nat → Nat} {h1 : Nat} {a1 : Nat → Nat} {A1 : Nat → Nat → Int32} {p2 : Int32}  {k5 : (Nat → Nat → Int32) → (Nat → Int32) → (Nat → Int32) → Int32 → Int32 → Option ((Nat → Nat → Int32) × (Nat → Int32) × (Nat → Int32))} {res : (Nat → Nat → Int32) × (Nat → Int32) × (Nat → Int32)}  (hk5 : ∀ (A0 : Nat → Nat → Int32) (f0 : Nat → Int32) (f1 : Nat → Int32) (l3 : Int32) (l4 : Int32), k5 A0 f0 f1 l3 l4 = some res → ∀ (H : Heap) (locs : List Loc) (ls : Array Slot), WD G DA (wX0 G h0 a0 f0 A0 ++ (wX7 G h1 a1 f1 A1)) H → va_S DA s.heap H locs → lv_has ls 5 [(0, .ref h0), (1, .ref h1), (2, .int p2), (3, .int l3), (4, .int l4)] → W p l e (rmGX0_items (d + 1)) s m args below meth c H locs 0 0 (MQ below (QV G DA (wX0 G h0 a0 res.2.1 res.1 ++ (wX7 G h1 a1 res.2.2 A1))) args s 0 0 DA) (F0 m 5 ls [])) : ∀ (A0 : Nat → Nat → Int32) (f0 : Nat → Int32) (f1 : Nat → Int32) (l3 : Int32) (l4 : Int32), f0_items_b5 rec A1 p2  k5 A0 f0 f1 l3 l4 = some res → ∀ (H : Heap) (locs : List Loc) (ls : Array Slot), WD G DA (wX0 G h0 a0 f0 A0 ++ (wX7 G h1 a1 f1 A1)) H → va_S DA s.heap H locs → lv_has ls 5 [(0, .ref h0), (1, .ref h1), (2, .int p2), (3, .int l3), (4, .int l4)] → W p l e (rmGX0_items (d + 1)) s m args below meth c H locs 0 0 (MQ below (QV G DA (wX0 G h0 a0 res.2.1 res.1 ++ (wX7 G h1 a1 res.2.2 A1))) args s 0 0 DA) (F0 m 5 ls []) := by
  obtain ⟨hx, hb, hml, hown, hts⟩ := C0.1
  have hK := C0.2.2.2.1
  intro A0 f0 f1 l3 l4 h _ _ _ hPD hS hl
  unfold f0_items_b5 at h
  refine lv_iload_n hx hb dX0_items_5 rfl (lv_at hl 3 rfl) ?_
  refine lv_if_eq (tgt := 58) hx hb dX0_items_6 (by decide) (fun cc1 => ?_) (fun cc1 => ?_)
  · have h := (if_pos cc1).symm.trans h
    obtain rfl := Option.some.inj h
    exact eV C0 hPD.1 hPD.2 hS dX0_items_58
  · have h := (if_neg cc1).symm.trans h
    refine lv_iload hx hb dX0_items_9 (lv_at hl 4 rfl) ?_
    refine lv_bipush (v := 60) hx hb dX0_items_11 (by decide) ?_
    refine lv_icmp_ge (tgt := 58) hx hb dX0_items_13 (by decide) (fun cc1 => ?_) (fun cc1 => ?_)
    · have h := (if_pos cc1).symm.trans h
      obtain rfl := Option.some.inj h
      exact eV C0 hPD.1 hPD.2 hS dX0_items_58
    · have h := (if_neg cc1).symm.trans h
      refine lv_aload_n hx hb dX0_items_16 rfl (lv_at hl 0 rfl) ?_
      refine lv_aload_n hx hb dX0_items_17 rfl (lv_at hl 1 rfl) ?_
      refine lv_iload_n hx hb dX0_items_18 rfl (lv_at hl 2 rfl) ?_
      obtain ⟨q_1, hq_1, h⟩ := ob2 h
      refine kVV (As := [.ref h1, .int p2]) (rest := []) C0 (hrec1 l G h0 a0 h1 a1 f0 A0 f1 A1 p2 hq_1) gi_V_X0_47_X0_item (n := 2) rfl (by decide +kernel) rfl ⟨rfl, rfl, by simp only [rmGX0_items]; omega, by simp only [rmGX0_items]; omega⟩ hPD hS 0 0 rfl rfl rfl [0, 1, 2, 3] [] [0, 1, 2, 3] (wr := ([] : va_W)) (wN := (wX0 G h0 a0 q_1.2.1 q_1.1 ++ (wX7 G h1 a1 q_1.2.2 A1))) rfl rfl rfl rfl rfl hl.1 (Nat.le_of_ble_eq_true rfl) dX0_items_19 (fun H locs hPD hS => ?_)
      refine lv_aload_n hx hb dX0_items_22 rfl (lv_at hl 1 rfl) ?_
      refine kVI (As := []) (rest := []) C0 (kt_X7_isFine l G h1 a1 q_1.2.2 A1) gi_V_X0_33_X7_isFine (n := 0) rfl (by decide +kernel) rfl ⟨rfl, rfl, by simp only [rmGX0_items, rmX7_isFine]; omega, by simp only [rmGX0_items, rmX7_isFine]; omega⟩ hPD hS 2 7 rfl rfl rfl [2, 3] [0, 1] [0, 1, 2, 3] (wr := (wX0 G h0 a0 q_1.2.1 q_1.1)) (wN := (wX0 G h0 a0 q_1.2.1 q_1.1 ++ (wX7 G h1 a1 q_1.2.2 A1))) rfl rfl rfl rfl rfl hl.1 (Nat.le_of_ble_eq_true rfl) dX0_items_23 (fun H locs hPD hS => ?_)
      refine lv_if_eq (tgt := 50) hx hb dX0_items_26 (by decide) (fun cc1 => ?_) (fun cc1 => ?_)
      · have h := (if_pos cc1).symm.trans h
        refine lv_iconst (v := 0) hx hb dX0_items_50 (by decide) ?_
        refine lv_istore_n (lv' := [(3, .int 0), (0, .ref h0), (1, .ref h1), (2, .int p2), (4, .int l4)]) hx hb dX0_items_51 rfl hl (by decide) rfl (fun ls hl => ?_)
        refine lv_iinc (v := l4 + 1) (lv' := [(4, .int (l4 + 1)), (3, .int 0), (0, .ref h0), (1, .ref h1), (2, .int p2)]) hx hb dX0_items_52 hl (k := 4) rfl rfl (by decide) rfl (fun ls hl => ?_)
        refine lv_goto (tgt := 5) hx hb dX0_items_55 (by decide) ?_
        exact hk5 q_1.1 q_1.2.1 q_1.2.2 0 (l4 + 1) h _ _ _ hPD hS (lv_sub hl [2, 3, 4, 1, 0] rfl)
      · have h := (if_neg cc1).symm.trans h
        refine lv_aload_n hx hb dX0_items_29 rfl (lv_at hl 1 rfl) ?_
        refine kVI (As := []) (rest := []) C0 (kt_X7_look l G h1 a1 q_1.2.2 A1) gi_V_X0_39_X7_look (n := 0) rfl (by decide +kernel) rfl ⟨rfl, rfl, by simp only [rmGX0_items, rmX7_look]; omega, by simp only [rmGX0_items, rmX7_look]; omega⟩ hPD hS 2 7 rfl rfl rfl [2, 3] [0, 1] [0, 1, 2, 3] (wr := (wX0 G h0 a0 q_1.2.1 q_1.1)) (wN := (wX0 G h0 a0 q_1.2.1 q_1.1 ++ (wX7 G h1 a1 q_1.2.2 A1))) rfl rfl rfl rfl rfl hl.1 (Nat.le_of_ble_eq_true rfl) dX0_items_30 (fun H locs hPD hS => ?_)
        refine lv_iconst (v := (-1)) hx hb dX0_items_33 (by decide) ?_
        refine lv_icmp_eq (tgt := 50) hx hb dX0_items_34 (by decide) (fun cc1 => ?_) (fun cc1 => ?_)
        · have h := (if_pos cc1).symm.trans h
          refine lv_iconst (v := 0) hx hb dX0_items_50 (by decide) ?_
          refine lv_istore_n (lv' := [(3, .int 0), (0, .ref h0), (1, .ref h1), (2, .int p2), (4, .int l4)]) hx hb dX0_items_51 rfl hl (by decide) rfl (fun ls hl => ?_)
          refine lv_iinc (v := l4 + 1) (lv' := [(4, .int (l4 + 1)), (3, .int 0), (0, .ref h0), (1, .ref h1), (2, .int p2)]) hx hb dX0_items_52 hl (k := 4) rfl rfl (by decide) rfl (fun ls hl => ?_)
          refine lv_goto (tgt := 5) hx hb dX0_items_55 (by decide) ?_
          exact hk5 q_1.1 q_1.2.1 q_1.2.2 0 (l4 + 1) h _ _ _ hPD hS (lv_sub hl [2, 3, 4, 1, 0] rfl)
        · have h := (if_neg cc1).symm.trans h
          refine lv_aload_n hx hb dX0_items_37 rfl (lv_at hl 1 rfl) ?_
          refine kVI (As := []) (rest := []) C0 (kt_X7_look l G h1 a1 q_1.2.2 A1) gi_V_X0_39_X7_look (n := 0) rfl (by decide +kernel) rfl ⟨rfl, rfl, by simp only [rmGX0_items, rmX7_look]; omega, by simp only [rmGX0_items, rmX7_look]; omega⟩ hPD hS 2 7 rfl rfl rfl [2, 3] [0, 1] [0, 1, 2, 3] (wr := (wX0 G h0 a0 q_1.2.1 q_1.1)) (wN := (wX0 G h0 a0 q_1.2.1 q_1.1 ++ (wX7 G h1 a1 q_1.2.2 A1))) rfl rfl rfl rfl rfl hl.1 (Nat.le_of_ble_eq_true rfl) dX0_items_38 (fun H locs hPD hS => ?_)
          refine lv_bipush (v := 41) hx hb dX0_items_41 (by decide) ?_
          refine lv_icmp_eq (tgt := 50) hx hb dX0_items_43 (by decide) (fun cc1 => ?_) (fun cc1 => ?_)
          · have h := (if_pos cc1).symm.trans h
            refine lv_iconst (v := 0) hx hb dX0_items_50 (by decide) ?_
            refine lv_istore_n (lv' := [(3, .int 0), (0, .ref h0), (1, .ref h1), (2, .int p2), (4, .int l4)]) hx hb dX0_items_51 rfl hl (by decide) rfl (fun ls hl => ?_)
            refine lv_iinc (v := l4 + 1) (lv' := [(4, .int (l4 + 1)), (3, .int 0), (0, .ref h0), (1, .ref h1), (2, .int p2)]) hx hb dX0_items_52 hl (k := 4) rfl rfl (by decide) rfl (fun ls hl => ?_)
            refine lv_goto (tgt := 5) hx hb dX0_items_55 (by decide) ?_
            exact hk5 q_1.1 q_1.2.1 q_1.2.2 0 (l4 + 1) h _ _ _ hPD hS (lv_sub hl [2, 3, 4, 1, 0] rfl)
          · have h := (if_neg cc1).symm.trans h
            refine lv_iconst (v := 1) hx hb dX0_items_46 (by decide) ?_
            refine lv_goto (tgt := 51) hx hb dX0_items_47 (by decide) ?_
            refine lv_istore_n (lv' := [(3, .int 1), (0, .ref h0), (1, .ref h1), (2, .int p2), (4, .int l4)]) hx hb dX0_items_51 rfl hl (by decide) rfl (fun ls hl => ?_)
            refine lv_iinc (v := l4 + 1) (lv' := [(4, .int (l4 + 1)), (3, .int 1), (0, .ref h0), (1, .ref h1), (2, .int p2)]) hx hb dX0_items_52 hl (k := 4) rfl rfl (by decide) rfl (fun ls hl => ?_)
            refine lv_goto (tgt := 5) hx hb dX0_items_55 (by decide) ?_
            exact hk5 q_1.1 q_1.2.1 q_1.2.2 1 (l4 + 1) h _ _ _ hPD hS (lv_sub hl [2, 3, 4, 1, 0] rfl)
set_option maxRecDepth 100000 in
set_option maxHeartbeats 4000000 in
theorem ww_f0_items_l5 {d : Nat} {rec : Nat → (Nat → Int32) → (Nat → Nat → Int32) → (Nat → Int32) → (Nat → Nat → Int32) → Int32 → Option ((Nat → Nat → Int32) × (Nat → Int32) × (Nat → Int32))} (hrec0 : ∀ (l : Launch) (G : Gp) (h0 : Nat) (a0 : Nat → Nat) (h1 : Nat) (a1 : Nat → Nat) (f0 : Nat → Int32) (A0 : Nat → Nat → Int32) (f1 : Nat → Int32) (A1 : Nat → Nat → Int32) (p2 : Int32), ∀ {r : (Nat → Nat → Int32) × (Nat → Int32) × (Nat → Int32)}, rec 0 f0 A0 f1 A1 p2 = some r → CtrV l yX0_items cX0_items 5 none (rmGX0_items d) G [.ref h0, .ref h1, .int p2] (wX0 G h0 a0 f0 A0 ++ (wX7 G h1 a1 f1 A1)) (wX0 G h0 a0 r.2.1 r.1 ++ (wX7 G h1 a1 r.2.2 A1))) (hrec1 : ∀ (l : Launch) (G : Gp) (h0 : Nat) (a0 : Nat → Nat) (h1 : Nat) (a1 : Nat → Nat) (f0 : Nat → Int32) (A0 : Nat → Nat → Int32) (f1 : Nat → Int32) (A1 : Nat → Nat → Int32) (p2 : Int32), ∀ {r : (Nat → Nat → Int32) × (Nat → Int32) × (Nat → Int32)}, rec 1 f0 A0 f1 A1 p2 = some r → CtrV l yX0_item cX0_item 7 none (rmGX0_items d) G [.ref h0, .ref h1, .int p2] (wX0 G h0 a0 f0 A0 ++ (wX7 G h1 a1 f1 A1)) (wX0 G h0 a0 r.2.1 r.1 ++ (wX7 G h1 a1 r.2.2 A1))) (hrec2 : ∀ (l : Launch) (G : Gp) (h0 : Nat) (a0 : Nat → Nat) (h1 : Nat) (a1 : Nat → Nat) (f0 : Nat → Int32) (A0 : Nat → Nat → Int32) (f1 : Nat → Int32) (A1 : Nat → Nat → Int32) (p2 : Int32), ∀ {r : (Nat → Nat → Int32) × (Nat → Int32) × (Nat → Int32)}, rec 2 f0 A0 f1 A1 p2 = some r → CtrV l yX0_group cX0_group 3 none (rmGX0_items d) G [.ref h0, .ref h1, .int p2] (wX0 G h0 a0 f0 A0 ++ (wX7 G h1 a1 f1 A1)) (wX0 G h0 a0 r.2.1 r.1 ++ (wX7 G h1 a1 r.2.2 A1))) (hdd : True)  (C0 : Cx cX0_items 5 none RX0 p s m args meth c G DA) {h0 : Nat} {a0 : Nat → Nat} {h1 : Nat} {a1 : Nat → Nat} {A1 : Nat → Nat → Int32} {p2 : Int32}   {res : (Nat → Nat → Int32) × (Nat → Int32) × (Nat → Int32)}  : ∀ (n : Nat) (A0 : Nat → Nat → Int32) (f0 : Nat → Int32) (f1 : Nat → Int32) (l3 : Int32) (l4 : Int32), f0_items_l5 rec A1 p2  n A0 f0 f1 l3 l4 = some res → ∀ (H : Heap) (locs : List Loc) (ls : Array Slot), WD G DA (wX0 G h0 a0 f0 A0 ++ (wX7 G h1 a1 f1 A1)) H → va_S DA s.heap H locs → lv_has ls 5 [(0, .ref h0), (1, .ref h1), (2, .int p2), (3, .int l3), (4, .int l4)] → W p l e (rmGX0_items (d + 1)) s m args below meth c H locs 0 0 (MQ below (QV G DA (wX0 G h0 a0 res.2.1 res.1 ++ (wX7 G h1 a1 res.2.2 A1))) args s 0 0 DA) (F0 m 5 ls []) := by
  intro n
  induction n with
  | zero => intro A0 f0 f1 l3 l4 h; cases h
  | succ n ih => intro A0 f0 f1 l3 l4 h; exact ww_f0_items_b5 hrec0 hrec1 hrec2 hdd C0  ih A0 f0 f1 l3 l4 h
set_option maxRecDepth 100000 in
set_option maxHeartbeats 4000000 in
theorem ko_X0_items {d : Nat} {rec : Nat → (Nat → Int32) → (Nat → Nat → Int32) → (Nat → Int32) → (Nat → Nat → Int32) → Int32 → Option ((Nat → Nat → Int32) × (Nat → Int32) × (Nat → Int32))} (hrec0 : ∀ (l : Launch) (G : Gp) (h0 : Nat) (a0 : Nat → Nat) (h1 : Nat) (a1 : Nat → Nat) (f0 : Nat → Int32) (A0 : Nat → Nat → Int32) (f1 : Nat → Int32) (A1 : Nat → Nat → Int32) (p2 : Int32), ∀ {r : (Nat → Nat → Int32) × (Nat → Int32) × (Nat → Int32)}, rec 0 f0 A0 f1 A1 p2 = some r → CtrV l yX0_items cX0_items 5 none (rmGX0_items d) G [.ref h0, .ref h1, .int p2] (wX0 G h0 a0 f0 A0 ++ (wX7 G h1 a1 f1 A1)) (wX0 G h0 a0 r.2.1 r.1 ++ (wX7 G h1 a1 r.2.2 A1))) (hrec1 : ∀ (l : Launch) (G : Gp) (h0 : Nat) (a0 : Nat → Nat) (h1 : Nat) (a1 : Nat → Nat) (f0 : Nat → Int32) (A0 : Nat → Nat → Int32) (f1 : Nat → Int32) (A1 : Nat → Nat → Int32) (p2 : Int32), ∀ {r : (Nat → Nat → Int32) × (Nat → Int32) × (Nat → Int32)}, rec 1 f0 A0 f1 A1 p2 = some r → CtrV l yX0_item cX0_item 7 none (rmGX0_items d) G [.ref h0, .ref h1, .int p2] (wX0 G h0 a0 f0 A0 ++ (wX7 G h1 a1 f1 A1)) (wX0 G h0 a0 r.2.1 r.1 ++ (wX7 G h1 a1 r.2.2 A1))) (hrec2 : ∀ (l : Launch) (G : Gp) (h0 : Nat) (a0 : Nat → Nat) (h1 : Nat) (a1 : Nat → Nat) (f0 : Nat → Int32) (A0 : Nat → Nat → Int32) (f1 : Nat → Int32) (A1 : Nat → Nat → Int32) (p2 : Int32), ∀ {r : (Nat → Nat → Int32) × (Nat → Int32) × (Nat → Int32)}, rec 2 f0 A0 f1 A1 p2 = some r → CtrV l yX0_group cX0_group 3 none (rmGX0_items d) G [.ref h0, .ref h1, .int p2] (wX0 G h0 a0 f0 A0 ++ (wX7 G h1 a1 f1 A1)) (wX0 G h0 a0 r.2.1 r.1 ++ (wX7 G h1 a1 r.2.2 A1))) (hdd : True) (l : Launch) (G : Gp) (h0 : Nat) (a0 : Nat → Nat) (h1 : Nat) (a1 : Nat → Nat) (f0 : Nat → Int32) (A0 : Nat → Nat → Int32) (f1 : Nat → Int32) (A1 : Nat → Nat → Int32) (p2 : Int32) : ∀ {r : (Nat → Nat → Int32) × (Nat → Int32) × (Nat → Int32)}, f0_items rec f0 A0 f1 A1 p2 = some r → CtrV l yX0_items cX0_items 5 none (rmGX0_items (d + 1)) G [.ref h0, .ref h1, .int p2] (wX0 G h0 a0 f0 A0 ++ (wX7 G h1 a1 f1 A1)) (wX0 G h0 a0 r.2.1 r.1 ++ (wX7 G h1 a1 r.2.2 A1)) := by
  intro res h
  refine ctrV_of (cc := cX0_items) (maxL := 5) (ret := none) (by decide +kernel) rfl (Nat.le_of_ble_eq_true rfl) (fun p e s m below meth c DA C0 hP hD ls hl => ?_)
  have hPD : WD G DA (wX0 G h0 a0 f0 A0 ++ (wX7 G h1 a1 f1 A1)) s.heap := ⟨hP, hD⟩
  have hS : va_S DA s.heap s.heap [] := va_S.rf
  have hl : lv_has ls 5 [(0, .ref h0), (1, .ref h1), (2, .int p2)] := hl
  obtain ⟨hx, hb, hml, hown, hts⟩ := C0.1
  have hK := C0.2.2.2.1
  unfold f0_items at h
  refine lv_iconst (v := 1) hx hb dX0_items_0 (by decide) ?_
  refine lv_istore_n (lv' := [(3, .int 1), (0, .ref h0), (1, .ref h1), (2, .int p2)]) hx hb dX0_items_1 rfl hl (by decide) rfl (fun ls hl => ?_)
  refine lv_iconst (v := 0) hx hb dX0_items_2 (by decide) ?_
  refine lv_istore (lv' := [(4, .int 0), (3, .int 1), (0, .ref h0), (1, .ref h1), (2, .int p2)]) hx hb dX0_items_3 hl (by decide) rfl (fun ls hl => ?_)
  exact ww_f0_items_l5 hrec0 hrec1 hrec2 hdd C0 NF A0 f0 f1 1 0 h _ _ _ hPD hS (lv_sub hl [2, 3, 4, 1, 0] rfl)
set_option maxRecDepth 100000 in
set_option maxHeartbeats 4000000 in
theorem ww_f0_item_b132 {d : Nat} {rec : Nat → (Nat → Int32) → (Nat → Nat → Int32) → (Nat → Int32) → (Nat → Nat → Int32) → Int32 → Option ((Nat → Nat → Int32) × (Nat → Int32) × (Nat → Int32))} (hrec0 : ∀ (l : Launch) (G : Gp) (h0 : Nat) (a0 : Nat → Nat) (h1 : Nat) (a1 : Nat → Nat) (f0 : Nat → Int32) (A0 : Nat → Nat → Int32) (f1 : Nat → Int32) (A1 : Nat → Nat → Int32) (p2 : Int32), ∀ {r : (Nat → Nat → Int32) × (Nat → Int32) × (Nat → Int32)}, rec 0 f0 A0 f1 A1 p2 = some r → CtrV l yX0_items cX0_items 5 none (rmGX0_items d) G [.ref h0, .ref h1, .int p2] (wX0 G h0 a0 f0 A0 ++ (wX7 G h1 a1 f1 A1)) (wX0 G h0 a0 r.2.1 r.1 ++ (wX7 G h1 a1 r.2.2 A1))) (hrec1 : ∀ (l : Launch) (G : Gp) (h0 : Nat) (a0 : Nat → Nat) (h1 : Nat) (a1 : Nat → Nat) (f0 : Nat → Int32) (A0 : Nat → Nat → Int32) (f1 : Nat → Int32) (A1 : Nat → Nat → Int32) (p2 : Int32), ∀ {r : (Nat → Nat → Int32) × (Nat → Int32) × (Nat → Int32)}, rec 1 f0 A0 f1 A1 p2 = some r → CtrV l yX0_item cX0_item 7 none (rmGX0_items d) G [.ref h0, .ref h1, .int p2] (wX0 G h0 a0 f0 A0 ++ (wX7 G h1 a1 f1 A1)) (wX0 G h0 a0 r.2.1 r.1 ++ (wX7 G h1 a1 r.2.2 A1))) (hrec2 : ∀ (l : Launch) (G : Gp) (h0 : Nat) (a0 : Nat → Nat) (h1 : Nat) (a1 : Nat → Nat) (f0 : Nat → Int32) (A0 : Nat → Nat → Int32) (f1 : Nat → Int32) (A1 : Nat → Nat → Int32) (p2 : Int32), ∀ {r : (Nat → Nat → Int32) × (Nat → Int32) × (Nat → Int32)}, rec 2 f0 A0 f1 A1 p2 = some r → CtrV l yX0_group cX0_group 3 none (rmGX0_items d) G [.ref h0, .ref h1, .int p2] (wX0 G h0 a0 f0 A0 ++ (wX7 G h1 a1 f1 A1)) (wX0 G h0 a0 r.2.1 r.1 ++ (wX7 G h1 a1 r.2.2 A1))) (hdd : True)  (C0 : Cx cX0_item 7 none RX0 p s m args meth c G DA) {h0 : Nat} {a0 : Nat → Nat} {h1 : Nat} {a1 : Nat → Nat} {A1 : Nat → Nat → Int32} {p2 : Int32}   {res : (Nat → Nat → Int32) × (Nat → Int32) × (Nat → Int32)}  : ∀ (A0 : Nat → Nat → Int32) (f0 : Nat → Int32) (f1 : Nat → Int32) (l3 : Int32) (l4 : Int32) (l5 : Int32) (s0 : Int32) (s1 : Int32), f0_item_b132 rec A1 p2  A0 f0 f1 l3 l4 l5 s0 s1 = some res → ∀ (H : Heap) (locs : List Loc) (ls : Array Slot), WD G DA (wX0 G h0 a0 f0 A0 ++ (wX7 G h1 a1 f1 A1)) H → va_S DA s.heap H locs → lv_has ls 7 [(0, .ref h0), (1, .ref h1), (2, .int p2), (3, .int l3), (4, .int l4), (5, .int l5)] → W p l e (rmGX0_items (d + 1)) s m args below meth c H locs 0 0 (MQ below (QV G DA (wX0 G h0 a0 res.2.1 res.1 ++ (wX7 G h1 a1 res.2.2 A1))) args s 0 0 DA) (F0 m 132 ls [.int s0, .int s1, .ref (a0 0)]) := by
  obtain ⟨hx, hb, hml, hown, hts⟩ := C0.1
  have hK := C0.2.2.2.1
  intro A0 f0 f1 l3 l4 l5 s0 s1 h _ _ _ hPD hS hl
  unfold f0_item_b132 at h
  obtain ⟨z_1, ez_1, h⟩ := lvl h
  have kc := kt_X9_put l G (a0 0) 48 (A0 0) s1 s0 (by decide)
  rw [← ez_1] at kc
  clear ez_1
  refine kNV (As := [.ref (a0 0), .int s1, .int s0]) (rest := []) C0 (kc) gi_U_X9_put (host := "IdleCrimes") (index := 75) (List.mem_of_getElem? (i := 16) rfl) gw_6 gw_19 (n := 3) rfl (by decide +kernel) ⟨rfl, rfl, by simp only [rmGX0_items, rmX9_put]; omega, by simp only [rmGX0_items, rmX9_put]; omega⟩ hPD hS [1] [0, 2, 3] [0, 3, 1, 2] (wr := pick (wX0 G h0 a0 f0 A0 ++ (wX7 G h1 a1 f1 A1)) [0, 2, 3]) (wN := (wX0 G h0 a0 f0 (updA A0 0 z_1) ++ (wX7 G h1 a1 f1 A1))) rfl rfl rfl rfl rfl hl.1 (Nat.le_of_ble_eq_true rfl) dX0_item_132 (fun H locs hPD hS => ?_)
  obtain ⟨A0_2, eA0_2, h⟩ := lvl h
  have hPD : WD G DA (wX0 G h0 a0 f0 A0_2 ++ (wX7 G h1 a1 f1 A1)) H := by rw [eA0_2]; exact hPD
  clear eA0_2
  refine lv_aload_n hx hb dX0_item_135 rfl (lv_at hl 0 rfl) ?_
  refine lv_dup hx hb dX0_item_136 rfl ?_
  refine va_get (D := G.1) (ci := 0) (v := .int (f0 1)) (C := RX0) (T := TX0) (N := 2) hx hb hts inlX0 hown hK hPD.1 0 rfl rfl 1 (by decide) (hts _ gw_0) (fun _ h9 => h9) rfl dX0_item_137 ?_
  refine lv_iconst (v := 1) hx hb dX0_item_140 (by decide) ?_
  refine lv_iadd hx hb dX0_item_141 ?_
  refine va_put (D := G.1) (ci := 0) (v := .int ((f0 1) + 1)) (ty := .int) (C := RX0) (T := TX0) (N := 2) hx hb hts inlX0 tyX0 tyX0_ok nmX0 hown hK hPD.1 hPD.2 hS 0 rfl rfl 1 (by decide) (hts _ gw_0) (fun _ h9 => h9) rfl (by decide +kernel) rfl rfl (Nat.le_of_ble_eq_true rfl) dX0_item_142 (fun H locs hP hD hS => ?_)
  obtain ⟨f0_3, ef0_3, h⟩ := lvl h
  have hPD : WD G DA (wX0 G h0 a0 f0_3 A0_2 ++ (wX7 G h1 a1 f1 A1)) H := by rw [ef0_3]; exact ⟨hP, hD⟩
  clear ef0_3 hP hD
  refine lv_aload_n hx hb dX0_item_145 rfl (lv_at hl 1 rfl) ?_
  obtain ⟨z_4, ez_4, h⟩ := lvl h
  have kc := kt_X7_step l G h1 a1 f1 A1
  rw [← ez_4] at kc
  clear ez_4
  refine kVV (As := []) (rest := []) C0 (kc) gi_V_X0_57_X7_step (n := 0) rfl (by decide +kernel) rfl ⟨rfl, rfl, by simp only [rmGX0_items, rmX7_step]; omega, by simp only [rmGX0_items, rmX7_step]; omega⟩ hPD hS 2 7 rfl rfl rfl [2, 3] [0, 1] [0, 1, 2, 3] (wr := (wX0 G h0 a0 f0_3 A0_2)) (wN := (wX0 G h0 a0 f0_3 A0_2 ++ (wX7 G h1 a1 z_4 A1))) rfl rfl rfl rfl rfl hl.1 (Nat.le_of_ble_eq_true rfl) dX0_item_146 (fun H locs hPD hS => ?_)
  refine lv_aload_n hx hb dX0_item_149 rfl (lv_at hl 0 rfl) ?_
  refine lv_aload_n hx hb dX0_item_150 rfl (lv_at hl 1 rfl) ?_
  refine lv_iload hx hb dX0_item_151 (lv_at hl 4 rfl) ?_
  refine lv_iload hx hb dX0_item_153 (lv_at hl 5 rfl) ?_
  refine lv_iconst (v := 1) hx hb dX0_item_155 (by decide) ?_
  refine lv_isub hx hb dX0_item_156 ?_
  refine lv_iload_n hx hb dX0_item_157 rfl (lv_at hl 3 rfl) ?_
  obtain ⟨q_5, hq_5, h⟩ := ob2 h
  refine kVV (As := [.ref h1, .int l4, .int (l5 - 1), .int l3]) (rest := []) C0 (kt_X0_repeat l G h0 a0 h1 a1 f0_3 A0_2 z_4 A1 l4 (l5 - 1) l3 hq_5) gi_V_X0_63_X0_repeat (n := 4) rfl (by decide +kernel) rfl ⟨rfl, rfl, by simp only [rmGX0_items, rmX0_repeat]; omega, by simp only [rmGX0_items, rmX0_repeat]; omega⟩ hPD hS 0 0 rfl rfl rfl [0, 1, 2, 3] [] [0, 1, 2, 3] (wr := ([] : va_W)) (wN := (wX0 G h0 a0 q_5.2.1 q_5.1 ++ (wX7 G h1 a1 q_5.2.2 A1))) rfl rfl rfl rfl rfl hl.1 (Nat.le_of_ble_eq_true rfl) dX0_item_158 (fun H locs hPD hS => ?_)
  refine lv_goto (tgt := 169) hx hb dX0_item_161 (by decide) ?_
  obtain rfl := Option.some.inj h
  exact eV C0 hPD.1 hPD.2 hS dX0_item_169
set_option maxRecDepth 100000 in
set_option maxHeartbeats 4000000 in
theorem ww_f0_item_b91 {d : Nat} {rec : Nat → (Nat → Int32) → (Nat → Nat → Int32) → (Nat → Int32) → (Nat → Nat → Int32) → Int32 → Option ((Nat → Nat → Int32) × (Nat → Int32) × (Nat → Int32))} (hrec0 : ∀ (l : Launch) (G : Gp) (h0 : Nat) (a0 : Nat → Nat) (h1 : Nat) (a1 : Nat → Nat) (f0 : Nat → Int32) (A0 : Nat → Nat → Int32) (f1 : Nat → Int32) (A1 : Nat → Nat → Int32) (p2 : Int32), ∀ {r : (Nat → Nat → Int32) × (Nat → Int32) × (Nat → Int32)}, rec 0 f0 A0 f1 A1 p2 = some r → CtrV l yX0_items cX0_items 5 none (rmGX0_items d) G [.ref h0, .ref h1, .int p2] (wX0 G h0 a0 f0 A0 ++ (wX7 G h1 a1 f1 A1)) (wX0 G h0 a0 r.2.1 r.1 ++ (wX7 G h1 a1 r.2.2 A1))) (hrec1 : ∀ (l : Launch) (G : Gp) (h0 : Nat) (a0 : Nat → Nat) (h1 : Nat) (a1 : Nat → Nat) (f0 : Nat → Int32) (A0 : Nat → Nat → Int32) (f1 : Nat → Int32) (A1 : Nat → Nat → Int32) (p2 : Int32), ∀ {r : (Nat → Nat → Int32) × (Nat → Int32) × (Nat → Int32)}, rec 1 f0 A0 f1 A1 p2 = some r → CtrV l yX0_item cX0_item 7 none (rmGX0_items d) G [.ref h0, .ref h1, .int p2] (wX0 G h0 a0 f0 A0 ++ (wX7 G h1 a1 f1 A1)) (wX0 G h0 a0 r.2.1 r.1 ++ (wX7 G h1 a1 r.2.2 A1))) (hrec2 : ∀ (l : Launch) (G : Gp) (h0 : Nat) (a0 : Nat → Nat) (h1 : Nat) (a1 : Nat → Nat) (f0 : Nat → Int32) (A0 : Nat → Nat → Int32) (f1 : Nat → Int32) (A1 : Nat → Nat → Int32) (p2 : Int32), ∀ {r : (Nat → Nat → Int32) × (Nat → Int32) × (Nat → Int32)}, rec 2 f0 A0 f1 A1 p2 = some r → CtrV l yX0_group cX0_group 3 none (rmGX0_items d) G [.ref h0, .ref h1, .int p2] (wX0 G h0 a0 f0 A0 ++ (wX7 G h1 a1 f1 A1)) (wX0 G h0 a0 r.2.1 r.1 ++ (wX7 G h1 a1 r.2.2 A1))) (hdd : True)  (C0 : Cx cX0_item 7 none RX0 p s m args meth c G DA) {h0 : Nat} {a0 : Nat → Nat} {h1 : Nat} {a1 : Nat → Nat} {A1 : Nat → Nat → Int32} {p2 : Int32}   {res : (Nat → Nat → Int32) × (Nat → Int32) × (Nat → Int32)}  : ∀ (A0 : Nat → Nat → Int32) (f0 : Nat → Int32) (f1 : Nat → Int32) (l3 : Int32) (l4 : Int32) (l5 : Int32) (l6 : Int32), f0_item_b91 rec A1 p2  A0 f0 f1 l3 l4 l5 l6 = some res → ∀ (H : Heap) (locs : List Loc) (ls : Array Slot), WD G DA (wX0 G h0 a0 f0 A0 ++ (wX7 G h1 a1 f1 A1)) H → va_S DA s.heap H locs → lv_has ls 7 [(0, .ref h0), (1, .ref h1), (2, .int p2), (3, .int l3), (4, .int l4), (5, .int l5), (6, .int l6)] → W p l e (rmGX0_items (d + 1)) s m args below meth c H locs 0 0 (MQ below (QV G DA (wX0 G h0 a0 res.2.1 res.1 ++ (wX7 G h1 a1 res.2.2 A1))) args s 0 0 DA) (F0 m 91 ls []) := by
  obtain ⟨hx, hb, hml, hown, hts⟩ := C0.1
  have hK := C0.2.2.2.1
  intro A0 f0 f1 l3 l4 l5 l6 h _ _ _ hPD hS hl
  unfold f0_item_b91 at h
  refine lv_aload_n hx hb dX0_item_91 rfl (lv_at hl 0 rfl) ?_
  refine va_get (D := G.1) (ci := 0) (v := .int (f0 1)) (C := RX0) (T := TX0) (N := 2) hx hb hts inlX0 hown hK hPD.1 0 rfl rfl 1 (by decide) (hts _ gw_0) (fun _ h9 => h9) rfl dX0_item_92 ?_
  refine lv_bipush (v := 48) hx hb dX0_item_95 (by decide) ?_
  refine lv_icmp_lt (tgt := 108) hx hb dX0_item_97 (by decide) (fun cc1 => ?_) (fun cc1 => ?_)
  · have h := (if_pos cc1).symm.trans h
    refine lv_aload_n hx hb dX0_item_108 rfl (lv_at hl 0 rfl) ?_
    refine va_get (D := G.1) (ci := 0) (v := .ref (a0 0)) (C := RX0) (T := TX0) (N := 2) hx hb hts inlX0 hown hK hPD.1 0 rfl rfl 0 (by decide) (hts _ gw_1) (fun _ h9 => h9) rfl dX0_item_109 ?_
    refine lv_aload_n hx hb dX0_item_112 rfl (lv_at hl 0 rfl) ?_
    refine va_get (D := G.1) (ci := 0) (v := .int (f0 1)) (C := RX0) (T := TX0) (N := 2) hx hb hts inlX0 hown hK hPD.1 0 rfl rfl 1 (by decide) (hts _ gw_0) (fun _ h9 => h9) rfl dX0_item_113 ?_
    refine lv_iload hx hb dX0_item_116 (lv_at hl 6 rfl) ?_
    refine lv_bipush (v := 46) hx hb dX0_item_118 (by decide) ?_
    refine lv_icmp_ne (tgt := 127) hx hb dX0_item_120 (by decide) (fun cc1 => ?_) (fun cc1 => ?_)
    · have h := (if_neg cc1).symm.trans h
      refine lv_iload hx hb dX0_item_127 (lv_at hl 6 rfl) ?_
      refine kSI (As := [.int l6]) (rest := [.int (f0 1), .ref (a0 0)]) C0 (kt_X7_placeOf l G  l6) gi_S_X0_67_X7_placeOf (n := 1) rfl (by decide +kernel) ⟨rfl, rfl, by simp only [rmGX0_items, rmX7_placeOf]; omega, by simp only [rmGX0_items, rmX7_placeOf]; omega⟩ hPD hS [] [0, 1, 2, 3] [0, 1, 2, 3] (wr := (wX0 G h0 a0 f0 A0 ++ (wX7 G h1 a1 f1 A1))) (wN := (wX0 G h0 a0 f0 A0 ++ (wX7 G h1 a1 f1 A1))) rfl rfl rfl rfl rfl hl.1 (Nat.le_of_ble_eq_true rfl) dX0_item_129 (fun H locs hPD hS => ?_)
      exact ww_f0_item_b132 hrec0 hrec1 hrec2 hdd C0 A0 f0 f1 l3 l4 l5 (f7_placeOf l6) (f0 1) h _ _ _ hPD hS (lv_sub hl [0, 1, 2, 3, 4, 5] rfl)
    · have h := (if_pos cc1).symm.trans h
      refine lv_iconst (v := (-1)) hx hb dX0_item_123 (by decide) ?_
      refine lv_goto (tgt := 132) hx hb dX0_item_124 (by decide) ?_
      exact ww_f0_item_b132 hrec0 hrec1 hrec2 hdd C0 A0 f0 f1 l3 l4 l5 (-1) (f0 1) h _ _ _ hPD hS (lv_sub hl [0, 1, 2, 3, 4, 5] rfl)
  · have h := (if_neg cc1).symm.trans h
    refine lv_aload_n hx hb dX0_item_100 rfl (lv_at hl 1 rfl) ?_
    refine lv_bipush (v := 6) hx hb dX0_item_101 (by decide) ?_
    refine lv_iload_n hx hb dX0_item_103 rfl (lv_at hl 3 rfl) ?_
    obtain ⟨z_6, ez_6, h⟩ := lvl h
    have kc := kt_X7_failAt l G h1 a1 f1 A1 6 l3
    rw [← ez_6] at kc
    clear ez_6
    refine kVV (As := [.int 6, .int l3]) (rest := []) C0 (kc) gi_V_X0_71_X7_failAt (n := 2) rfl (by decide +kernel) rfl ⟨rfl, rfl, by simp only [rmGX0_items, rmX7_failAt]; omega, by simp only [rmGX0_items, rmX7_failAt]; omega⟩ hPD hS 2 7 rfl rfl rfl [2, 3] [0, 1] [0, 1, 2, 3] (wr := (wX0 G h0 a0 f0 A0)) (wN := (wX0 G h0 a0 f0 A0 ++ (wX7 G h1 a1 z_6 A1))) rfl rfl rfl rfl rfl hl.1 (Nat.le_of_ble_eq_true rfl) dX0_item_104 (fun H locs hPD hS => ?_)
    obtain rfl := Option.some.inj h
    exact eV C0 hPD.1 hPD.2 hS dX0_item_107
set_option maxRecDepth 100000 in
set_option maxHeartbeats 4000000 in
theorem ww_f0_item_b41 {d : Nat} {rec : Nat → (Nat → Int32) → (Nat → Nat → Int32) → (Nat → Int32) → (Nat → Nat → Int32) → Int32 → Option ((Nat → Nat → Int32) × (Nat → Int32) × (Nat → Int32))} (hrec0 : ∀ (l : Launch) (G : Gp) (h0 : Nat) (a0 : Nat → Nat) (h1 : Nat) (a1 : Nat → Nat) (f0 : Nat → Int32) (A0 : Nat → Nat → Int32) (f1 : Nat → Int32) (A1 : Nat → Nat → Int32) (p2 : Int32), ∀ {r : (Nat → Nat → Int32) × (Nat → Int32) × (Nat → Int32)}, rec 0 f0 A0 f1 A1 p2 = some r → CtrV l yX0_items cX0_items 5 none (rmGX0_items d) G [.ref h0, .ref h1, .int p2] (wX0 G h0 a0 f0 A0 ++ (wX7 G h1 a1 f1 A1)) (wX0 G h0 a0 r.2.1 r.1 ++ (wX7 G h1 a1 r.2.2 A1))) (hrec1 : ∀ (l : Launch) (G : Gp) (h0 : Nat) (a0 : Nat → Nat) (h1 : Nat) (a1 : Nat → Nat) (f0 : Nat → Int32) (A0 : Nat → Nat → Int32) (f1 : Nat → Int32) (A1 : Nat → Nat → Int32) (p2 : Int32), ∀ {r : (Nat → Nat → Int32) × (Nat → Int32) × (Nat → Int32)}, rec 1 f0 A0 f1 A1 p2 = some r → CtrV l yX0_item cX0_item 7 none (rmGX0_items d) G [.ref h0, .ref h1, .int p2] (wX0 G h0 a0 f0 A0 ++ (wX7 G h1 a1 f1 A1)) (wX0 G h0 a0 r.2.1 r.1 ++ (wX7 G h1 a1 r.2.2 A1))) (hrec2 : ∀ (l : Launch) (G : Gp) (h0 : Nat) (a0 : Nat → Nat) (h1 : Nat) (a1 : Nat → Nat) (f0 : Nat → Int32) (A0 : Nat → Nat → Int32) (f1 : Nat → Int32) (A1 : Nat → Nat → Int32) (p2 : Int32), ∀ {r : (Nat → Nat → Int32) × (Nat → Int32) × (Nat → Int32)}, rec 2 f0 A0 f1 A1 p2 = some r → CtrV l yX0_group cX0_group 3 none (rmGX0_items d) G [.ref h0, .ref h1, .int p2] (wX0 G h0 a0 f0 A0 ++ (wX7 G h1 a1 f1 A1)) (wX0 G h0 a0 r.2.1 r.1 ++ (wX7 G h1 a1 r.2.2 A1))) (hdd : True)  (C0 : Cx cX0_item 7 none RX0 p s m args meth c G DA) {h0 : Nat} {a0 : Nat → Nat} {h1 : Nat} {a1 : Nat → Nat} {A1 : Nat → Nat → Int32} {p2 : Int32}   {res : (Nat → Nat → Int32) × (Nat → Int32) × (Nat → Int32)}  : ∀ (A0 : Nat → Nat → Int32) (f0 : Nat → Int32) (f1 : Nat → Int32) (l3 : Int32) (l4 : Int32) (l5 : Int32), f0_item_b41 rec A1 p2  A0 f0 f1 l3 l4 l5 = some res → ∀ (H : Heap) (locs : List Loc) (ls : Array Slot), WD G DA (wX0 G h0 a0 f0 A0 ++ (wX7 G h1 a1 f1 A1)) H → va_S DA s.heap H locs → lv_has ls 7 [(0, .ref h0), (1, .ref h1), (2, .int p2), (3, .int l3), (4, .int l4), (5, .int l5)] → W p l e (rmGX0_items (d + 1)) s m args below meth c H locs 0 0 (MQ below (QV G DA (wX0 G h0 a0 res.2.1 res.1 ++ (wX7 G h1 a1 res.2.2 A1))) args s 0 0 DA) (F0 m 41 ls []) := by
  obtain ⟨hx, hb, hml, hown, hts⟩ := C0.1
  have hK := C0.2.2.2.1
  intro A0 f0 f1 l3 l4 l5 h _ _ _ hPD hS hl
  unfold f0_item_b41 at h
  refine lv_aload_n hx hb dX0_item_41 rfl (lv_at hl 1 rfl) ?_
  refine kVI (As := []) (rest := []) C0 (kt_X7_look l G h1 a1 f1 A1) gi_V_X0_39_X7_look (n := 0) rfl (by decide +kernel) rfl ⟨rfl, rfl, by simp only [rmGX0_items, rmX7_look]; omega, by simp only [rmGX0_items, rmX7_look]; omega⟩ hPD hS 2 7 rfl rfl rfl [2, 3] [0, 1] [0, 1, 2, 3] (wr := (wX0 G h0 a0 f0 A0)) (wN := (wX0 G h0 a0 f0 A0 ++ (wX7 G h1 a1 f1 A1))) rfl rfl rfl rfl rfl hl.1 (Nat.le_of_ble_eq_true rfl) dX0_item_42 (fun H locs hPD hS => ?_)
  refine lv_istore (lv' := [(6, .int (f7_look f1 A1)), (0, .ref h0), (1, .ref h1), (2, .int p2), (3, .int l3), (4, .int l4), (5, .int l5)]) hx hb dX0_item_45 hl (by decide) rfl (fun ls hl => ?_)
  refine lv_iload hx hb dX0_item_47 (lv_at hl 0 rfl) ?_
  refine lv_bipush (v := 40) hx hb dX0_item_49 (by decide) ?_
  refine lv_icmp_ne (tgt := 75) hx hb dX0_item_51 (by decide) (fun cc1 => ?_) (fun cc1 => ?_)
  · have h := (if_neg cc1).symm.trans h
    refine lv_iload hx hb dX0_item_75 (lv_at hl 0 rfl) ?_
    refine lv_bipush (v := 46) hx hb dX0_item_77 (by decide) ?_
    refine lv_icmp_eq (tgt := 91) hx hb dX0_item_79 (by decide) (fun cc1 => ?_) (fun cc1 => ?_)
    · have h := (if_pos cc1).symm.trans h
      exact ww_f0_item_b91 hrec0 hrec1 hrec2 hdd C0 A0 f0 f1 l3 l4 l5 (f7_look f1 A1) h _ _ _ hPD hS (lv_sub hl [1, 2, 3, 4, 5, 6, 0] rfl)
    · have h := (if_neg cc1).symm.trans h
      refine lv_iload hx hb dX0_item_82 (lv_at hl 0 rfl) ?_
      refine kSI (As := [.int (f7_look f1 A1)]) (rest := []) C0 (kt_X7_placeOf l G  (f7_look f1 A1)) gi_S_X0_67_X7_placeOf (n := 1) rfl (by decide +kernel) ⟨rfl, rfl, by simp only [rmGX0_items, rmX7_placeOf]; omega, by simp only [rmGX0_items, rmX7_placeOf]; omega⟩ hPD hS [] [0, 1, 2, 3] [0, 1, 2, 3] (wr := (wX0 G h0 a0 f0 A0 ++ (wX7 G h1 a1 f1 A1))) (wN := (wX0 G h0 a0 f0 A0 ++ (wX7 G h1 a1 f1 A1))) rfl rfl rfl rfl rfl hl.1 (Nat.le_of_ble_eq_true rfl) dX0_item_84 (fun H locs hPD hS => ?_)
      refine lv_iconst (v := (-1)) hx hb dX0_item_87 (by decide) ?_
      refine lv_icmp_eq (tgt := 164) hx hb dX0_item_88 (by decide) (fun cc1 => ?_) (fun cc1 => ?_)
      · have h := (if_pos cc1).symm.trans h
        refine lv_aload_n hx hb dX0_item_164 rfl (lv_at hl 2 rfl) ?_
        refine lv_iconst (v := 1) hx hb dX0_item_165 (by decide) ?_
        obtain ⟨z_7, ez_7, h⟩ := lvl h
        have kc := kt_X7_fail l G h1 a1 f1 A1 1
        rw [← ez_7] at kc
        clear ez_7
        refine kVV (As := [.int 1]) (rest := []) C0 (kc) gi_V_X0_43_X7_fail (n := 1) rfl (by decide +kernel) rfl ⟨rfl, rfl, by simp only [rmGX0_items, rmX7_fail]; omega, by simp only [rmGX0_items, rmX7_fail]; omega⟩ hPD hS 2 7 rfl rfl rfl [2, 3] [0, 1] [0, 1, 2, 3] (wr := (wX0 G h0 a0 f0 A0)) (wN := (wX0 G h0 a0 f0 A0 ++ (wX7 G h1 a1 z_7 A1))) rfl rfl rfl rfl rfl hl.1 (Nat.le_of_ble_eq_true rfl) dX0_item_166 (fun H locs hPD hS => ?_)
        obtain rfl := Option.some.inj h
        exact eV C0 hPD.1 hPD.2 hS dX0_item_169
      · have h := (if_neg cc1).symm.trans h
        exact ww_f0_item_b91 hrec0 hrec1 hrec2 hdd C0 A0 f0 f1 l3 l4 l5 (f7_look f1 A1) h _ _ _ hPD hS (lv_sub hl [1, 2, 3, 4, 5, 6, 0] rfl)
  · have h := (if_pos cc1).symm.trans h
    refine lv_aload_n hx hb dX0_item_54 rfl (lv_at hl 1 rfl) ?_
    refine lv_aload_n hx hb dX0_item_55 rfl (lv_at hl 2 rfl) ?_
    refine lv_iload_n hx hb dX0_item_56 rfl (lv_at hl 3 rfl) ?_
    obtain ⟨q_8, hq_8, h⟩ := ob2 h
    refine kVV (As := [.ref h1, .int p2]) (rest := []) C0 (hrec2 l G h0 a0 h1 a1 f0 A0 f1 A1 p2 hq_8) gi_V_X0_60_X0_group (n := 2) rfl (by decide +kernel) rfl ⟨rfl, rfl, by simp only [rmGX0_items]; omega, by simp only [rmGX0_items]; omega⟩ hPD hS 0 0 rfl rfl rfl [0, 1, 2, 3] [] [0, 1, 2, 3] (wr := ([] : va_W)) (wN := (wX0 G h0 a0 q_8.2.1 q_8.1 ++ (wX7 G h1 a1 q_8.2.2 A1))) rfl rfl rfl rfl rfl hl.1 (Nat.le_of_ble_eq_true rfl) dX0_item_57 (fun H locs hPD hS => ?_)
    refine lv_aload_n hx hb dX0_item_60 rfl (lv_at hl 1 rfl) ?_
    refine lv_aload_n hx hb dX0_item_61 rfl (lv_at hl 2 rfl) ?_
    refine lv_iload hx hb dX0_item_62 (lv_at hl 5 rfl) ?_
    refine lv_iload hx hb dX0_item_64 (lv_at hl 6 rfl) ?_
    refine lv_iconst (v := 1) hx hb dX0_item_66 (by decide) ?_
    refine lv_isub hx hb dX0_item_67 ?_
    refine lv_iload_n hx hb dX0_item_68 rfl (lv_at hl 4 rfl) ?_
    obtain ⟨q_9, hq_9, h⟩ := ob2 h
    refine kVV (As := [.ref h1, .int l4, .int (l5 - 1), .int l3]) (rest := []) C0 (kt_X0_repeat l G h0 a0 h1 a1 q_8.2.1 q_8.1 q_8.2.2 A1 l4 (l5 - 1) l3 hq_9) gi_V_X0_63_X0_repeat (n := 4) rfl (by decide +kernel) rfl ⟨rfl, rfl, by simp only [rmGX0_items, rmX0_repeat]; omega, by simp only [rmGX0_items, rmX0_repeat]; omega⟩ hPD hS 0 0 rfl rfl rfl [0, 1, 2, 3] [] [0, 1, 2, 3] (wr := ([] : va_W)) (wN := (wX0 G h0 a0 q_9.2.1 q_9.1 ++ (wX7 G h1 a1 q_9.2.2 A1))) rfl rfl rfl rfl rfl hl.1 (Nat.le_of_ble_eq_true rfl) dX0_item_69 (fun H locs hPD hS => ?_)
    refine lv_goto (tgt := 169) hx hb dX0_item_72 (by decide) ?_
    obtain rfl := Option.some.inj h
    exact eV C0 hPD.1 hPD.2 hS dX0_item_169
set_option maxRecDepth 100000 in
set_option maxHeartbeats 4000000 in
theorem ko_X0_item {d : Nat} {rec : Nat → (Nat → Int32) → (Nat → Nat → Int32) → (Nat → Int32) → (Nat → Nat → Int32) → Int32 → Option ((Nat → Nat → Int32) × (Nat → Int32) × (Nat → Int32))} (hrec0 : ∀ (l : Launch) (G : Gp) (h0 : Nat) (a0 : Nat → Nat) (h1 : Nat) (a1 : Nat → Nat) (f0 : Nat → Int32) (A0 : Nat → Nat → Int32) (f1 : Nat → Int32) (A1 : Nat → Nat → Int32) (p2 : Int32), ∀ {r : (Nat → Nat → Int32) × (Nat → Int32) × (Nat → Int32)}, rec 0 f0 A0 f1 A1 p2 = some r → CtrV l yX0_items cX0_items 5 none (rmGX0_items d) G [.ref h0, .ref h1, .int p2] (wX0 G h0 a0 f0 A0 ++ (wX7 G h1 a1 f1 A1)) (wX0 G h0 a0 r.2.1 r.1 ++ (wX7 G h1 a1 r.2.2 A1))) (hrec1 : ∀ (l : Launch) (G : Gp) (h0 : Nat) (a0 : Nat → Nat) (h1 : Nat) (a1 : Nat → Nat) (f0 : Nat → Int32) (A0 : Nat → Nat → Int32) (f1 : Nat → Int32) (A1 : Nat → Nat → Int32) (p2 : Int32), ∀ {r : (Nat → Nat → Int32) × (Nat → Int32) × (Nat → Int32)}, rec 1 f0 A0 f1 A1 p2 = some r → CtrV l yX0_item cX0_item 7 none (rmGX0_items d) G [.ref h0, .ref h1, .int p2] (wX0 G h0 a0 f0 A0 ++ (wX7 G h1 a1 f1 A1)) (wX0 G h0 a0 r.2.1 r.1 ++ (wX7 G h1 a1 r.2.2 A1))) (hrec2 : ∀ (l : Launch) (G : Gp) (h0 : Nat) (a0 : Nat → Nat) (h1 : Nat) (a1 : Nat → Nat) (f0 : Nat → Int32) (A0 : Nat → Nat → Int32) (f1 : Nat → Int32) (A1 : Nat → Nat → Int32) (p2 : Int32), ∀ {r : (Nat → Nat → Int32) × (Nat → Int32) × (Nat → Int32)}, rec 2 f0 A0 f1 A1 p2 = some r → CtrV l yX0_group cX0_group 3 none (rmGX0_items d) G [.ref h0, .ref h1, .int p2] (wX0 G h0 a0 f0 A0 ++ (wX7 G h1 a1 f1 A1)) (wX0 G h0 a0 r.2.1 r.1 ++ (wX7 G h1 a1 r.2.2 A1))) (hdd : True) (l : Launch) (G : Gp) (h0 : Nat) (a0 : Nat → Nat) (h1 : Nat) (a1 : Nat → Nat) (f0 : Nat → Int32) (A0 : Nat → Nat → Int32) (f1 : Nat → Int32) (A1 : Nat → Nat → Int32) (p2 : Int32) : ∀ {r : (Nat → Nat → Int32) × (Nat → Int32) × (Nat → Int32)}, f0_item rec f0 A0 f1 A1 p2 = some r → CtrV l yX0_item cX0_item 7 none (rmGX0_items (d + 1)) G [.ref h0, .ref h1, .int p2] (wX0 G h0 a0 f0 A0 ++ (wX7 G h1 a1 f1 A1)) (wX0 G h0 a0 r.2.1 r.1 ++ (wX7 G h1 a1 r.2.2 A1)) := by
  intro res h
  refine ctrV_of (cc := cX0_item) (maxL := 7) (ret := none) (by decide +kernel) rfl (Nat.le_of_ble_eq_true rfl) (fun p e s m below meth c DA C0 hP hD ls hl => ?_)
  have hPD : WD G DA (wX0 G h0 a0 f0 A0 ++ (wX7 G h1 a1 f1 A1)) s.heap := ⟨hP, hD⟩
  have hS : va_S DA s.heap s.heap [] := va_S.rf
  have hl : lv_has ls 7 [(0, .ref h0), (1, .ref h1), (2, .int p2)] := hl
  obtain ⟨hx, hb, hml, hown, hts⟩ := C0.1
  have hK := C0.2.2.2.1
  unfold f0_item at h
  refine lv_aload_n hx hb dX0_item_0 rfl (lv_at hl 1 rfl) ?_
  refine kVI (As := []) (rest := []) C0 (kt_X7_reader l G h1 a1 f1 A1) gi_V_X0_50_X7_reader (n := 0) rfl (by decide +kernel) rfl ⟨rfl, rfl, by simp only [rmGX0_items, rmX7_reader]; omega, by simp only [rmGX0_items, rmX7_reader]; omega⟩ hPD hS 2 7 rfl rfl rfl [2, 3] [0, 1] [0, 1, 2, 3] (wr := (wX0 G h0 a0 f0 A0)) (wN := (wX0 G h0 a0 f0 A0 ++ (wX7 G h1 a1 f1 A1))) rfl rfl rfl rfl rfl hl.1 (Nat.le_of_ble_eq_true rfl) dX0_item_1 (fun H locs hPD hS => ?_)
  refine lv_istore_n (lv' := [(3, .int (f7_reader f1 A1)), (0, .ref h0), (1, .ref h1), (2, .int p2)]) hx hb dX0_item_4 rfl hl (by decide) rfl (fun ls hl => ?_)
  refine lv_aload_n hx hb dX0_item_5 rfl (lv_at hl 1 rfl) ?_
  refine va_get (D := G.1) (ci := 0) (v := .int (f0 1)) (C := RX0) (T := TX0) (N := 2) hx hb hts inlX0 hown hK hPD.1 0 rfl rfl 1 (by decide) (hts _ gw_0) (fun _ h9 => h9) rfl dX0_item_6 ?_
  refine lv_istore (lv' := [(4, .int (f0 1)), (3, .int (f7_reader f1 A1)), (0, .ref h0), (1, .ref h1), (2, .int p2)]) hx hb dX0_item_9 hl (by decide) rfl (fun ls hl => ?_)
  refine lv_iconst (v := 1) hx hb dX0_item_11 (by decide) ?_
  refine lv_istore (lv' := [(5, .int 1), (4, .int (f0 1)), (3, .int (f7_reader f1 A1)), (0, .ref h0), (1, .ref h1), (2, .int p2)]) hx hb dX0_item_12 hl (by decide) rfl (fun ls hl => ?_)
  refine lv_aload_n hx hb dX0_item_14 rfl (lv_at hl 4 rfl) ?_
  refine kVI (As := []) (rest := []) C0 (kt_X7_look l G h1 a1 f1 A1) gi_V_X0_39_X7_look (n := 0) rfl (by decide +kernel) rfl ⟨rfl, rfl, by simp only [rmGX0_items, rmX7_look]; omega, by simp only [rmGX0_items, rmX7_look]; omega⟩ hPD hS 2 7 rfl rfl rfl [2, 3] [0, 1] [0, 1, 2, 3] (wr := (wX0 G h0 a0 f0 A0)) (wN := (wX0 G h0 a0 f0 A0 ++ (wX7 G h1 a1 f1 A1))) rfl rfl rfl rfl rfl hl.1 (Nat.le_of_ble_eq_true rfl) dX0_item_15 (fun H locs hPD hS => ?_)
  refine lv_bipush (v := 50) hx hb dX0_item_18 (by decide) ?_
  refine lv_bipush (v := 57) hx hb dX0_item_20 (by decide) ?_
  refine kNI (As := [.int (f7_look f1 A1), .int 50, .int 57]) (rest := []) C0 (kt_X9_within l G  (f7_look f1 A1) 50 57) gi_U_X9_within (host := "IdleCrimes") (index := 53) (List.mem_of_getElem? (i := 14) rfl) gw_6 gw_25 (n := 3) rfl (by decide +kernel) ⟨rfl, rfl, by simp only [rmGX0_items, rmX9_within]; omega, by simp only [rmGX0_items, rmX9_within]; omega⟩ hPD hS [] [0, 1, 2, 3] [0, 1, 2, 3] (wr := (wX0 G h0 a0 f0 A0 ++ (wX7 G h1 a1 f1 A1))) (wN := (wX0 G h0 a0 f0 A0 ++ (wX7 G h1 a1 f1 A1))) rfl rfl rfl rfl rfl hl.1 (Nat.le_of_ble_eq_true rfl) dX0_item_22 (fun H locs hPD hS => ?_)
  refine lv_if_eq (tgt := 41) hx hb dX0_item_25 (by decide) (fun cc1 => ?_) (fun cc1 => ?_)
  · have h := (if_pos cc1).symm.trans h
    exact ww_f0_item_b41 hrec0 hrec1 hrec2 hdd C0 A0 f0 f1 (f7_reader f1 A1) (f0 1) 1 h _ _ _ hPD hS (lv_sub hl [3, 4, 5, 2, 1, 0] rfl)
  · have h := (if_neg cc1).symm.trans h
    refine lv_aload_n hx hb dX0_item_28 rfl (lv_at hl 4 rfl) ?_
    refine kVI (As := []) (rest := []) C0 (kt_X7_look l G h1 a1 f1 A1) gi_V_X0_39_X7_look (n := 0) rfl (by decide +kernel) rfl ⟨rfl, rfl, by simp only [rmGX0_items, rmX7_look]; omega, by simp only [rmGX0_items, rmX7_look]; omega⟩ hPD hS 2 7 rfl rfl rfl [2, 3] [0, 1] [0, 1, 2, 3] (wr := (wX0 G h0 a0 f0 A0)) (wN := (wX0 G h0 a0 f0 A0 ++ (wX7 G h1 a1 f1 A1))) rfl rfl rfl rfl rfl hl.1 (Nat.le_of_ble_eq_true rfl) dX0_item_29 (fun H locs hPD hS => ?_)
    refine lv_bipush (v := 48) hx hb dX0_item_32 (by decide) ?_
    refine lv_isub hx hb dX0_item_34 ?_
    refine lv_istore (lv' := [(5, .int ((f7_look f1 A1) - 48)), (4, .int (f0 1)), (3, .int (f7_reader f1 A1)), (0, .ref h0), (1, .ref h1), (2, .int p2)]) hx hb dX0_item_35 hl (by decide) rfl (fun ls hl => ?_)
    refine lv_aload_n hx hb dX0_item_37 rfl (lv_at hl 4 rfl) ?_
    obtain ⟨z_10, ez_10, h⟩ := lvl h
    have kc := kt_X7_step l G h1 a1 f1 A1
    rw [← ez_10] at kc
    clear ez_10
    refine kVV (As := []) (rest := []) C0 (kc) gi_V_X0_57_X7_step (n := 0) rfl (by decide +kernel) rfl ⟨rfl, rfl, by simp only [rmGX0_items, rmX7_step]; omega, by simp only [rmGX0_items, rmX7_step]; omega⟩ hPD hS 2 7 rfl rfl rfl [2, 3] [0, 1] [0, 1, 2, 3] (wr := (wX0 G h0 a0 f0 A0)) (wN := (wX0 G h0 a0 f0 A0 ++ (wX7 G h1 a1 z_10 A1))) rfl rfl rfl rfl rfl hl.1 (Nat.le_of_ble_eq_true rfl) dX0_item_38 (fun H locs hPD hS => ?_)
    exact ww_f0_item_b41 hrec0 hrec1 hrec2 hdd C0 A0 f0 z_10 (f7_reader f1 A1) (f0 1) ((f7_look f1 A1) - 48) h _ _ _ hPD hS (lv_sub hl [3, 4, 5, 2, 1, 0] rfl)
set_option maxRecDepth 100000 in
set_option maxHeartbeats 4000000 in
theorem ko_X0_group {d : Nat} {rec : Nat → (Nat → Int32) → (Nat → Nat → Int32) → (Nat → Int32) → (Nat → Nat → Int32) → Int32 → Option ((Nat → Nat → Int32) × (Nat → Int32) × (Nat → Int32))} (hrec0 : ∀ (l : Launch) (G : Gp) (h0 : Nat) (a0 : Nat → Nat) (h1 : Nat) (a1 : Nat → Nat) (f0 : Nat → Int32) (A0 : Nat → Nat → Int32) (f1 : Nat → Int32) (A1 : Nat → Nat → Int32) (p2 : Int32), ∀ {r : (Nat → Nat → Int32) × (Nat → Int32) × (Nat → Int32)}, rec 0 f0 A0 f1 A1 p2 = some r → CtrV l yX0_items cX0_items 5 none (rmGX0_items d) G [.ref h0, .ref h1, .int p2] (wX0 G h0 a0 f0 A0 ++ (wX7 G h1 a1 f1 A1)) (wX0 G h0 a0 r.2.1 r.1 ++ (wX7 G h1 a1 r.2.2 A1))) (hrec1 : ∀ (l : Launch) (G : Gp) (h0 : Nat) (a0 : Nat → Nat) (h1 : Nat) (a1 : Nat → Nat) (f0 : Nat → Int32) (A0 : Nat → Nat → Int32) (f1 : Nat → Int32) (A1 : Nat → Nat → Int32) (p2 : Int32), ∀ {r : (Nat → Nat → Int32) × (Nat → Int32) × (Nat → Int32)}, rec 1 f0 A0 f1 A1 p2 = some r → CtrV l yX0_item cX0_item 7 none (rmGX0_items d) G [.ref h0, .ref h1, .int p2] (wX0 G h0 a0 f0 A0 ++ (wX7 G h1 a1 f1 A1)) (wX0 G h0 a0 r.2.1 r.1 ++ (wX7 G h1 a1 r.2.2 A1))) (hrec2 : ∀ (l : Launch) (G : Gp) (h0 : Nat) (a0 : Nat → Nat) (h1 : Nat) (a1 : Nat → Nat) (f0 : Nat → Int32) (A0 : Nat → Nat → Int32) (f1 : Nat → Int32) (A1 : Nat → Nat → Int32) (p2 : Int32), ∀ {r : (Nat → Nat → Int32) × (Nat → Int32) × (Nat → Int32)}, rec 2 f0 A0 f1 A1 p2 = some r → CtrV l yX0_group cX0_group 3 none (rmGX0_items d) G [.ref h0, .ref h1, .int p2] (wX0 G h0 a0 f0 A0 ++ (wX7 G h1 a1 f1 A1)) (wX0 G h0 a0 r.2.1 r.1 ++ (wX7 G h1 a1 r.2.2 A1))) (hdd : True) (l : Launch) (G : Gp) (h0 : Nat) (a0 : Nat → Nat) (h1 : Nat) (a1 : Nat → Nat) (f0 : Nat → Int32) (A0 : Nat → Nat → Int32) (f1 : Nat → Int32) (A1 : Nat → Nat → Int32) (p2 : Int32) : ∀ {r : (Nat → Nat → Int32) × (Nat → Int32) × (Nat → Int32)}, f0_group rec f0 A0 f1 A1 p2 = some r → CtrV l yX0_group cX0_group 3 none (rmGX0_items (d + 1)) G [.ref h0, .ref h1, .int p2] (wX0 G h0 a0 f0 A0 ++ (wX7 G h1 a1 f1 A1)) (wX0 G h0 a0 r.2.1 r.1 ++ (wX7 G h1 a1 r.2.2 A1)) := by
  intro res h
  refine ctrV_of (cc := cX0_group) (maxL := 3) (ret := none) (by decide +kernel) rfl (Nat.le_of_ble_eq_true rfl) (fun p e s m below meth c DA C0 hP hD ls hl => ?_)
  have hPD : WD G DA (wX0 G h0 a0 f0 A0 ++ (wX7 G h1 a1 f1 A1)) s.heap := ⟨hP, hD⟩
  have hS : va_S DA s.heap s.heap [] := va_S.rf
  have hl : lv_has ls 3 [(0, .ref h0), (1, .ref h1), (2, .int p2)] := hl
  obtain ⟨hx, hb, hml, hown, hts⟩ := C0.1
  have hK := C0.2.2.2.1
  unfold f0_group at h
  refine lv_iload_n hx hb dX0_group_0 rfl (lv_at hl 2 rfl) ?_
  refine lv_iconst (v := 2) hx hb dX0_group_1 (by decide) ?_
  refine lv_icmp_lt (tgt := 11) hx hb dX0_group_2 (by decide) (fun cc1 => ?_) (fun cc1 => ?_)
  · have h := (if_pos cc1).symm.trans h
    refine lv_aload_n hx hb dX0_group_11 rfl (lv_at hl 1 rfl) ?_
    obtain ⟨z_1, ez_1, h⟩ := lvl h
    have kc := kt_X7_step l G h1 a1 f1 A1
    rw [← ez_1] at kc
    clear ez_1
    refine kVV (As := []) (rest := []) C0 (kc) gi_V_X0_57_X7_step (n := 0) rfl (by decide +kernel) rfl ⟨rfl, rfl, by simp only [rmGX0_items, rmX7_step]; omega, by simp only [rmGX0_items, rmX7_step]; omega⟩ hPD hS 2 7 rfl rfl rfl [2, 3] [0, 1] [0, 1, 2, 3] (wr := (wX0 G h0 a0 f0 A0)) (wN := (wX0 G h0 a0 f0 A0 ++ (wX7 G h1 a1 z_1 A1))) rfl rfl rfl rfl rfl hl.1 (Nat.le_of_ble_eq_true rfl) dX0_group_12 (fun H locs hPD hS => ?_)
    refine lv_aload_n hx hb dX0_group_15 rfl (lv_at hl 0 rfl) ?_
    refine lv_aload_n hx hb dX0_group_16 rfl (lv_at hl 1 rfl) ?_
    refine lv_iload_n hx hb dX0_group_17 rfl (lv_at hl 2 rfl) ?_
    refine lv_iconst (v := 1) hx hb dX0_group_18 (by decide) ?_
    refine lv_iadd hx hb dX0_group_19 ?_
    obtain ⟨q_2, hq_2, h⟩ := ob2 h
    refine kVV (As := [.ref h1, .int (p2 + 1)]) (rest := []) C0 (hrec0 l G h0 a0 h1 a1 f0 A0 z_1 A1 (p2 + 1) hq_2) gi_V_X0_29_X0_items (n := 2) rfl (by decide +kernel) rfl ⟨rfl, rfl, by simp only [rmGX0_items]; omega, by simp only [rmGX0_items]; omega⟩ hPD hS 0 0 rfl rfl rfl [0, 1, 2, 3] [] [0, 1, 2, 3] (wr := ([] : va_W)) (wN := (wX0 G h0 a0 q_2.2.1 q_2.1 ++ (wX7 G h1 a1 q_2.2.2 A1))) rfl rfl rfl rfl rfl hl.1 (Nat.le_of_ble_eq_true rfl) dX0_group_20 (fun H locs hPD hS => ?_)
    refine lv_aload_n hx hb dX0_group_23 rfl (lv_at hl 1 rfl) ?_
    refine lv_bipush (v := 41) hx hb dX0_group_24 (by decide) ?_
    obtain ⟨q_3, hq_3, h⟩ := ob2 h
    refine kVI (As := [.int 41]) (rest := []) C0 (kt_X7_take l G h1 a1 q_2.2.2 A1 41 hq_3) gi_V_X0_79_X7_take (n := 1) rfl (by decide +kernel) rfl ⟨rfl, rfl, by simp only [rmGX0_items, rmX7_take]; omega, by simp only [rmGX0_items, rmX7_take]; omega⟩ hPD hS 2 7 rfl rfl rfl [2, 3] [0, 1] [0, 1, 2, 3] (wr := (wX0 G h0 a0 q_2.2.1 q_2.1)) (wN := (wX0 G h0 a0 q_2.2.1 q_2.1 ++ (wX7 G h1 a1 q_3.2 A1))) rfl rfl rfl rfl rfl hl.1 (Nat.le_of_ble_eq_true rfl) dX0_group_26 (fun H locs hPD hS => ?_)
    refine lv_pop hx hb dX0_group_29 rfl ?_
    obtain rfl := Option.some.inj h
    exact eV C0 hPD.1 hPD.2 hS dX0_group_30
  · have h := (if_neg cc1).symm.trans h
    refine lv_aload_n hx hb dX0_group_5 rfl (lv_at hl 1 rfl) ?_
    refine lv_iconst (v := 5) hx hb dX0_group_6 (by decide) ?_
    obtain ⟨z_4, ez_4, h⟩ := lvl h
    have kc := kt_X7_fail l G h1 a1 f1 A1 5
    rw [← ez_4] at kc
    clear ez_4
    refine kVV (As := [.int 5]) (rest := []) C0 (kc) gi_V_X0_43_X7_fail (n := 1) rfl (by decide +kernel) rfl ⟨rfl, rfl, by simp only [rmGX0_items, rmX7_fail]; omega, by simp only [rmGX0_items, rmX7_fail]; omega⟩ hPD hS 2 7 rfl rfl rfl [2, 3] [0, 1] [0, 1, 2, 3] (wr := (wX0 G h0 a0 f0 A0)) (wN := (wX0 G h0 a0 f0 A0 ++ (wX7 G h1 a1 z_4 A1))) rfl rfl rfl rfl rfl hl.1 (Nat.le_of_ble_eq_true rfl) dX0_group_7 (fun H locs hPD hS => ?_)
    obtain rfl := Option.some.inj h
    exact eV C0 hPD.1 hPD.2 hS dX0_group_10
set_option maxRecDepth 100000 in
set_option maxHeartbeats 4000000 in
theorem kg_X0_items : ∀ d : Nat, (∀ (l : Launch) (G : Gp) (h0 : Nat) (a0 : Nat → Nat) (h1 : Nat) (a1 : Nat → Nat) (f0 : Nat → Int32) (A0 : Nat → Nat → Int32) (f1 : Nat → Int32) (A1 : Nat → Nat → Int32) (p2 : Int32), ∀ {r : (Nat → Nat → Int32) × (Nat → Int32) × (Nat → Int32)}, f0_items_rec d 0 f0 A0 f1 A1 p2 = some r → CtrV l yX0_items cX0_items 5 none (rmGX0_items d) G [.ref h0, .ref h1, .int p2] (wX0 G h0 a0 f0 A0 ++ (wX7 G h1 a1 f1 A1)) (wX0 G h0 a0 r.2.1 r.1 ++ (wX7 G h1 a1 r.2.2 A1))) ∧ (∀ (l : Launch) (G : Gp) (h0 : Nat) (a0 : Nat → Nat) (h1 : Nat) (a1 : Nat → Nat) (f0 : Nat → Int32) (A0 : Nat → Nat → Int32) (f1 : Nat → Int32) (A1 : Nat → Nat → Int32) (p2 : Int32), ∀ {r : (Nat → Nat → Int32) × (Nat → Int32) × (Nat → Int32)}, f0_items_rec d 1 f0 A0 f1 A1 p2 = some r → CtrV l yX0_item cX0_item 7 none (rmGX0_items d) G [.ref h0, .ref h1, .int p2] (wX0 G h0 a0 f0 A0 ++ (wX7 G h1 a1 f1 A1)) (wX0 G h0 a0 r.2.1 r.1 ++ (wX7 G h1 a1 r.2.2 A1))) ∧ (∀ (l : Launch) (G : Gp) (h0 : Nat) (a0 : Nat → Nat) (h1 : Nat) (a1 : Nat → Nat) (f0 : Nat → Int32) (A0 : Nat → Nat → Int32) (f1 : Nat → Int32) (A1 : Nat → Nat → Int32) (p2 : Int32), ∀ {r : (Nat → Nat → Int32) × (Nat → Int32) × (Nat → Int32)}, f0_items_rec d 2 f0 A0 f1 A1 p2 = some r → CtrV l yX0_group cX0_group 3 none (rmGX0_items d) G [.ref h0, .ref h1, .int p2] (wX0 G h0 a0 f0 A0 ++ (wX7 G h1 a1 f1 A1)) (wX0 G h0 a0 r.2.1 r.1 ++ (wX7 G h1 a1 r.2.2 A1))) := by
  intro d
  induction d with
  | zero => exact ⟨fun _ _ _ _ _ _ _ _ _ _ _ r h => (by cases h), fun _ _ _ _ _ _ _ _ _ _ _ r h => (by cases h), fun _ _ _ _ _ _ _ _ _ _ _ r h => (by cases h)⟩
  | succ d ih =>
    obtain ⟨h0, h1, h2⟩ := ih
    exact ⟨fun l G v0 v1 v2 v3 v4 v5 v6 v7 v8 r h => ko_X0_items h0 h1 h2 trivial l G v0 v1 v2 v3 v4 v5 v6 v7 v8 h, fun l G v0 v1 v2 v3 v4 v5 v6 v7 v8 r h => ko_X0_item h0 h1 h2 trivial l G v0 v1 v2 v3 v4 v5 v6 v7 v8 h, fun l G v0 v1 v2 v3 v4 v5 v6 v7 v8 r h => ko_X0_group h0 h1 h2 trivial l G v0 v1 v2 v3 v4 v5 v6 v7 v8 h⟩
theorem kt_X0_items (d : Nat) : ∀ (l : Launch) (G : Gp) (h0 : Nat) (a0 : Nat → Nat) (h1 : Nat) (a1 : Nat → Nat) (f0 : Nat → Int32) (A0 : Nat → Nat → Int32) (f1 : Nat → Int32) (A1 : Nat → Nat → Int32) (p2 : Int32), ∀ {r : (Nat → Nat → Int32) × (Nat → Int32) × (Nat → Int32)}, f0_items_rec d 0 f0 A0 f1 A1 p2 = some r → CtrV l yX0_items cX0_items 5 none (rmGX0_items d) G [.ref h0, .ref h1, .int p2] (wX0 G h0 a0 f0 A0 ++ (wX7 G h1 a1 f1 A1)) (wX0 G h0 a0 r.2.1 r.1 ++ (wX7 G h1 a1 r.2.2 A1)) := (kg_X0_items d).1
theorem kt_X0_item (d : Nat) : ∀ (l : Launch) (G : Gp) (h0 : Nat) (a0 : Nat → Nat) (h1 : Nat) (a1 : Nat → Nat) (f0 : Nat → Int32) (A0 : Nat → Nat → Int32) (f1 : Nat → Int32) (A1 : Nat → Nat → Int32) (p2 : Int32), ∀ {r : (Nat → Nat → Int32) × (Nat → Int32) × (Nat → Int32)}, f0_items_rec d 1 f0 A0 f1 A1 p2 = some r → CtrV l yX0_item cX0_item 7 none (rmGX0_items d) G [.ref h0, .ref h1, .int p2] (wX0 G h0 a0 f0 A0 ++ (wX7 G h1 a1 f1 A1)) (wX0 G h0 a0 r.2.1 r.1 ++ (wX7 G h1 a1 r.2.2 A1)) := (kg_X0_items d).2.1
theorem kt_X0_group (d : Nat) : ∀ (l : Launch) (G : Gp) (h0 : Nat) (a0 : Nat → Nat) (h1 : Nat) (a1 : Nat → Nat) (f0 : Nat → Int32) (A0 : Nat → Nat → Int32) (f1 : Nat → Int32) (A1 : Nat → Nat → Int32) (p2 : Int32), ∀ {r : (Nat → Nat → Int32) × (Nat → Int32) × (Nat → Int32)}, f0_items_rec d 2 f0 A0 f1 A1 p2 = some r → CtrV l yX0_group cX0_group 3 none (rmGX0_items d) G [.ref h0, .ref h1, .int p2] (wX0 G h0 a0 f0 A0 ++ (wX7 G h1 a1 f1 A1)) (wX0 G h0 a0 r.2.1 r.1 ++ (wX7 G h1 a1 r.2.2 A1)) := (kg_X0_items d).2.2
abbrev rmX0_read : Room := { frames := 68, cells := 0, slots := 0, locals := 1752 }
set_option maxRecDepth 100000 in
set_option maxHeartbeats 4000000 in
theorem kt_X0_read (l : Launch) (G : Gp) (h0 : Nat) (a0 : Nat → Nat) (h1 : Nat) (a1 : Nat → Nat) (f0 : Nat → Int32) (A0 : Nat → Nat → Int32) (f1 : Nat → Int32) (A1 : Nat → Nat → Int32) : ∀ {r : (Nat → Nat → Int32) × (Nat → Int32) × (Nat → Int32)}, f0_read f0 A0 f1 A1 = some r → CtrV l yX0_read cX0_read 2 none rmX0_read G [.ref h0, .ref h1] (wX0 G h0 a0 f0 A0 ++ (wX7 G h1 a1 f1 A1)) (wX0 G h0 a0 r.2.1 r.1 ++ (wX7 G h1 a1 r.2.2 A1)) := by
  intro res h
  refine ctrV_of (cc := cX0_read) (maxL := 2) (ret := none) (by decide +kernel) rfl (Nat.le_of_ble_eq_true rfl) (fun p e s m below meth c DA C0 hP hD ls hl => ?_)
  have hPD : WD G DA (wX0 G h0 a0 f0 A0 ++ (wX7 G h1 a1 f1 A1)) s.heap := ⟨hP, hD⟩
  have hS : va_S DA s.heap s.heap [] := va_S.rf
  have hl : lv_has ls 2 [(0, .ref h0), (1, .ref h1)] := hl
  obtain ⟨hx, hb, hml, hown, hts⟩ := C0.1
  have hK := C0.2.2.2.1
  unfold f0_read at h
  refine lv_aload_n hx hb dX0_read_0 rfl (lv_at hl 0 rfl) ?_
  refine lv_iconst (v := 0) hx hb dX0_read_1 (by decide) ?_
  refine va_put (D := G.1) (ci := 0) (v := .int 0) (ty := .int) (C := RX0) (T := TX0) (N := 2) hx hb hts inlX0 tyX0 tyX0_ok nmX0 hown hK hPD.1 hPD.2 hS 0 rfl rfl 1 (by decide) (hts _ gw_0) (fun _ h9 => h9) rfl (by decide +kernel) rfl rfl (Nat.le_of_ble_eq_true rfl) dX0_read_2 (fun H locs hP hD hS => ?_)
  obtain ⟨f0_1, ef0_1, h⟩ := lvl h
  have hPD : WD G DA (wX0 G h0 a0 f0_1 A0 ++ (wX7 G h1 a1 f1 A1)) H := by rw [ef0_1]; exact ⟨hP, hD⟩
  clear ef0_1 hP hD
  refine lv_aload_n hx hb dX0_read_5 rfl (lv_at hl 0 rfl) ?_
  refine lv_aload_n hx hb dX0_read_6 rfl (lv_at hl 1 rfl) ?_
  refine lv_iconst (v := 0) hx hb dX0_read_7 (by decide) ?_
  obtain ⟨q_2, hq_2, h⟩ := ob2 h
  refine kVV (As := [.ref h1, .int 0]) (rest := []) C0 (kt_X0_items 64 l G h0 a0 h1 a1 f0_1 A0 f1 A1 0 hq_2) gi_V_X0_29_X0_items (n := 2) rfl (by decide +kernel) rfl ⟨rfl, rfl, Nat.le_of_ble_eq_true rfl, Nat.le_of_ble_eq_true rfl⟩ hPD hS 0 0 rfl rfl rfl [0, 1, 2, 3] [] [0, 1, 2, 3] (wr := ([] : va_W)) (wN := (wX0 G h0 a0 q_2.2.1 q_2.1 ++ (wX7 G h1 a1 q_2.2.2 A1))) rfl rfl rfl rfl rfl hl.1 (Nat.le_of_ble_eq_true rfl) dX0_read_8 (fun H locs hPD hS => ?_)
  refine lv_aload_n hx hb dX0_read_11 rfl (lv_at hl 1 rfl) ?_
  refine kVI (As := []) (rest := []) C0 (kt_X7_isFine l G h1 a1 q_2.2.2 A1) gi_V_X0_33_X7_isFine (n := 0) rfl (by decide +kernel) rfl ⟨rfl, rfl, Nat.le_of_ble_eq_true rfl, Nat.le_of_ble_eq_true rfl⟩ hPD hS 2 7 rfl rfl rfl [2, 3] [0, 1] [0, 1, 2, 3] (wr := (wX0 G h0 a0 q_2.2.1 q_2.1)) (wN := (wX0 G h0 a0 q_2.2.1 q_2.1 ++ (wX7 G h1 a1 q_2.2.2 A1))) rfl rfl rfl rfl rfl hl.1 (Nat.le_of_ble_eq_true rfl) dX0_read_12 (fun H locs hPD hS => ?_)
  refine lv_if_eq (tgt := 31) hx hb dX0_read_15 (by decide) (fun cc1 => ?_) (fun cc1 => ?_)
  · have h := (if_pos cc1).symm.trans h
    obtain rfl := Option.some.inj h
    exact eV C0 hPD.1 hPD.2 hS dX0_read_31
  · have h := (if_neg cc1).symm.trans h
    refine lv_aload_n hx hb dX0_read_18 rfl (lv_at hl 1 rfl) ?_
    refine kVI (As := []) (rest := []) C0 (kt_X7_look l G h1 a1 q_2.2.2 A1) gi_V_X0_39_X7_look (n := 0) rfl (by decide +kernel) rfl ⟨rfl, rfl, Nat.le_of_ble_eq_true rfl, Nat.le_of_ble_eq_true rfl⟩ hPD hS 2 7 rfl rfl rfl [2, 3] [0, 1] [0, 1, 2, 3] (wr := (wX0 G h0 a0 q_2.2.1 q_2.1)) (wN := (wX0 G h0 a0 q_2.2.1 q_2.1 ++ (wX7 G h1 a1 q_2.2.2 A1))) rfl rfl rfl rfl rfl hl.1 (Nat.le_of_ble_eq_true rfl) dX0_read_19 (fun H locs hPD hS => ?_)
    refine lv_iconst (v := (-1)) hx hb dX0_read_22 (by decide) ?_
    refine lv_icmp_eq (tgt := 31) hx hb dX0_read_23 (by decide) (fun cc1 => ?_) (fun cc1 => ?_)
    · have h := (if_pos cc1).symm.trans h
      obtain rfl := Option.some.inj h
      exact eV C0 hPD.1 hPD.2 hS dX0_read_31
    · have h := (if_neg cc1).symm.trans h
      refine lv_aload_n hx hb dX0_read_26 rfl (lv_at hl 1 rfl) ?_
      refine lv_iconst (v := 1) hx hb dX0_read_27 (by decide) ?_
      obtain ⟨z_3, ez_3, h⟩ := lvl h
      have kc := kt_X7_fail l G h1 a1 q_2.2.2 A1 1
      rw [← ez_3] at kc
      clear ez_3
      refine kVV (As := [.int 1]) (rest := []) C0 (kc) gi_V_X0_43_X7_fail (n := 1) rfl (by decide +kernel) rfl ⟨rfl, rfl, Nat.le_of_ble_eq_true rfl, Nat.le_of_ble_eq_true rfl⟩ hPD hS 2 7 rfl rfl rfl [2, 3] [0, 1] [0, 1, 2, 3] (wr := (wX0 G h0 a0 q_2.2.1 q_2.1)) (wN := (wX0 G h0 a0 q_2.2.1 q_2.1 ++ (wX7 G h1 a1 z_3 A1))) rfl rfl rfl rfl rfl hl.1 (Nat.le_of_ble_eq_true rfl) dX0_read_28 (fun H locs hPD hS => ?_)
      obtain rfl := Option.some.inj h
      exact eV C0 hPD.1 hPD.2 hS dX0_read_31
end WALK
