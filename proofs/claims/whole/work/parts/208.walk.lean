section WALK
variable {p : Program} {l : Launch} {e : Env} {s : State} {m : MethodId} {args : Array Value} {below : List Frame} {meth : Method} {c : Code} {G : Gp} {DA : Nat → Prop}
abbrev rmX2_joined : Room := { frames := 0, cells := 0, slots := 0, locals := 0 }
set_option maxRecDepth 100000 in
set_option maxHeartbeats 4000000 in
theorem ww_f2_joined_b23  (C0 : Cx cX2_joined 4 (some .int) RX2 p s m args meth c G DA) {h0 : Nat} {a0 : Nat → Nat} {A0 : Nat → Nat → Int32} {p1 : Int32} {p2 : Int32} {p3 : Int32}   {res : Int32 × (Nat → Int32)}  : ∀ (f0 : Nat → Int32), f2_joined_b23 A0 p1 p2 p3  f0 = some res → ∀ (H : Heap) (locs : List Loc) (ls : Array Slot), WD G DA (wX2 G h0 a0 f0 A0) H → va_S DA s.heap H locs → lv_has ls 4 [(0, .ref h0), (1, .int p1), (2, .int p2), (3, .int p3)] → W p l e rmX2_joined s m args below meth c H locs 0 0 (MQ below (QI G DA res.1 (wX2 G h0 a0 res.2 A0)) args s 0 0 DA) (F0 m 23 ls []) := by
  obtain ⟨hx, hb, hml, hown, hts⟩ := C0.1
  have hK := C0.2.2.2.1
  intro f0 h _ _ _ hPD hS hl
  unfold f2_joined_b23 at h
  refine lv_iload_n hx hb dX2_joined_23 rfl (lv_at hl 1 rfl) ?_
  by_cases cc37 : p1 = 37
  · have h := (if_pos cc37).symm.trans h
    refine lv_swT (tgt := 201) (k := 37) hx hb dX2_joined_24 cc37 (by decide) (by decide) ?_
    refine lv_iload_n hx hb dX2_joined_201 rfl (lv_at hl 3 rfl) ?_
    refine lv_if_ne (tgt := 209) hx hb dX2_joined_202 (by decide) (fun cc1 => ?_) (fun cc1 => ?_)
    · have h := (if_neg cc1).symm.trans h
      refine lv_iload_n hx hb dX2_joined_209 rfl (lv_at hl 2 rfl) ?_
      refine lv_iload_n hx hb dX2_joined_210 rfl (lv_at hl 3 rfl) ?_
      obtain ⟨hz, h⟩ := ob h
      refine lv_irem hx hb dX2_joined_211 hz ?_
      obtain rfl := Option.some.inj h
      exact eI C0 hPD.1 hPD.2 hS rfl dX2_joined_212
    · have h := (if_pos cc1).symm.trans h
      refine lv_iconst (v := 0) hx hb dX2_joined_205 (by decide) ?_
      refine lv_goto (tgt := 212) hx hb dX2_joined_206 (by decide) ?_
      obtain rfl := Option.some.inj h
      exact eI C0 hPD.1 hPD.2 hS rfl dX2_joined_212
  have h := (if_neg cc37).symm.trans h
  by_cases cc42 : p1 = 42
  · have h := (if_pos cc42).symm.trans h
    refine lv_swT (tgt := 185) (k := 42) hx hb dX2_joined_24 cc42 (by decide) (by decide) ?_
    refine lv_iload_n hx hb dX2_joined_185 rfl (lv_at hl 2 rfl) ?_
    refine lv_iload_n hx hb dX2_joined_186 rfl (lv_at hl 3 rfl) ?_
    refine lv_imul hx hb dX2_joined_187 ?_
    obtain rfl := Option.some.inj h
    exact eI C0 hPD.1 hPD.2 hS rfl dX2_joined_188
  have h := (if_neg cc42).symm.trans h
  by_cases cc43 : p1 = 43
  · have h := (if_pos cc43).symm.trans h
    refine lv_swT (tgt := 177) (k := 43) hx hb dX2_joined_24 cc43 (by decide) (by decide) ?_
    refine lv_iload_n hx hb dX2_joined_177 rfl (lv_at hl 2 rfl) ?_
    refine lv_iload_n hx hb dX2_joined_178 rfl (lv_at hl 3 rfl) ?_
    refine lv_iadd hx hb dX2_joined_179 ?_
    obtain rfl := Option.some.inj h
    exact eI C0 hPD.1 hPD.2 hS rfl dX2_joined_180
  have h := (if_neg cc43).symm.trans h
  by_cases cc45 : p1 = 45
  · have h := (if_pos cc45).symm.trans h
    refine lv_swT (tgt := 181) (k := 45) hx hb dX2_joined_24 cc45 (by decide) (by decide) ?_
    refine lv_iload_n hx hb dX2_joined_181 rfl (lv_at hl 2 rfl) ?_
    refine lv_iload_n hx hb dX2_joined_182 rfl (lv_at hl 3 rfl) ?_
    refine lv_isub hx hb dX2_joined_183 ?_
    obtain rfl := Option.some.inj h
    exact eI C0 hPD.1 hPD.2 hS rfl dX2_joined_184
  have h := (if_neg cc45).symm.trans h
  by_cases cc47 : p1 = 47
  · have h := (if_pos cc47).symm.trans h
    refine lv_swT (tgt := 189) (k := 47) hx hb dX2_joined_24 cc47 (by decide) (by decide) ?_
    refine lv_iload_n hx hb dX2_joined_189 rfl (lv_at hl 3 rfl) ?_
    refine lv_if_ne (tgt := 197) hx hb dX2_joined_190 (by decide) (fun cc1 => ?_) (fun cc1 => ?_)
    · have h := (if_neg cc1).symm.trans h
      refine lv_iload_n hx hb dX2_joined_197 rfl (lv_at hl 2 rfl) ?_
      refine lv_iload_n hx hb dX2_joined_198 rfl (lv_at hl 3 rfl) ?_
      obtain ⟨hz, h⟩ := ob h
      refine lv_idiv hx hb dX2_joined_199 hz ?_
      obtain rfl := Option.some.inj h
      exact eI C0 hPD.1 hPD.2 hS rfl dX2_joined_200
    · have h := (if_pos cc1).symm.trans h
      refine lv_iconst (v := 0) hx hb dX2_joined_193 (by decide) ?_
      refine lv_goto (tgt := 200) hx hb dX2_joined_194 (by decide) ?_
      obtain rfl := Option.some.inj h
      exact eI C0 hPD.1 hPD.2 hS rfl dX2_joined_200
  have h := (if_neg cc47).symm.trans h
  by_cases cc60 : p1 = 60
  · have h := (if_pos cc60).symm.trans h
    refine lv_swT (tgt := 144) (k := 60) hx hb dX2_joined_24 cc60 (by decide) (by decide) ?_
    refine lv_iload_n hx hb dX2_joined_144 rfl (lv_at hl 2 rfl) ?_
    refine lv_iload_n hx hb dX2_joined_145 rfl (lv_at hl 3 rfl) ?_
    refine lv_icmp_ge (tgt := 153) hx hb dX2_joined_146 (by decide) (fun cc1 => ?_) (fun cc1 => ?_)
    · have h := (if_pos cc1).symm.trans h
      refine lv_iconst (v := 0) hx hb dX2_joined_153 (by decide) ?_
      obtain rfl := Option.some.inj h
      exact eI C0 hPD.1 hPD.2 hS rfl dX2_joined_154
    · have h := (if_neg cc1).symm.trans h
      refine lv_iconst (v := 1) hx hb dX2_joined_149 (by decide) ?_
      refine lv_goto (tgt := 154) hx hb dX2_joined_150 (by decide) ?_
      obtain rfl := Option.some.inj h
      exact eI C0 hPD.1 hPD.2 hS rfl dX2_joined_154
  have h := (if_neg cc60).symm.trans h
  by_cases cc61 : p1 = 61
  · have h := (if_pos cc61).symm.trans h
    refine lv_swT (tgt := 166) (k := 61) hx hb dX2_joined_24 cc61 (by decide) (by decide) ?_
    refine lv_iload_n hx hb dX2_joined_166 rfl (lv_at hl 2 rfl) ?_
    refine lv_iload_n hx hb dX2_joined_167 rfl (lv_at hl 3 rfl) ?_
    refine lv_icmp_ne (tgt := 175) hx hb dX2_joined_168 (by decide) (fun cc1 => ?_) (fun cc1 => ?_)
    · have h := (if_neg cc1).symm.trans h
      refine lv_iconst (v := 0) hx hb dX2_joined_175 (by decide) ?_
      obtain rfl := Option.some.inj h
      exact eI C0 hPD.1 hPD.2 hS rfl dX2_joined_176
    · have h := (if_pos cc1).symm.trans h
      refine lv_iconst (v := 1) hx hb dX2_joined_171 (by decide) ?_
      refine lv_goto (tgt := 176) hx hb dX2_joined_172 (by decide) ?_
      obtain rfl := Option.some.inj h
      exact eI C0 hPD.1 hPD.2 hS rfl dX2_joined_176
  have h := (if_neg cc61).symm.trans h
  by_cases cc62 : p1 = 62
  · have h := (if_pos cc62).symm.trans h
    refine lv_swT (tgt := 155) (k := 62) hx hb dX2_joined_24 cc62 (by decide) (by decide) ?_
    refine lv_iload_n hx hb dX2_joined_155 rfl (lv_at hl 2 rfl) ?_
    refine lv_iload_n hx hb dX2_joined_156 rfl (lv_at hl 3 rfl) ?_
    refine lv_icmp_le (tgt := 164) hx hb dX2_joined_157 (by decide) (fun cc1 => ?_) (fun cc1 => ?_)
    · have h := (if_pos cc1).symm.trans h
      refine lv_iconst (v := 0) hx hb dX2_joined_164 (by decide) ?_
      obtain rfl := Option.some.inj h
      exact eI C0 hPD.1 hPD.2 hS rfl dX2_joined_165
    · have h := (if_neg cc1).symm.trans h
      refine lv_iconst (v := 1) hx hb dX2_joined_160 (by decide) ?_
      refine lv_goto (tgt := 165) hx hb dX2_joined_161 (by decide) ?_
      obtain rfl := Option.some.inj h
      exact eI C0 hPD.1 hPD.2 hS rfl dX2_joined_165
  have h := (if_neg cc62).symm.trans h
  refine lv_swTD (tgt := 213) (ks := [37, 42, 43, 45, 47, 60, 61, 62]) hx hb dX2_joined_24 (by decide) (by decide) ⟨cc37, cc42, cc43, cc45, cc47, cc60, cc61, cc62, trivial⟩ (by decide) ?_
  refine lv_iload_n hx hb dX2_joined_213 rfl (lv_at hl 2 rfl) ?_
  obtain rfl := Option.some.inj h
  exact eI C0 hPD.1 hPD.2 hS rfl dX2_joined_214
set_option maxRecDepth 100000 in
set_option maxHeartbeats 4000000 in
theorem kt_X2_joined (l : Launch) (G : Gp) (h0 : Nat) (a0 : Nat → Nat) (f0 : Nat → Int32) (A0 : Nat → Nat → Int32) (p1 : Int32) (p2 : Int32) (p3 : Int32) : ∀ {r : Int32 × (Nat → Int32)}, f2_joined f0 A0 p1 p2 p3 = some r → CtrI l yX2_joined cX2_joined 4 (some .int) rmX2_joined G [.ref h0, .int p1, .int p2, .int p3] (wX2 G h0 a0 f0 A0) r.1 (wX2 G h0 a0 r.2 A0) := by
  intro res h
  refine ctrI_of (cc := cX2_joined) (maxL := 4) (ret := (some .int)) (by decide +kernel) rfl (Nat.le_of_ble_eq_true rfl) (fun p e s m below meth c DA C0 hP hD ls hl => ?_)
  have hPD : WD G DA (wX2 G h0 a0 f0 A0) s.heap := ⟨hP, hD⟩
  have hS : va_S DA s.heap s.heap [] := va_S.rf
  have hl : lv_has ls 4 [(0, .ref h0), (1, .int p1), (2, .int p2), (3, .int p3)] := hl
  obtain ⟨hx, hb, hml, hown, hts⟩ := C0.1
  have hK := C0.2.2.2.1
  unfold f2_joined at h
  refine lv_iload_n hx hb dX2_joined_0 rfl (lv_at hl 3 rfl) ?_
  refine lv_if_ne (tgt := 23) hx hb dX2_joined_1 (by decide) (fun cc1 => ?_) (fun cc1 => ?_)
  · have h := (if_neg cc1).symm.trans h
    exact ww_f2_joined_b23 C0 f0 h _ _ _ hPD hS (lv_sub hl [0, 1, 2, 3] rfl)
  · have h := (if_pos cc1).symm.trans h
    refine lv_iload_n hx hb dX2_joined_4 rfl (lv_at hl 1 rfl) ?_
    refine lv_bipush (v := 47) hx hb dX2_joined_5 (by decide) ?_
    refine lv_icmp_eq (tgt := 16) hx hb dX2_joined_7 (by decide) (fun cc1 => ?_) (fun cc1 => ?_)
    · have h := (if_pos cc1).symm.trans h
      refine lv_aload_n hx hb dX2_joined_16 rfl (lv_at hl 0 rfl) ?_
      refine lv_iconst (v := 1) hx hb dX2_joined_17 (by decide) ?_
      refine va_put (D := G.1) (ci := 2) (v := .int 1) (ty := .boolean) (C := RX2) (T := TX2) (N := 10) hx hb hts inlX2 tyX2 tyX2_ok nmX2 hown hK hPD.1 hPD.2 hS 0 rfl rfl 8 (by decide) (hts _ gw_194) (fun _ h9 => h9) rfl (by decide +kernel) rfl rfl (Nat.le_of_ble_eq_true rfl) dX2_joined_18 (fun H locs hP hD hS => ?_)
      obtain ⟨f0_1, ef0_1, h⟩ := lvl h
      have hPD : WD G DA (wX2 G h0 a0 f0_1 A0) H := by rw [ef0_1]; exact ⟨hP, hD⟩
      clear ef0_1 hP hD
      refine lv_iconst (v := 0) hx hb dX2_joined_21 (by decide) ?_
      obtain rfl := Option.some.inj h
      exact eI C0 hPD.1 hPD.2 hS rfl dX2_joined_22
    · have h := (if_neg cc1).symm.trans h
      refine lv_iload_n hx hb dX2_joined_10 rfl (lv_at hl 1 rfl) ?_
      refine lv_bipush (v := 37) hx hb dX2_joined_11 (by decide) ?_
      refine lv_icmp_ne (tgt := 23) hx hb dX2_joined_13 (by decide) (fun cc1 => ?_) (fun cc1 => ?_)
      · have h := (if_neg cc1).symm.trans h
        exact ww_f2_joined_b23 C0 f0 h _ _ _ hPD hS (lv_sub hl [0, 1, 2, 3] rfl)
      · have h := (if_pos cc1).symm.trans h
        refine lv_aload_n hx hb dX2_joined_16 rfl (lv_at hl 0 rfl) ?_
        refine lv_iconst (v := 1) hx hb dX2_joined_17 (by decide) ?_
        refine va_put (D := G.1) (ci := 2) (v := .int 1) (ty := .boolean) (C := RX2) (T := TX2) (N := 10) hx hb hts inlX2 tyX2 tyX2_ok nmX2 hown hK hPD.1 hPD.2 hS 0 rfl rfl 8 (by decide) (hts _ gw_194) (fun _ h9 => h9) rfl (by decide +kernel) rfl rfl (Nat.le_of_ble_eq_true rfl) dX2_joined_18 (fun H locs hP hD hS => ?_)
        obtain ⟨f0_2, ef0_2, h⟩ := lvl h
        have hPD : WD G DA (wX2 G h0 a0 f0_2 A0) H := by rw [ef0_2]; exact ⟨hP, hD⟩
        clear ef0_2 hP hD
        refine lv_iconst (v := 0) hx hb dX2_joined_21 (by decide) ?_
        obtain rfl := Option.some.inj h
        exact eI C0 hPD.1 hPD.2 hS rfl dX2_joined_22
abbrev rmX2_reckoned : Room := { frames := 1, cells := 0, slots := 0, locals := 23 }
set_option maxRecDepth 100000 in
set_option maxHeartbeats 4000000 in
theorem ww_f2_reckoned_b261  (C0 : Cx cX2_reckoned 11 (some .int) RX2 p s m args meth c G DA) {h0 : Nat} {a0 : Nat → Nat} {q1 : Nat} {n1 : Nat} {xs1 : Nat → Int32} {p1 : Int32} {p2 : Int32} (hn1 : n1 < 2147483648)  {res : Int32 × (Nat → Nat → Int32) × (Nat → Int32)}  : ∀ (A0 : Nat → Nat → Int32) (f0 : Nat → Int32) (l4 : Int32), f2_reckoned_b261 n1 xs1 p1 p2  A0 f0 l4 = some res → ∀ (H : Heap) (locs : List Loc) (ls : Array Slot), WD G DA (wX2 G h0 a0 f0 A0 ++ (wI G q1 n1 xs1)) H → va_S DA s.heap H locs → lv_has ls 11 [(0, .ref h0), (1, .int p1), (2, .int p2), (3, .ref q1), (4, .int l4)] → W p l e rmX2_reckoned s m args below meth c H locs 0 0 (MQ below (QI G DA res.1 (wX2 G h0 a0 res.2.2 res.2.1 ++ (wI G q1 n1 xs1))) args s 0 0 DA) (F0 m 261 ls []) := by
  obtain ⟨hx, hb, hml, hown, hts⟩ := C0.1
  have hK := C0.2.2.2.1
  intro A0 f0 l4 h _ _ _ hPD hS hl
  unfold f2_reckoned_b261 at h
  refine lv_aload_n hx hb dX2_reckoned_261 rfl (lv_at hl 0 rfl) ?_
  refine va_get (D := G.1) (ci := 2) (v := .int (f0 8)) (C := RX2) (T := TX2) (N := 10) hx hb hts inlX2 hown hK hPD.1 0 rfl rfl 8 (by decide) (hts _ gw_194) (fun _ h9 => h9) rfl dX2_reckoned_262 ?_
  refine lv_if_eq (tgt := 272) hx hb dX2_reckoned_265 (by decide) (fun cc1 => ?_) (fun cc1 => ?_)
  · have h := (if_pos cc1).symm.trans h
    refine lv_aload_n hx hb dX2_reckoned_272 rfl (lv_at hl 0 rfl) ?_
    refine va_get (D := G.1) (ci := 2) (v := .ref (a0 6)) (C := RX2) (T := TX2) (N := 10) hx hb hts inlX2 hown hK hPD.1 0 rfl rfl 6 (by decide) (hts _ gw_195) (fun _ h9 => h9) rfl dX2_reckoned_273 ?_
    refine lv_iload hx hb dX2_reckoned_276 (lv_at hl 4 rfl) ?_
    refine lv_iconst (v := 1) hx hb dX2_reckoned_278 (by decide) ?_
    refine lv_isub hx hb dX2_reckoned_279 ?_
    refine kNI (As := [.ref (a0 6), .int (l4 - 1)]) (rest := []) C0 (kt_X9_at l G (a0 6) 240 (A0 6) (l4 - 1) (by decide)) gi_U_X9_at (host := "IdleCrimes") (index := 113) (List.mem_of_getElem? (i := 28) rfl) gw_6 gw_7 (n := 2) rfl (by decide +kernel) ⟨rfl, rfl, Nat.le_of_ble_eq_true rfl, Nat.le_of_ble_eq_true rfl⟩ hPD hS [7] [0, 1, 2, 3, 4, 5, 6, 8] [0, 1, 2, 3, 4, 5, 6, 8, 7] (wr := pick (wX2 G h0 a0 f0 A0 ++ (wI G q1 n1 xs1)) [0, 1, 2, 3, 4, 5, 6, 8]) (wN := (wX2 G h0 a0 f0 A0 ++ (wI G q1 n1 xs1))) rfl rfl rfl rfl rfl hl.1 (Nat.le_of_ble_eq_true rfl) dX2_reckoned_280 (fun H locs hPD hS => ?_)
    obtain rfl := Option.some.inj h
    exact eI C0 hPD.1 hPD.2 hS rfl dX2_reckoned_283
  · have h := (if_neg cc1).symm.trans h
    refine lv_iconst (v := 0) hx hb dX2_reckoned_268 (by decide) ?_
    refine lv_goto (tgt := 283) hx hb dX2_reckoned_269 (by decide) ?_
    obtain rfl := Option.some.inj h
    exact eI C0 hPD.1 hPD.2 hS rfl dX2_reckoned_283
set_option maxRecDepth 100000 in
set_option maxHeartbeats 4000000 in
theorem ww_f2_reckoned_b108  (C0 : Cx cX2_reckoned 11 (some .int) RX2 p s m args meth c G DA) {h0 : Nat} {a0 : Nat → Nat} {q1 : Nat} {n1 : Nat} {xs1 : Nat → Int32} {p1 : Int32} {p2 : Int32} (hn1 : n1 < 2147483648) {k14 : (Nat → Nat → Int32) → (Nat → Int32) → Int32 → Int32 → Int32 → Option (Int32 × (Nat → Nat → Int32) × (Nat → Int32))} {res : Int32 × (Nat → Nat → Int32) × (Nat → Int32)} (hk14 : ∀ (A0 : Nat → Nat → Int32) (f0 : Nat → Int32) (l4 : Int32) (l5 : Int32) (l6 : Int32), k14 A0 f0 l4 l5 l6 = some res → ∀ (H : Heap) (locs : List Loc) (ls : Array Slot), WD G DA (wX2 G h0 a0 f0 A0 ++ (wI G q1 n1 xs1)) H → va_S DA s.heap H locs → lv_has ls 11 [(0, .ref h0), (1, .int p1), (2, .int p2), (3, .ref q1), (4, .int l4), (5, .int l5), (6, .int l6)] → W p l e rmX2_reckoned s m args below meth c H locs 0 0 (MQ below (QI G DA res.1 (wX2 G h0 a0 res.2.2 res.2.1 ++ (wI G q1 n1 xs1))) args s 0 0 DA) (F0 m 14 ls [])) : ∀ (A0 : Nat → Nat → Int32) (f0 : Nat → Int32) (l4 : Int32) (l5 : Int32) (l6 : Int32) (s0 : Int32) (s1 : Int32), f2_reckoned_b108 n1 xs1 p1 p2 k14 A0 f0 l4 l5 l6 s0 s1 = some res → ∀ (H : Heap) (locs : List Loc) (ls : Array Slot), WD G DA (wX2 G h0 a0 f0 A0 ++ (wI G q1 n1 xs1)) H → va_S DA s.heap H locs → lv_has ls 11 [(0, .ref h0), (1, .int p1), (2, .int p2), (3, .ref q1), (4, .int l4), (5, .int l5), (6, .int l6)] → W p l e rmX2_reckoned s m args below meth c H locs 0 0 (MQ below (QI G DA res.1 (wX2 G h0 a0 res.2.2 res.2.1 ++ (wI G q1 n1 xs1))) args s 0 0 DA) (F0 m 108 ls [.int s0, .int s1, .ref (a0 6)]) := by
  obtain ⟨hx, hb, hml, hown, hts⟩ := C0.1
  have hK := C0.2.2.2.1
  intro A0 f0 l4 l5 l6 s0 s1 h _ _ _ hPD hS hl
  unfold f2_reckoned_b108 at h
  obtain ⟨z_2, ez_2, h⟩ := lvl h
  have kc := kt_X9_put l G (a0 6) 240 (A0 6) s1 s0 (by decide)
  rw [← ez_2] at kc
  clear ez_2
  refine kNV (As := [.ref (a0 6), .int s1, .int s0]) (rest := []) C0 (kc) gi_U_X9_put (host := "IdleCrimes") (index := 65) (List.mem_of_getElem? (i := 12) rfl) gw_6 gw_19 (n := 3) rfl (by decide +kernel) ⟨rfl, rfl, Nat.le_of_ble_eq_true rfl, Nat.le_of_ble_eq_true rfl⟩ hPD hS [7] [0, 1, 2, 3, 4, 5, 6, 8] [0, 1, 2, 3, 4, 5, 6, 8, 7] (wr := pick (wX2 G h0 a0 f0 A0 ++ (wI G q1 n1 xs1)) [0, 1, 2, 3, 4, 5, 6, 8]) (wN := (wX2 G h0 a0 f0 (updA A0 6 z_2) ++ (wI G q1 n1 xs1))) rfl rfl rfl rfl rfl hl.1 (Nat.le_of_ble_eq_true rfl) dX2_reckoned_108 (fun H locs hPD hS => ?_)
  obtain ⟨A0_3, eA0_3, h⟩ := lvl h
  have hPD : WD G DA (wX2 G h0 a0 f0 A0_3 ++ (wI G q1 n1 xs1)) H := by rw [eA0_3]; exact hPD
  clear eA0_3
  refine lv_iinc (v := l4 + 1) (lv' := [(4, .int (l4 + 1)), (0, .ref h0), (1, .int p1), (2, .int p2), (3, .ref q1), (5, .int l5), (6, .int l6)]) hx hb dX2_reckoned_111 hl (k := 4) rfl rfl (by decide) rfl (fun ls hl => ?_)
  refine lv_goto (tgt := 255) hx hb dX2_reckoned_114 (by decide) ?_
  refine lv_iinc (v := l6 + 1) (lv' := [(6, .int (l6 + 1)), (4, .int (l4 + 1)), (0, .ref h0), (1, .int p1), (2, .int p2), (3, .ref q1), (5, .int l5)]) hx hb dX2_reckoned_255 hl (k := 6) rfl rfl (by decide) rfl (fun ls hl => ?_)
  refine lv_goto (tgt := 14) hx hb dX2_reckoned_258 (by decide) ?_
  exact hk14 A0_3 f0 (l4 + 1) l5 (l6 + 1) h _ _ _ hPD hS (lv_sub hl [2, 3, 4, 5, 1, 6, 0] rfl)
set_option maxRecDepth 100000 in
set_option maxHeartbeats 4000000 in
theorem ww_f2_reckoned_b85  (C0 : Cx cX2_reckoned 11 (some .int) RX2 p s m args meth c G DA) {h0 : Nat} {a0 : Nat → Nat} {q1 : Nat} {n1 : Nat} {xs1 : Nat → Int32} {p1 : Int32} {p2 : Int32} (hn1 : n1 < 2147483648) {k14 : (Nat → Nat → Int32) → (Nat → Int32) → Int32 → Int32 → Int32 → Option (Int32 × (Nat → Nat → Int32) × (Nat → Int32))} {res : Int32 × (Nat → Nat → Int32) × (Nat → Int32)} (hk14 : ∀ (A0 : Nat → Nat → Int32) (f0 : Nat → Int32) (l4 : Int32) (l5 : Int32) (l6 : Int32), k14 A0 f0 l4 l5 l6 = some res → ∀ (H : Heap) (locs : List Loc) (ls : Array Slot), WD G DA (wX2 G h0 a0 f0 A0 ++ (wI G q1 n1 xs1)) H → va_S DA s.heap H locs → lv_has ls 11 [(0, .ref h0), (1, .int p1), (2, .int p2), (3, .ref q1), (4, .int l4), (5, .int l5), (6, .int l6)] → W p l e rmX2_reckoned s m args below meth c H locs 0 0 (MQ below (QI G DA res.1 (wX2 G h0 a0 res.2.2 res.2.1 ++ (wI G q1 n1 xs1))) args s 0 0 DA) (F0 m 14 ls [])) : ∀ (A0 : Nat → Nat → Int32) (f0 : Nat → Int32) (l4 : Int32) (l5 : Int32) (l6 : Int32) (l7 : Int32) (l8 : Int32), f2_reckoned_b85 n1 xs1 p1 p2 k14 A0 f0 l4 l5 l6 l7 l8 = some res → ∀ (H : Heap) (locs : List Loc) (ls : Array Slot), WD G DA (wX2 G h0 a0 f0 A0 ++ (wI G q1 n1 xs1)) H → va_S DA s.heap H locs → lv_has ls 11 [(0, .ref h0), (1, .int p1), (2, .int p2), (3, .ref q1), (4, .int l4), (5, .int l5), (6, .int l6), (7, .int l7), (8, .int l8)] → W p l e rmX2_reckoned s m args below meth c H locs 0 0 (MQ below (QI G DA res.1 (wX2 G h0 a0 res.2.2 res.2.1 ++ (wI G q1 n1 xs1))) args s 0 0 DA) (F0 m 85 ls []) := by
  obtain ⟨hx, hb, hml, hown, hts⟩ := C0.1
  have hK := C0.2.2.2.1
  intro A0 f0 l4 l5 l6 l7 l8 h _ _ _ hPD hS hl
  unfold f2_reckoned_b85 at h
  refine lv_aload_n hx hb dX2_reckoned_85 rfl (lv_at hl 0 rfl) ?_
  refine va_get (D := G.1) (ci := 2) (v := .ref (a0 6)) (C := RX2) (T := TX2) (N := 10) hx hb hts inlX2 hown hK hPD.1 0 rfl rfl 6 (by decide) (hts _ gw_195) (fun _ h9 => h9) rfl dX2_reckoned_86 ?_
  refine lv_iload hx hb dX2_reckoned_89 (lv_at hl 4 rfl) ?_
  refine lv_iload hx hb dX2_reckoned_91 (lv_at hl 7 rfl) ?_
  refine lv_iconst (v := 1) hx hb dX2_reckoned_93 (by decide) ?_
  refine lv_icmp_ne (tgt := 102) hx hb dX2_reckoned_94 (by decide) (fun cc1 => ?_) (fun cc1 => ?_)
  · have h := (if_neg cc1).symm.trans h
    refine lv_aload_n hx hb dX2_reckoned_102 rfl (lv_at hl 3 rfl) ?_
    refine lv_iload hx hb dX2_reckoned_103 (lv_at hl 8 rfl) ?_
    refine kNI (As := [.ref q1, .int l8]) (rest := [.int l4, .ref (a0 6)]) C0 (kt_X9_at l G q1 n1 xs1 l8 hn1) gi_U_X9_at (host := "IdleCrimes") (index := 113) (List.mem_of_getElem? (i := 28) rfl) gw_6 gw_7 (n := 2) rfl (by decide +kernel) ⟨rfl, rfl, Nat.le_of_ble_eq_true rfl, Nat.le_of_ble_eq_true rfl⟩ hPD hS [8] [0, 1, 2, 3, 4, 5, 6, 7] [0, 1, 2, 3, 4, 5, 6, 7, 8] (wr := pick (wX2 G h0 a0 f0 A0 ++ (wI G q1 n1 xs1)) [0, 1, 2, 3, 4, 5, 6, 7]) (wN := (wX2 G h0 a0 f0 A0 ++ (wI G q1 n1 xs1))) rfl rfl rfl rfl rfl hl.1 (Nat.le_of_ble_eq_true rfl) dX2_reckoned_105 (fun H locs hPD hS => ?_)
    exact ww_f2_reckoned_b108 C0 hn1 hk14 A0 f0 l4 l5 l6 (f9_at n1 xs1 l8) l4 h _ _ _ hPD hS (lv_sub hl [0, 1, 2, 3, 4, 5, 6] rfl)
  · have h := (if_pos cc1).symm.trans h
    refine lv_iload hx hb dX2_reckoned_97 (lv_at hl 8 rfl) ?_
    refine lv_goto (tgt := 108) hx hb dX2_reckoned_99 (by decide) ?_
    exact ww_f2_reckoned_b108 C0 hn1 hk14 A0 f0 l4 l5 l6 l8 l4 h _ _ _ hPD hS (lv_sub hl [0, 1, 2, 3, 4, 5, 6] rfl)
set_option maxRecDepth 100000 in
set_option maxHeartbeats 4000000 in
theorem ww_f2_reckoned_b202  (C0 : Cx cX2_reckoned 11 (some .int) RX2 p s m args meth c G DA) {h0 : Nat} {a0 : Nat → Nat} {q1 : Nat} {n1 : Nat} {xs1 : Nat → Int32} {p1 : Int32} {p2 : Int32} (hn1 : n1 < 2147483648) {k14 : (Nat → Nat → Int32) → (Nat → Int32) → Int32 → Int32 → Int32 → Option (Int32 × (Nat → Nat → Int32) × (Nat → Int32))} {res : Int32 × (Nat → Nat → Int32) × (Nat → Int32)} (hk14 : ∀ (A0 : Nat → Nat → Int32) (f0 : Nat → Int32) (l4 : Int32) (l5 : Int32) (l6 : Int32), k14 A0 f0 l4 l5 l6 = some res → ∀ (H : Heap) (locs : List Loc) (ls : Array Slot), WD G DA (wX2 G h0 a0 f0 A0 ++ (wI G q1 n1 xs1)) H → va_S DA s.heap H locs → lv_has ls 11 [(0, .ref h0), (1, .int p1), (2, .int p2), (3, .ref q1), (4, .int l4), (5, .int l5), (6, .int l6)] → W p l e rmX2_reckoned s m args below meth c H locs 0 0 (MQ below (QI G DA res.1 (wX2 G h0 a0 res.2.2 res.2.1 ++ (wI G q1 n1 xs1))) args s 0 0 DA) (F0 m 14 ls [])) : ∀ (A0 : Nat → Nat → Int32) (f0 : Nat → Int32) (l5 : Int32) (l6 : Int32) (l8 : Int32) (l10 : Int32) (s0 : Int32) (s1 : Int32), f2_reckoned_b202 n1 xs1 p1 p2 k14 A0 f0 l5 l6 l8 l10 s0 s1 = some res → ∀ (H : Heap) (locs : List Loc) (ls : Array Slot), WD G DA (wX2 G h0 a0 f0 A0 ++ (wI G q1 n1 xs1)) H → va_S DA s.heap H locs → lv_has ls 11 [(0, .ref h0), (1, .int p1), (2, .int p2), (3, .ref q1), (5, .int l5), (6, .int l6), (8, .int l8), (10, .int l10)] → W p l e rmX2_reckoned s m args below meth c H locs 0 0 (MQ below (QI G DA res.1 (wX2 G h0 a0 res.2.2 res.2.1 ++ (wI G q1 n1 xs1))) args s 0 0 DA) (F0 m 202 ls [.int s0, .int s1]) := by
  obtain ⟨hx, hb, hml, hown, hts⟩ := C0.1
  have hK := C0.2.2.2.1
  intro A0 f0 l5 l6 l8 l10 s0 s1 h _ _ _ hPD hS hl
  unfold f2_reckoned_b202 at h
  refine lv_isub hx hb dX2_reckoned_202 ?_
  refine lv_istore (lv' := [(4, .int (s1 - s0)), (0, .ref h0), (1, .int p1), (2, .int p2), (3, .ref q1), (5, .int l5), (6, .int l6), (8, .int l8), (10, .int l10)]) hx hb dX2_reckoned_203 hl (by decide) rfl (fun ls hl => ?_)
  refine lv_iload hx hb dX2_reckoned_205 (lv_at hl 8 rfl) ?_
  refine lv_if_eq (tgt := 215) hx hb dX2_reckoned_207 (by decide) (fun cc1 => ?_) (fun cc1 => ?_)
  · have h := (if_pos cc1).symm.trans h
    refine lv_iload hx hb dX2_reckoned_215 (lv_at hl 7 rfl) ?_
    refine lv_istore (lv' := [(5, .int l8), (4, .int (s1 - s0)), (0, .ref h0), (1, .int p1), (2, .int p2), (3, .ref q1), (6, .int l6), (8, .int l8), (10, .int l10)]) hx hb dX2_reckoned_217 hl (by decide) rfl (fun ls hl => ?_)
    refine lv_goto (tgt := 255) hx hb dX2_reckoned_219 (by decide) ?_
    refine lv_iinc (v := l6 + 1) (lv' := [(6, .int (l6 + 1)), (5, .int l8), (4, .int (s1 - s0)), (0, .ref h0), (1, .int p1), (2, .int p2), (3, .ref q1), (8, .int l8), (10, .int l10)]) hx hb dX2_reckoned_255 hl (k := 6) rfl rfl (by decide) rfl (fun ls hl => ?_)
    refine lv_goto (tgt := 14) hx hb dX2_reckoned_258 (by decide) ?_
    exact hk14 A0 f0 (s1 - s0) l8 (l6 + 1) h _ _ _ hPD hS (lv_sub hl [3, 4, 5, 6, 2, 1, 0] rfl)
  · have h := (if_neg cc1).symm.trans h
    refine lv_iload hx hb dX2_reckoned_210 (lv_at hl 5 rfl) ?_
    refine lv_goto (tgt := 217) hx hb dX2_reckoned_212 (by decide) ?_
    refine lv_istore (lv' := [(5, .int l5), (4, .int (s1 - s0)), (0, .ref h0), (1, .int p1), (2, .int p2), (3, .ref q1), (6, .int l6), (8, .int l8), (10, .int l10)]) hx hb dX2_reckoned_217 hl (by decide) rfl (fun ls hl => ?_)
    refine lv_goto (tgt := 255) hx hb dX2_reckoned_219 (by decide) ?_
    refine lv_iinc (v := l6 + 1) (lv' := [(6, .int (l6 + 1)), (5, .int l5), (4, .int (s1 - s0)), (0, .ref h0), (1, .int p1), (2, .int p2), (3, .ref q1), (8, .int l8), (10, .int l10)]) hx hb dX2_reckoned_255 hl (k := 6) rfl rfl (by decide) rfl (fun ls hl => ?_)
    refine lv_goto (tgt := 14) hx hb dX2_reckoned_258 (by decide) ?_
    exact hk14 A0 f0 (s1 - s0) l5 (l6 + 1) h _ _ _ hPD hS (lv_sub hl [3, 4, 5, 6, 2, 1, 0] rfl)
set_option maxRecDepth 100000 in
set_option maxHeartbeats 4000000 in
theorem ww_f2_reckoned_b180  (C0 : Cx cX2_reckoned 11 (some .int) RX2 p s m args meth c G DA) {h0 : Nat} {a0 : Nat → Nat} {q1 : Nat} {n1 : Nat} {xs1 : Nat → Int32} {p1 : Int32} {p2 : Int32} (hn1 : n1 < 2147483648) {k14 : (Nat → Nat → Int32) → (Nat → Int32) → Int32 → Int32 → Int32 → Option (Int32 × (Nat → Nat → Int32) × (Nat → Int32))} {res : Int32 × (Nat → Nat → Int32) × (Nat → Int32)} (hk14 : ∀ (A0 : Nat → Nat → Int32) (f0 : Nat → Int32) (l4 : Int32) (l5 : Int32) (l6 : Int32), k14 A0 f0 l4 l5 l6 = some res → ∀ (H : Heap) (locs : List Loc) (ls : Array Slot), WD G DA (wX2 G h0 a0 f0 A0 ++ (wI G q1 n1 xs1)) H → va_S DA s.heap H locs → lv_has ls 11 [(0, .ref h0), (1, .int p1), (2, .int p2), (3, .ref q1), (4, .int l4), (5, .int l5), (6, .int l6)] → W p l e rmX2_reckoned s m args below meth c H locs 0 0 (MQ below (QI G DA res.1 (wX2 G h0 a0 res.2.2 res.2.1 ++ (wI G q1 n1 xs1))) args s 0 0 DA) (F0 m 14 ls [])) : ∀ (A0 : Nat → Nat → Int32) (f0 : Nat → Int32) (l4 : Int32) (l5 : Int32) (l6 : Int32) (l8 : Int32) (s0 : Int32) (s1 : Int32), f2_reckoned_b180 n1 xs1 p1 p2 k14 A0 f0 l4 l5 l6 l8 s0 s1 = some res → ∀ (H : Heap) (locs : List Loc) (ls : Array Slot), WD G DA (wX2 G h0 a0 f0 A0 ++ (wI G q1 n1 xs1)) H → va_S DA s.heap H locs → lv_has ls 11 [(0, .ref h0), (1, .int p1), (2, .int p2), (3, .ref q1), (4, .int l4), (5, .int l5), (6, .int l6), (8, .int l8)] → W p l e rmX2_reckoned s m args below meth c H locs 0 0 (MQ below (QI G DA res.1 (wX2 G h0 a0 res.2.2 res.2.1 ++ (wI G q1 n1 xs1))) args s 0 0 DA) (F0 m 180 ls [.int s0, .int s1]) := by
  obtain ⟨hx, hb, hml, hown, hts⟩ := C0.1
  have hK := C0.2.2.2.1
  intro A0 f0 l4 l5 l6 l8 s0 s1 h _ _ _ hPD hS hl
  unfold f2_reckoned_b180 at h
  refine lv_icmp_ne (tgt := 187) hx hb dX2_reckoned_180 (by decide) (fun cc1 => ?_) (fun cc1 => ?_)
  · have h := (if_neg cc1).symm.trans h
    refine lv_iconst (v := 0) hx hb dX2_reckoned_187 (by decide) ?_
    refine lv_istore (lv' := [(10, .int 0), (0, .ref h0), (1, .int p1), (2, .int p2), (3, .ref q1), (4, .int l4), (5, .int l5), (6, .int l6), (8, .int l8)]) hx hb dX2_reckoned_188 hl (by decide) rfl (fun ls hl => ?_)
    refine lv_iload hx hb dX2_reckoned_190 (lv_at hl 5 rfl) ?_
    refine lv_iload hx hb dX2_reckoned_192 (lv_at hl 0 rfl) ?_
    refine lv_if_eq (tgt := 201) hx hb dX2_reckoned_194 (by decide) (fun cc1 => ?_) (fun cc1 => ?_)
    · have h := (if_pos cc1).symm.trans h
      refine lv_iconst (v := 0) hx hb dX2_reckoned_201 (by decide) ?_
      exact ww_f2_reckoned_b202 C0 hn1 hk14 A0 f0 l5 l6 l8 0 0 l4 h _ _ _ hPD hS (lv_sub hl [1, 2, 3, 4, 6, 7, 8, 0] rfl)
    · have h := (if_neg cc1).symm.trans h
      refine lv_iconst (v := 1) hx hb dX2_reckoned_197 (by decide) ?_
      refine lv_goto (tgt := 202) hx hb dX2_reckoned_198 (by decide) ?_
      exact ww_f2_reckoned_b202 C0 hn1 hk14 A0 f0 l5 l6 l8 0 1 l4 h _ _ _ hPD hS (lv_sub hl [1, 2, 3, 4, 6, 7, 8, 0] rfl)
  · have h := (if_pos cc1).symm.trans h
    refine lv_iconst (v := 1) hx hb dX2_reckoned_183 (by decide) ?_
    refine lv_goto (tgt := 188) hx hb dX2_reckoned_184 (by decide) ?_
    refine lv_istore (lv' := [(10, .int 1), (0, .ref h0), (1, .int p1), (2, .int p2), (3, .ref q1), (4, .int l4), (5, .int l5), (6, .int l6), (8, .int l8)]) hx hb dX2_reckoned_188 hl (by decide) rfl (fun ls hl => ?_)
    refine lv_iload hx hb dX2_reckoned_190 (lv_at hl 5 rfl) ?_
    refine lv_iload hx hb dX2_reckoned_192 (lv_at hl 0 rfl) ?_
    refine lv_if_eq (tgt := 201) hx hb dX2_reckoned_194 (by decide) (fun cc1 => ?_) (fun cc1 => ?_)
    · have h := (if_pos cc1).symm.trans h
      refine lv_iconst (v := 0) hx hb dX2_reckoned_201 (by decide) ?_
      exact ww_f2_reckoned_b202 C0 hn1 hk14 A0 f0 l5 l6 l8 1 0 l4 h _ _ _ hPD hS (lv_sub hl [1, 2, 3, 4, 6, 7, 8, 0] rfl)
    · have h := (if_neg cc1).symm.trans h
      refine lv_iconst (v := 1) hx hb dX2_reckoned_197 (by decide) ?_
      refine lv_goto (tgt := 202) hx hb dX2_reckoned_198 (by decide) ?_
      exact ww_f2_reckoned_b202 C0 hn1 hk14 A0 f0 l5 l6 l8 1 1 l4 h _ _ _ hPD hS (lv_sub hl [1, 2, 3, 4, 6, 7, 8, 0] rfl)
set_option maxRecDepth 100000 in
set_option maxHeartbeats 4000000 in
theorem ww_f2_reckoned_b159  (C0 : Cx cX2_reckoned 11 (some .int) RX2 p s m args meth c G DA) {h0 : Nat} {a0 : Nat → Nat} {q1 : Nat} {n1 : Nat} {xs1 : Nat → Int32} {p1 : Int32} {p2 : Int32} (hn1 : n1 < 2147483648) {k14 : (Nat → Nat → Int32) → (Nat → Int32) → Int32 → Int32 → Int32 → Option (Int32 × (Nat → Nat → Int32) × (Nat → Int32))} {res : Int32 × (Nat → Nat → Int32) × (Nat → Int32)} (hk14 : ∀ (A0 : Nat → Nat → Int32) (f0 : Nat → Int32) (l4 : Int32) (l5 : Int32) (l6 : Int32), k14 A0 f0 l4 l5 l6 = some res → ∀ (H : Heap) (locs : List Loc) (ls : Array Slot), WD G DA (wX2 G h0 a0 f0 A0 ++ (wI G q1 n1 xs1)) H → va_S DA s.heap H locs → lv_has ls 11 [(0, .ref h0), (1, .int p1), (2, .int p2), (3, .ref q1), (4, .int l4), (5, .int l5), (6, .int l6)] → W p l e rmX2_reckoned s m args below meth c H locs 0 0 (MQ below (QI G DA res.1 (wX2 G h0 a0 res.2.2 res.2.1 ++ (wI G q1 n1 xs1))) args s 0 0 DA) (F0 m 14 ls [])) : ∀ (A0 : Nat → Nat → Int32) (f0 : Nat → Int32) (l4 : Int32) (l5 : Int32) (l6 : Int32) (l7 : Int32) (l8 : Int32) (l9 : Int32), f2_reckoned_b159 n1 xs1 p1 p2 k14 A0 f0 l4 l5 l6 l7 l8 l9 = some res → ∀ (H : Heap) (locs : List Loc) (ls : Array Slot), WD G DA (wX2 G h0 a0 f0 A0 ++ (wI G q1 n1 xs1)) H → va_S DA s.heap H locs → lv_has ls 11 [(0, .ref h0), (1, .int p1), (2, .int p2), (3, .ref q1), (4, .int l4), (5, .int l5), (6, .int l6), (7, .int l7), (8, .int l8), (9, .int l9)] → W p l e rmX2_reckoned s m args below meth c H locs 0 0 (MQ below (QI G DA res.1 (wX2 G h0 a0 res.2.2 res.2.1 ++ (wI G q1 n1 xs1))) args s 0 0 DA) (F0 m 159 ls []) := by
  obtain ⟨hx, hb, hml, hown, hts⟩ := C0.1
  have hK := C0.2.2.2.1
  intro A0 f0 l4 l5 l6 l7 l8 l9 h _ _ _ hPD hS hl
  unfold f2_reckoned_b159 at h
  refine lv_iload hx hb dX2_reckoned_159 (lv_at hl 7 rfl) ?_
  refine lv_iconst (v := 4) hx hb dX2_reckoned_161 (by decide) ?_
  refine lv_icmp_ne (tgt := 169) hx hb dX2_reckoned_162 (by decide) (fun cc1 => ?_) (fun cc1 => ?_)
  · have h := (if_neg cc1).symm.trans h
    refine lv_iconst (v := 0) hx hb dX2_reckoned_169 (by decide) ?_
    refine lv_iload hx hb dX2_reckoned_170 (lv_at hl 9 rfl) ?_
    refine lv_if_eq (tgt := 179) hx hb dX2_reckoned_172 (by decide) (fun cc1 => ?_) (fun cc1 => ?_)
    · have h := (if_pos cc1).symm.trans h
      refine lv_iconst (v := 0) hx hb dX2_reckoned_179 (by decide) ?_
      exact ww_f2_reckoned_b180 C0 hn1 hk14 A0 f0 l4 l5 l6 l8 0 0 h _ _ _ hPD hS (lv_sub hl [0, 1, 2, 3, 4, 5, 6, 8] rfl)
    · have h := (if_neg cc1).symm.trans h
      refine lv_iconst (v := 1) hx hb dX2_reckoned_175 (by decide) ?_
      refine lv_goto (tgt := 180) hx hb dX2_reckoned_176 (by decide) ?_
      exact ww_f2_reckoned_b180 C0 hn1 hk14 A0 f0 l4 l5 l6 l8 1 0 h _ _ _ hPD hS (lv_sub hl [0, 1, 2, 3, 4, 5, 6, 8] rfl)
  · have h := (if_pos cc1).symm.trans h
    refine lv_iconst (v := 1) hx hb dX2_reckoned_165 (by decide) ?_
    refine lv_goto (tgt := 170) hx hb dX2_reckoned_166 (by decide) ?_
    refine lv_iload hx hb dX2_reckoned_170 (lv_at hl 9 rfl) ?_
    refine lv_if_eq (tgt := 179) hx hb dX2_reckoned_172 (by decide) (fun cc1 => ?_) (fun cc1 => ?_)
    · have h := (if_pos cc1).symm.trans h
      refine lv_iconst (v := 0) hx hb dX2_reckoned_179 (by decide) ?_
      exact ww_f2_reckoned_b180 C0 hn1 hk14 A0 f0 l4 l5 l6 l8 0 1 h _ _ _ hPD hS (lv_sub hl [0, 1, 2, 3, 4, 5, 6, 8] rfl)
    · have h := (if_neg cc1).symm.trans h
      refine lv_iconst (v := 1) hx hb dX2_reckoned_175 (by decide) ?_
      refine lv_goto (tgt := 180) hx hb dX2_reckoned_176 (by decide) ?_
      exact ww_f2_reckoned_b180 C0 hn1 hk14 A0 f0 l4 l5 l6 l8 1 1 h _ _ _ hPD hS (lv_sub hl [0, 1, 2, 3, 4, 5, 6, 8] rfl)
set_option maxRecDepth 100000 in
set_option maxHeartbeats 4000000 in
theorem ww_f2_reckoned_b14  (C0 : Cx cX2_reckoned 11 (some .int) RX2 p s m args meth c G DA) {h0 : Nat} {a0 : Nat → Nat} {q1 : Nat} {n1 : Nat} {xs1 : Nat → Int32} {p1 : Int32} {p2 : Int32} (hn1 : n1 < 2147483648) {k14 : (Nat → Nat → Int32) → (Nat → Int32) → Int32 → Int32 → Int32 → Option (Int32 × (Nat → Nat → Int32) × (Nat → Int32))} {res : Int32 × (Nat → Nat → Int32) × (Nat → Int32)}  (hk14 : ∀ (A0 : Nat → Nat → Int32) (f0 : Nat → Int32) (l4 : Int32) (l5 : Int32) (l6 : Int32), k14 A0 f0 l4 l5 l6 = some res → ∀ (H : Heap) (locs : List Loc) (ls : Array Slot), WD G DA (wX2 G h0 a0 f0 A0 ++ (wI G q1 n1 xs1)) H → va_S DA s.heap H locs → lv_has ls 11 [(0, .ref h0), (1, .int p1), (2, .int p2), (3, .ref q1), (4, .int l4), (5, .int l5), (6, .int l6)] → W p l e rmX2_reckoned s m args below meth c H locs 0 0 (MQ below (QI G DA res.1 (wX2 G h0 a0 res.2.2 res.2.1 ++ (wI G q1 n1 xs1))) args s 0 0 DA) (F0 m 14 ls [])) : ∀ (A0 : Nat → Nat → Int32) (f0 : Nat → Int32) (l4 : Int32) (l5 : Int32) (l6 : Int32), f2_reckoned_b14 n1 xs1 p1 p2  k14 A0 f0 l4 l5 l6 = some res → ∀ (H : Heap) (locs : List Loc) (ls : Array Slot), WD G DA (wX2 G h0 a0 f0 A0 ++ (wI G q1 n1 xs1)) H → va_S DA s.heap H locs → lv_has ls 11 [(0, .ref h0), (1, .int p1), (2, .int p2), (3, .ref q1), (4, .int l4), (5, .int l5), (6, .int l6)] → W p l e rmX2_reckoned s m args below meth c H locs 0 0 (MQ below (QI G DA res.1 (wX2 G h0 a0 res.2.2 res.2.1 ++ (wI G q1 n1 xs1))) args s 0 0 DA) (F0 m 14 ls []) := by
  obtain ⟨hx, hb, hml, hown, hts⟩ := C0.1
  have hK := C0.2.2.2.1
  intro A0 f0 l4 l5 l6 h _ _ _ hPD hS hl
  unfold f2_reckoned_b14 at h
  refine lv_iload hx hb dX2_reckoned_14 (lv_at hl 6 rfl) ?_
  refine lv_sipush (v := 240) hx hb dX2_reckoned_16 (by decide) ?_
  refine lv_icmp_ge (tgt := 261) hx hb dX2_reckoned_19 (by decide) (fun cc1 => ?_) (fun cc1 => ?_)
  · have h := (if_pos cc1).symm.trans h
    exact ww_f2_reckoned_b261 C0 hn1 A0 f0 l4 h _ _ _ hPD hS (lv_sub hl [0, 1, 2, 3, 4] rfl)
  · have h := (if_neg cc1).symm.trans h
    refine lv_iload hx hb dX2_reckoned_22 (lv_at hl 5 rfl) ?_
    refine lv_iload_n hx hb dX2_reckoned_24 rfl (lv_at hl 2 rfl) ?_
    refine lv_icmp_ge (tgt := 261) hx hb dX2_reckoned_25 (by decide) (fun cc1 => ?_) (fun cc1 => ?_)
    · have h := (if_pos cc1).symm.trans h
      exact ww_f2_reckoned_b261 C0 hn1 A0 f0 l4 h _ _ _ hPD hS (lv_sub hl [0, 1, 2, 3, 4] rfl)
    · have h := (if_neg cc1).symm.trans h
      refine lv_aload_n hx hb dX2_reckoned_28 rfl (lv_at hl 0 rfl) ?_
      refine va_get (D := G.1) (ci := 2) (v := .int (f0 8)) (C := RX2) (T := TX2) (N := 10) hx hb hts inlX2 hown hK hPD.1 0 rfl rfl 8 (by decide) (hts _ gw_194) (fun _ h9 => h9) rfl dX2_reckoned_29 ?_
      refine lv_if_ne (tgt := 261) hx hb dX2_reckoned_32 (by decide) (fun cc1 => ?_) (fun cc1 => ?_)
      · have h := (if_neg cc1).symm.trans h
        exact ww_f2_reckoned_b261 C0 hn1 A0 f0 l4 h _ _ _ hPD hS (lv_sub hl [0, 1, 2, 3, 4] rfl)
      · have h := (if_pos cc1).symm.trans h
        refine lv_aload_n hx hb dX2_reckoned_35 rfl (lv_at hl 0 rfl) ?_
        refine va_get (D := G.1) (ci := 2) (v := .ref (a0 0)) (C := RX2) (T := TX2) (N := 10) hx hb hts inlX2 hown hK hPD.1 0 rfl rfl 0 (by decide) (hts _ gw_129) (fun _ h9 => h9) rfl dX2_reckoned_36 ?_
        refine lv_iload hx hb dX2_reckoned_39 (lv_at hl 5 rfl) ?_
        refine kNI (As := [.ref (a0 0), .int l5]) (rest := []) C0 (kt_X9_at l G (a0 0) 240 (A0 0) l5 (by decide)) gi_U_X9_at (host := "IdleCrimes") (index := 113) (List.mem_of_getElem? (i := 28) rfl) gw_6 gw_7 (n := 2) rfl (by decide +kernel) ⟨rfl, rfl, Nat.le_of_ble_eq_true rfl, Nat.le_of_ble_eq_true rfl⟩ hPD hS [1] [0, 2, 3, 4, 5, 6, 7, 8] [0, 8, 1, 2, 3, 4, 5, 6, 7] (wr := pick (wX2 G h0 a0 f0 A0 ++ (wI G q1 n1 xs1)) [0, 2, 3, 4, 5, 6, 7, 8]) (wN := (wX2 G h0 a0 f0 A0 ++ (wI G q1 n1 xs1))) rfl rfl rfl rfl rfl hl.1 (Nat.le_of_ble_eq_true rfl) dX2_reckoned_41 (fun H locs hPD hS => ?_)
        refine lv_istore (lv' := [(7, .int (f9_at 240 (A0 0) l5)), (0, .ref h0), (1, .int p1), (2, .int p2), (3, .ref q1), (4, .int l4), (5, .int l5), (6, .int l6)]) hx hb dX2_reckoned_44 hl (by decide) rfl (fun ls hl => ?_)
        refine lv_aload_n hx hb dX2_reckoned_46 rfl (lv_at hl 1 rfl) ?_
        refine va_get (D := G.1) (ci := 2) (v := .ref (a0 1)) (C := RX2) (T := TX2) (N := 10) hx hb hts inlX2 hown hK hPD.1 0 rfl rfl 1 (by decide) (hts _ gw_131) (fun _ h9 => h9) rfl dX2_reckoned_47 ?_
        refine lv_iload hx hb dX2_reckoned_50 (lv_at hl 6 rfl) ?_
        refine kNI (As := [.ref (a0 1), .int l5]) (rest := []) C0 (kt_X9_at l G (a0 1) 240 (A0 1) l5 (by decide)) gi_U_X9_at (host := "IdleCrimes") (index := 113) (List.mem_of_getElem? (i := 28) rfl) gw_6 gw_7 (n := 2) rfl (by decide +kernel) ⟨rfl, rfl, Nat.le_of_ble_eq_true rfl, Nat.le_of_ble_eq_true rfl⟩ hPD hS [2] [0, 1, 3, 4, 5, 6, 7, 8] [0, 1, 8, 2, 3, 4, 5, 6, 7] (wr := pick (wX2 G h0 a0 f0 A0 ++ (wI G q1 n1 xs1)) [0, 1, 3, 4, 5, 6, 7, 8]) (wN := (wX2 G h0 a0 f0 A0 ++ (wI G q1 n1 xs1))) rfl rfl rfl rfl rfl hl.1 (Nat.le_of_ble_eq_true rfl) dX2_reckoned_52 (fun H locs hPD hS => ?_)
        refine lv_istore (lv' := [(8, .int (f9_at 240 (A0 1) l5)), (7, .int (f9_at 240 (A0 0) l5)), (0, .ref h0), (1, .int p1), (2, .int p2), (3, .ref q1), (4, .int l4), (5, .int l5), (6, .int l6)]) hx hb dX2_reckoned_55 hl (by decide) rfl (fun ls hl => ?_)
        refine lv_aload_n hx hb dX2_reckoned_57 rfl (lv_at hl 2 rfl) ?_
        refine va_get (D := G.1) (ci := 2) (v := .ref (a0 6)) (C := RX2) (T := TX2) (N := 10) hx hb hts inlX2 hown hK hPD.1 0 rfl rfl 6 (by decide) (hts _ gw_195) (fun _ h9 => h9) rfl dX2_reckoned_58 ?_
        refine lv_iload hx hb dX2_reckoned_61 (lv_at hl 6 rfl) ?_
        refine lv_iconst (v := 1) hx hb dX2_reckoned_63 (by decide) ?_
        refine lv_isub hx hb dX2_reckoned_64 ?_
        refine kNI (As := [.ref (a0 6), .int (l4 - 1)]) (rest := []) C0 (kt_X9_at l G (a0 6) 240 (A0 6) (l4 - 1) (by decide)) gi_U_X9_at (host := "IdleCrimes") (index := 113) (List.mem_of_getElem? (i := 28) rfl) gw_6 gw_7 (n := 2) rfl (by decide +kernel) ⟨rfl, rfl, Nat.le_of_ble_eq_true rfl, Nat.le_of_ble_eq_true rfl⟩ hPD hS [7] [0, 1, 2, 3, 4, 5, 6, 8] [0, 1, 2, 3, 4, 5, 6, 8, 7] (wr := pick (wX2 G h0 a0 f0 A0 ++ (wI G q1 n1 xs1)) [0, 1, 2, 3, 4, 5, 6, 8]) (wN := (wX2 G h0 a0 f0 A0 ++ (wI G q1 n1 xs1))) rfl rfl rfl rfl rfl hl.1 (Nat.le_of_ble_eq_true rfl) dX2_reckoned_65 (fun H locs hPD hS => ?_)
        refine lv_istore (lv' := [(9, .int (f9_at 240 (A0 6) (l4 - 1))), (8, .int (f9_at 240 (A0 1) l5)), (7, .int (f9_at 240 (A0 0) l5)), (0, .ref h0), (1, .int p1), (2, .int p2), (3, .ref q1), (4, .int l4), (5, .int l5), (6, .int l6)]) hx hb dX2_reckoned_68 hl (by decide) rfl (fun ls hl => ?_)
        refine lv_iinc (v := l5 + 1) (lv' := [(5, .int (l5 + 1)), (9, .int (f9_at 240 (A0 6) (l4 - 1))), (8, .int (f9_at 240 (A0 1) l5)), (7, .int (f9_at 240 (A0 0) l5)), (0, .ref h0), (1, .int p1), (2, .int p2), (3, .ref q1), (4, .int l4), (6, .int l6)]) hx hb dX2_reckoned_70 hl (k := 8) rfl rfl (by decide) rfl (fun ls hl => ?_)
        refine lv_iload hx hb dX2_reckoned_73 (lv_at hl 3 rfl) ?_
        refine lv_iconst (v := 1) hx hb dX2_reckoned_75 (by decide) ?_
        refine lv_icmp_eq (tgt := 85) hx hb dX2_reckoned_76 (by decide) (fun cc1 => ?_) (fun cc1 => ?_)
        · have h := (if_pos cc1).symm.trans h
          exact ww_f2_reckoned_b85 C0 hn1 hk14 A0 f0 l4 (l5 + 1) l6 (f9_at 240 (A0 0) l5) (f9_at 240 (A0 1) l5) h _ _ _ hPD hS (lv_sub hl [4, 5, 6, 7, 8, 0, 9, 3, 2] rfl)
        · have h := (if_neg cc1).symm.trans h
          refine lv_iload hx hb dX2_reckoned_79 (lv_at hl 3 rfl) ?_
          refine lv_iconst (v := 2) hx hb dX2_reckoned_81 (by decide) ?_
          refine lv_icmp_ne (tgt := 117) hx hb dX2_reckoned_82 (by decide) (fun cc1 => ?_) (fun cc1 => ?_)
          · have h := (if_neg cc1).symm.trans h
            refine lv_iload hx hb dX2_reckoned_117 (lv_at hl 3 rfl) ?_
            refine lv_iconst (v := 3) hx hb dX2_reckoned_119 (by decide) ?_
            refine lv_icmp_ne (tgt := 147) hx hb dX2_reckoned_120 (by decide) (fun cc1 => ?_) (fun cc1 => ?_)
            · have h := (if_neg cc1).symm.trans h
              refine lv_iload hx hb dX2_reckoned_147 (lv_at hl 3 rfl) ?_
              refine lv_iconst (v := 4) hx hb dX2_reckoned_149 (by decide) ?_
              refine lv_icmp_eq (tgt := 159) hx hb dX2_reckoned_150 (by decide) (fun cc1 => ?_) (fun cc1 => ?_)
              · have h := (if_pos cc1).symm.trans h
                exact ww_f2_reckoned_b159 C0 hn1 hk14 A0 f0 l4 (l5 + 1) l6 (f9_at 240 (A0 0) l5) (f9_at 240 (A0 1) l5) (f9_at 240 (A0 6) (l4 - 1)) h _ _ _ hPD hS (lv_sub hl [4, 5, 6, 7, 8, 0, 9, 3, 2, 1] rfl)
              · have h := (if_neg cc1).symm.trans h
                refine lv_iload hx hb dX2_reckoned_153 (lv_at hl 3 rfl) ?_
                refine lv_iconst (v := 5) hx hb dX2_reckoned_155 (by decide) ?_
                refine lv_icmp_ne (tgt := 222) hx hb dX2_reckoned_156 (by decide) (fun cc1 => ?_) (fun cc1 => ?_)
                · have h := (if_neg cc1).symm.trans h
                  refine lv_iinc (v := l4 + (-1)) (lv' := [(4, .int (l4 + (-1))), (5, .int (l5 + 1)), (9, .int (f9_at 240 (A0 6) (l4 - 1))), (8, .int (f9_at 240 (A0 1) l5)), (7, .int (f9_at 240 (A0 0) l5)), (0, .ref h0), (1, .int p1), (2, .int p2), (3, .ref q1), (6, .int l6)]) hx hb dX2_reckoned_222 hl (k := 8) rfl rfl (by decide) rfl (fun ls hl => ?_)
                  refine lv_aload_n hx hb dX2_reckoned_225 rfl (lv_at hl 5 rfl) ?_
                  refine va_get (D := G.1) (ci := 2) (v := .ref (a0 6)) (C := RX2) (T := TX2) (N := 10) hx hb hts inlX2 hown hK hPD.1 0 rfl rfl 6 (by decide) (hts _ gw_195) (fun _ h9 => h9) rfl dX2_reckoned_226 ?_
                  refine lv_iload hx hb dX2_reckoned_229 (lv_at hl 0 rfl) ?_
                  refine lv_iconst (v := 1) hx hb dX2_reckoned_231 (by decide) ?_
                  refine lv_isub hx hb dX2_reckoned_232 ?_
                  refine lv_aload_n hx hb dX2_reckoned_233 rfl (lv_at hl 5 rfl) ?_
                  refine lv_iload hx hb dX2_reckoned_234 (lv_at hl 4 rfl) ?_
                  refine lv_aload_n hx hb dX2_reckoned_236 rfl (lv_at hl 5 rfl) ?_
                  refine va_get (D := G.1) (ci := 2) (v := .ref (a0 6)) (C := RX2) (T := TX2) (N := 10) hx hb hts inlX2 hown hK hPD.1 0 rfl rfl 6 (by decide) (hts _ gw_195) (fun _ h9 => h9) rfl dX2_reckoned_237 ?_
                  refine lv_iload hx hb dX2_reckoned_240 (lv_at hl 0 rfl) ?_
                  refine lv_iconst (v := 1) hx hb dX2_reckoned_242 (by decide) ?_
                  refine lv_isub hx hb dX2_reckoned_243 ?_
                  refine kNI (As := [.ref (a0 6), .int ((l4 + (-1)) - 1)]) (rest := [.int (f9_at 240 (A0 0) l5), .ref h0, .int ((l4 + (-1)) - 1), .ref (a0 6)]) C0 (kt_X9_at l G (a0 6) 240 (A0 6) ((l4 + (-1)) - 1) (by decide)) gi_U_X9_at (host := "IdleCrimes") (index := 113) (List.mem_of_getElem? (i := 28) rfl) gw_6 gw_7 (n := 2) rfl (by decide +kernel) ⟨rfl, rfl, Nat.le_of_ble_eq_true rfl, Nat.le_of_ble_eq_true rfl⟩ hPD hS [7] [0, 1, 2, 3, 4, 5, 6, 8] [0, 1, 2, 3, 4, 5, 6, 8, 7] (wr := pick (wX2 G h0 a0 f0 A0 ++ (wI G q1 n1 xs1)) [0, 1, 2, 3, 4, 5, 6, 8]) (wN := (wX2 G h0 a0 f0 A0 ++ (wI G q1 n1 xs1))) rfl rfl rfl rfl rfl hl.1 (Nat.le_of_ble_eq_true rfl) dX2_reckoned_244 (fun H locs hPD hS => ?_)
                  refine lv_iload hx hb dX2_reckoned_247 (lv_at hl 2 rfl) ?_
                  obtain ⟨q_4, hq_4, h⟩ := ob2 h
                  refine kVI (As := [.int (f9_at 240 (A0 0) l5), .int (f9_at 240 (A0 6) ((l4 + (-1)) - 1)), .int (f9_at 240 (A0 6) (l4 - 1))]) (rest := [.int ((l4 + (-1)) - 1), .ref (a0 6)]) C0 (kt_X2_joined l G h0 a0 f0 A0 (f9_at 240 (A0 0) l5) (f9_at 240 (A0 6) ((l4 + (-1)) - 1)) (f9_at 240 (A0 6) (l4 - 1)) hq_4) gi_V_X2_125_X2_joined (n := 3) rfl (by decide +kernel) rfl ⟨rfl, rfl, Nat.le_of_ble_eq_true rfl, Nat.le_of_ble_eq_true rfl⟩ hPD hS 0 2 rfl rfl rfl [0, 1, 2, 3, 4, 5, 6, 7] [8] [1, 2, 3, 4, 5, 6, 7, 8, 0] (wr := (wI G q1 n1 xs1)) (wN := (wX2 G h0 a0 q_4.2 A0 ++ (wI G q1 n1 xs1))) rfl rfl rfl rfl rfl hl.1 (Nat.le_of_ble_eq_true rfl) dX2_reckoned_249 (fun H locs hPD hS => ?_)
                  obtain ⟨z_5, ez_5, h⟩ := lvl h
                  have kc := kt_X9_put l G (a0 6) 240 (A0 6) ((l4 + (-1)) - 1) q_4.1 (by decide)
                  rw [← ez_5] at kc
                  clear ez_5
                  refine kNV (As := [.ref (a0 6), .int ((l4 + (-1)) - 1), .int q_4.1]) (rest := []) C0 (kc) gi_U_X9_put (host := "IdleCrimes") (index := 65) (List.mem_of_getElem? (i := 12) rfl) gw_6 gw_19 (n := 3) rfl (by decide +kernel) ⟨rfl, rfl, Nat.le_of_ble_eq_true rfl, Nat.le_of_ble_eq_true rfl⟩ hPD hS [7] [0, 1, 2, 3, 4, 5, 6, 8] [0, 1, 2, 3, 4, 5, 6, 8, 7] (wr := pick (wX2 G h0 a0 q_4.2 A0 ++ (wI G q1 n1 xs1)) [0, 1, 2, 3, 4, 5, 6, 8]) (wN := (wX2 G h0 a0 q_4.2 (updA A0 6 z_5) ++ (wI G q1 n1 xs1))) rfl rfl rfl rfl rfl hl.1 (Nat.le_of_ble_eq_true rfl) dX2_reckoned_252 (fun H locs hPD hS => ?_)
                  obtain ⟨A0_6, eA0_6, h⟩ := lvl h
                  have hPD : WD G DA (wX2 G h0 a0 q_4.2 A0_6 ++ (wI G q1 n1 xs1)) H := by rw [eA0_6]; exact hPD
                  clear eA0_6
                  refine lv_iinc (v := l6 + 1) (lv' := [(6, .int (l6 + 1)), (4, .int (l4 + (-1))), (5, .int (l5 + 1)), (9, .int (f9_at 240 (A0 6) (l4 - 1))), (8, .int (f9_at 240 (A0 1) l5)), (7, .int (f9_at 240 (A0 0) l5)), (0, .ref h0), (1, .int p1), (2, .int p2), (3, .ref q1)]) hx hb dX2_reckoned_255 hl (k := 9) rfl rfl (by decide) rfl (fun ls hl => ?_)
                  refine lv_goto (tgt := 14) hx hb dX2_reckoned_258 (by decide) ?_
                  exact hk14 A0_6 q_4.2 (l4 + (-1)) (l5 + 1) (l6 + 1) h _ _ _ hPD hS (lv_sub hl [6, 7, 8, 9, 1, 2, 0] rfl)
                · have h := (if_pos cc1).symm.trans h
                  exact ww_f2_reckoned_b159 C0 hn1 hk14 A0 f0 l4 (l5 + 1) l6 (f9_at 240 (A0 0) l5) (f9_at 240 (A0 1) l5) (f9_at 240 (A0 6) (l4 - 1)) h _ _ _ hPD hS (lv_sub hl [4, 5, 6, 7, 8, 0, 9, 3, 2, 1] rfl)
            · have h := (if_pos cc1).symm.trans h
              refine lv_aload_n hx hb dX2_reckoned_123 rfl (lv_at hl 4 rfl) ?_
              refine va_get (D := G.1) (ci := 2) (v := .ref (a0 6)) (C := RX2) (T := TX2) (N := 10) hx hb hts inlX2 hown hK hPD.1 0 rfl rfl 6 (by decide) (hts _ gw_195) (fun _ h9 => h9) rfl dX2_reckoned_124 ?_
              refine lv_iload hx hb dX2_reckoned_127 (lv_at hl 8 rfl) ?_
              refine lv_iconst (v := 1) hx hb dX2_reckoned_129 (by decide) ?_
              refine lv_isub hx hb dX2_reckoned_130 ?_
              refine lv_iload hx hb dX2_reckoned_131 (lv_at hl 1 rfl) ?_
              refine lv_if_ne (tgt := 140) hx hb dX2_reckoned_133 (by decide) (fun cc1 => ?_) (fun cc1 => ?_)
              · have h := (if_neg cc1).symm.trans h
                refine lv_iconst (v := 0) hx hb dX2_reckoned_140 (by decide) ?_
                obtain ⟨z_7, ez_7, h⟩ := lvl h
                have kc := kt_X9_put l G (a0 6) 240 (A0 6) (l4 - 1) 0 (by decide)
                rw [← ez_7] at kc
                clear ez_7
                refine kNV (As := [.ref (a0 6), .int (l4 - 1), .int 0]) (rest := []) C0 (kc) gi_U_X9_put (host := "IdleCrimes") (index := 65) (List.mem_of_getElem? (i := 12) rfl) gw_6 gw_19 (n := 3) rfl (by decide +kernel) ⟨rfl, rfl, Nat.le_of_ble_eq_true rfl, Nat.le_of_ble_eq_true rfl⟩ hPD hS [7] [0, 1, 2, 3, 4, 5, 6, 8] [0, 1, 2, 3, 4, 5, 6, 8, 7] (wr := pick (wX2 G h0 a0 f0 A0 ++ (wI G q1 n1 xs1)) [0, 1, 2, 3, 4, 5, 6, 8]) (wN := (wX2 G h0 a0 f0 (updA A0 6 z_7) ++ (wI G q1 n1 xs1))) rfl rfl rfl rfl rfl hl.1 (Nat.le_of_ble_eq_true rfl) dX2_reckoned_141 (fun H locs hPD hS => ?_)
                obtain ⟨A0_8, eA0_8, h⟩ := lvl h
                have hPD : WD G DA (wX2 G h0 a0 f0 A0_8 ++ (wI G q1 n1 xs1)) H := by rw [eA0_8]; exact hPD
                clear eA0_8
                refine lv_goto (tgt := 255) hx hb dX2_reckoned_144 (by decide) ?_
                refine lv_iinc (v := l6 + 1) (lv' := [(6, .int (l6 + 1)), (5, .int (l5 + 1)), (9, .int (f9_at 240 (A0 6) (l4 - 1))), (8, .int (f9_at 240 (A0 1) l5)), (7, .int (f9_at 240 (A0 0) l5)), (0, .ref h0), (1, .int p1), (2, .int p2), (3, .ref q1), (4, .int l4)]) hx hb dX2_reckoned_255 hl (k := 9) rfl rfl (by decide) rfl (fun ls hl => ?_)
                refine lv_goto (tgt := 14) hx hb dX2_reckoned_258 (by decide) ?_
                exact hk14 A0_8 f0 l4 (l5 + 1) (l6 + 1) h _ _ _ hPD hS (lv_sub hl [5, 6, 7, 8, 9, 1, 0] rfl)
              · have h := (if_pos cc1).symm.trans h
                refine lv_iconst (v := 1) hx hb dX2_reckoned_136 (by decide) ?_
                refine lv_goto (tgt := 141) hx hb dX2_reckoned_137 (by decide) ?_
                obtain ⟨z_9, ez_9, h⟩ := lvl h
                have kc := kt_X9_put l G (a0 6) 240 (A0 6) (l4 - 1) 1 (by decide)
                rw [← ez_9] at kc
                clear ez_9
                refine kNV (As := [.ref (a0 6), .int (l4 - 1), .int 1]) (rest := []) C0 (kc) gi_U_X9_put (host := "IdleCrimes") (index := 65) (List.mem_of_getElem? (i := 12) rfl) gw_6 gw_19 (n := 3) rfl (by decide +kernel) ⟨rfl, rfl, Nat.le_of_ble_eq_true rfl, Nat.le_of_ble_eq_true rfl⟩ hPD hS [7] [0, 1, 2, 3, 4, 5, 6, 8] [0, 1, 2, 3, 4, 5, 6, 8, 7] (wr := pick (wX2 G h0 a0 f0 A0 ++ (wI G q1 n1 xs1)) [0, 1, 2, 3, 4, 5, 6, 8]) (wN := (wX2 G h0 a0 f0 (updA A0 6 z_9) ++ (wI G q1 n1 xs1))) rfl rfl rfl rfl rfl hl.1 (Nat.le_of_ble_eq_true rfl) dX2_reckoned_141 (fun H locs hPD hS => ?_)
                obtain ⟨A0_10, eA0_10, h⟩ := lvl h
                have hPD : WD G DA (wX2 G h0 a0 f0 A0_10 ++ (wI G q1 n1 xs1)) H := by rw [eA0_10]; exact hPD
                clear eA0_10
                refine lv_goto (tgt := 255) hx hb dX2_reckoned_144 (by decide) ?_
                refine lv_iinc (v := l6 + 1) (lv' := [(6, .int (l6 + 1)), (5, .int (l5 + 1)), (9, .int (f9_at 240 (A0 6) (l4 - 1))), (8, .int (f9_at 240 (A0 1) l5)), (7, .int (f9_at 240 (A0 0) l5)), (0, .ref h0), (1, .int p1), (2, .int p2), (3, .ref q1), (4, .int l4)]) hx hb dX2_reckoned_255 hl (k := 9) rfl rfl (by decide) rfl (fun ls hl => ?_)
                refine lv_goto (tgt := 14) hx hb dX2_reckoned_258 (by decide) ?_
                exact hk14 A0_10 f0 l4 (l5 + 1) (l6 + 1) h _ _ _ hPD hS (lv_sub hl [5, 6, 7, 8, 9, 1, 0] rfl)
          · have h := (if_pos cc1).symm.trans h
            exact ww_f2_reckoned_b85 C0 hn1 hk14 A0 f0 l4 (l5 + 1) l6 (f9_at 240 (A0 0) l5) (f9_at 240 (A0 1) l5) h _ _ _ hPD hS (lv_sub hl [4, 5, 6, 7, 8, 0, 9, 3, 2] rfl)
end WALK
