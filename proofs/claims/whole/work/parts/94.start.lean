theorem ge_901 : Cond.instantiable RX8 3 ∈ wsL_law := (List.mem_append_left _ (List.mem_append_left _ (List.mem_append_left _ (List.mem_append_left _ (List.mem_append_left _ (List.mem_append_left _ (List.mem_append_left _ (List.mem_append_left _ (List.mem_append_left _ (List.mem_append_left _ (List.mem_append_left _ (List.mem_append_left _ (List.mem_append_right _ (List.mem_append_right _ (List.mem_append_right _ (List.mem_append_right _ (List.mem_append_right _ (List.mem_append_right _ (List.mem_append_right _ (List.mem_append_right _ (List.mem_append_right _ (List.mem_append_right _ (List.mem_append_right _ (List.mem_append_right _ (List.mem_append_right _ (List.mem_append_right _ (List.mem_append_right _ (List.mem_append_right _ (List.mem_append_right _ (List.mem_append_right _ (List.mem_append_right _ (List.mem_append_right _ (List.mem_append_right _ (List.mem_append_right _ (List.mem_append_right _ (List.mem_append_right _ (List.mem_append_right _ (List.mem_append_right _ (List.mem_append_right _ (List.mem_append_right _ (List.mem_append_right _ (List.mem_append_right _ (List.mem_append_right _ (List.mem_append_right _ (List.mem_append_right _ (List.mem_append_right _ (List.mem_append_right _ (List.mem_append_right _ (List.mem_append_left _ (List.mem_of_getElem? (i := 1) rfl))))))))))))))))))))))))))))))))))))))))))))))))))
theorem ge_902 : Cond.instantiable RX9 15 ∈ wsL_law := (List.mem_append_left _ (List.mem_append_left _ (List.mem_append_left _ (List.mem_append_left _ (List.mem_append_left _ (List.mem_append_left _ (List.mem_append_left _ (List.mem_append_left _ (List.mem_append_left _ (List.mem_append_left _ (List.mem_append_left _ (List.mem_append_left _ (List.mem_append_left _ (List.mem_of_getElem? (i := 1) rfl))))))))))))))
theorem ge_903 : Cond.instantiable RX10 52 ∈ wsL_law := (List.mem_append_left _ (List.mem_append_left _ (List.mem_append_left _ (List.mem_append_left _ (List.mem_append_left _ (List.mem_append_left _ (List.mem_append_left _ (List.mem_append_left _ (List.mem_append_left _ (List.mem_append_left _ (List.mem_append_left _ (List.mem_append_left _ (List.mem_append_left _ (List.mem_of_getElem? (i := 4) rfl))))))))))))))
theorem ge_904 : Cond.classLink RL 7 RX9 ∈ wsL_law := (List.mem_append_left _ (List.mem_append_left _ (List.mem_append_left _ (List.mem_append_left _ (List.mem_append_left _ (List.mem_append_left _ (List.mem_append_left _ (List.mem_append_left _ (List.mem_append_left _ (List.mem_append_left _ (List.mem_append_left _ (List.mem_append_left _ (List.mem_append_left _ (List.mem_of_getElem? (i := 0) rfl))))))))))))))
theorem ge_905 : Cond.code yX9_init cX9_init 2 none ∈ wsL_law := (List.mem_append_left _ (List.mem_append_left _ (List.mem_append_left _ (List.mem_append_left _ (List.mem_append_left _ (List.mem_append_left _ (List.mem_append_left _ (List.mem_append_left _ (List.mem_append_left _ (List.mem_append_left _ (List.mem_append_left _ (List.mem_append_left _ (List.mem_append_left _ (List.mem_of_getElem? (i := 8) rfl))))))))))))))
theorem ge_906 : Cond.methodLink RL 9 yX9_init ∈ wsL_law := (List.mem_append_left _ (List.mem_append_left _ (List.mem_append_left _ (List.mem_append_left _ (List.mem_append_left _ (List.mem_append_left _ (List.mem_append_left _ (List.mem_append_left _ (List.mem_append_left _ (List.mem_append_left _ (List.mem_append_left _ (List.mem_append_left _ (List.mem_append_left _ (List.mem_of_getElem? (i := 6) rfl))))))))))))))
theorem ge_907 : Cond.instanceMethod yX9_init ∈ wsL_law := (List.mem_append_left _ (List.mem_append_left _ (List.mem_append_left _ (List.mem_append_left _ (List.mem_append_left _ (List.mem_append_left _ (List.mem_append_left _ (List.mem_append_left _ (List.mem_append_left _ (List.mem_append_left _ (List.mem_append_left _ (List.mem_append_left _ (List.mem_append_left _ (List.mem_of_getElem? (i := 7) rfl))))))))))))))
theorem ge_908 : Cond.classLink RL 10 RX10 ∈ wsL_law := (List.mem_append_left _ (List.mem_append_left _ (List.mem_append_left _ (List.mem_append_left _ (List.mem_append_left _ (List.mem_append_left _ (List.mem_append_left _ (List.mem_append_left _ (List.mem_append_left _ (List.mem_append_left _ (List.mem_append_left _ (List.mem_append_left _ (List.mem_append_left _ (List.mem_of_getElem? (i := 3) rfl))))))))))))))
theorem ge_909 : Cond.code yX10_init cX10_init 1 none ∈ wsL_law := (List.mem_append_left _ (List.mem_append_left _ (List.mem_append_left _ (List.mem_append_left _ (List.mem_append_left _ (List.mem_append_left _ (List.mem_append_left _ (List.mem_append_left _ (List.mem_append_left _ (List.mem_append_left _ (List.mem_append_left _ (List.mem_append_left _ (List.mem_append_right _ (List.mem_append_right _ (List.mem_append_right _ (List.mem_append_right _ (List.mem_append_left _ (List.mem_of_getElem? (i := 23) rfl))))))))))))))))))
theorem ge_910 : Cond.methodLink RL 12 yX10_init ∈ wsL_law := (List.mem_append_left _ (List.mem_append_left _ (List.mem_append_left _ (List.mem_append_left _ (List.mem_append_left _ (List.mem_append_left _ (List.mem_append_left _ (List.mem_append_left _ (List.mem_append_left _ (List.mem_append_left _ (List.mem_append_left _ (List.mem_append_left _ (List.mem_append_right _ (List.mem_append_right _ (List.mem_append_right _ (List.mem_append_right _ (List.mem_append_left _ (List.mem_of_getElem? (i := 21) rfl))))))))))))))))))
theorem ge_911 : Cond.instanceMethod yX10_init ∈ wsL_law := (List.mem_append_left _ (List.mem_append_left _ (List.mem_append_left _ (List.mem_append_left _ (List.mem_append_left _ (List.mem_append_left _ (List.mem_append_left _ (List.mem_append_left _ (List.mem_append_left _ (List.mem_append_left _ (List.mem_append_left _ (List.mem_append_left _ (List.mem_append_right _ (List.mem_append_right _ (List.mem_append_right _ (List.mem_append_right _ (List.mem_append_left _ (List.mem_of_getElem? (i := 22) rfl))))))))))))))))))
theorem gi_U_X9_init : GoodIn wsL_law (wsU yX9_init cX9_init 2 none) := gdU ge_905
theorem gi_U_X10_init : GoodIn wsL_law (wsU yX10_init cX10_init 1 none) := gdU ge_909
section KC2
variable {p : Program} {l : Launch} {e : Env} {R : Room} {s : State} {m : MethodId} {args : Array Value} {below : List Frame} {meth : Method} {c : Code} {H : Heap} {locs : List Loc} {Q : State → Prop} {cells slots : Nat}
variable {cc : ByteArray} {nL pc : Nat} {ls : Array Slot} {rt : Option FieldType} {own : String} {G : Gp} {A : Nat → Prop} {rest : List Value}
theorem kCN {S : Type} {y : MethodName} {rm : Room} {b : Addr} {W0 wc : va_W} {w1 : S → va_W} {bytes : ByteArray} {maxL index mc ms : Nat} (C0 : Cx cc nL rt own p s m args meth c G A) (hM : CtrN l y bytes maxL rm G [.ref b] wc w1 mc ms) (hG : GoodIn wsL_law (wsU y bytes maxL none)) (hini : Cond.initialized y.cls ∈ wsL_law) (hlk : Cond.methodLink own index y ∈ wsL_law) (hstt : Cond.instanceMethod y ∈ wsL_law) (hyn : y.name = "<init>") (hd : y.cls ≠ "java/lang/invoke/MethodHandle" ∧ y.cls ≠ "java/lang/invoke/VarHandle" ∧ (parseMethodDescriptor y.desc).map (fun d => d.parameters.length) = some 0) (hrm : rm.cells = mc ∧ rm.slots = ms ∧ rm.frames + 1 ≤ R.frames ∧ 8 + (maxL + 11) + rm.locals ≤ R.locals)
    (hPD : WD G A W0 H) (hS : va_S A s.heap H locs)
    (isC isR : List Nat) (hC : isC.map (fun i => W0[i]?) = wc.map some) (hR : isR.map (fun i => W0[i]?) = (pick W0 isR).map some) (hch : kchk isC isR [] = true)
    (hsz : ls.size = nL) (hcat : (rest.map fun v => v.category).sum ≤ 8) (hdg : decode cc pc = .ok (.invokespecial index, 3)) (hroom : cells + mc ≤ R.cells ∧ slots + ms ≤ R.slots)
    (kk : ∀ (u : S) (H : Heap) (locs : List Loc), WD G A (pick W0 isR ++ w1 u) H → va_S A s.heap H locs → W p l e R s m args below meth c H locs (cells + mc) (slots + ms) Q (F0 m (pc + 3) ls rest)) : W p l e R s m args below meth c H locs cells slots Q (F0 m pc ls (.ref b :: rest)) := by
  obtain ⟨S0, -, -, hK, hNW, hA⟩ := C0
  obtain ⟨hP, hD⟩ := hPD
  obtain ⟨hnC, hn, -, hdis⟩ := kchk_spec hch
  have hF := va_free (wc := wc) hD hS hA isC hC
  refine va_callv (va_runI (n := 0) (As := []) (b := b) S0 (hM H.size) (cwI 0 S0.2.2.2.2 hG rfl hrm.1 hrm.2.1 (S0.2.2.2.2 _ hini) (S0.2.2.2.2 _ hlk) (S0.2.2.2.2 _ hstt) hyn hd hrm.2.2) ⟨kB_blind, kB_pre hK hNW (pP hP hC) (hD.sub isC hnC hC)⟩ rfl rfl hsz rfl (lv_room hcat) hdg hroom) hS (fun q _ h => hF q h) hF (fun u t H1 locs1 ht hvm hw hB hz1 hk1 hS1 => ?_)
  obtain ⟨hP1, hD1⟩ := hB
  rw [ht] at hP1
  obtain ⟨hP2, hD2⟩ := va_join (wr := pick W0 isR) (w1 := w1 u) hP hD isC isR hC hR hn hdis hk1 hF hP1 hD1
  exact kk u H1 locs1 ⟨hP2, hD2⟩ hS1
end KC2
theorem arr_prim {args : Array Value} {s : State} {ty : FieldType} (h : (Cond.arrayClass ty).before args s = true) : ∃ cA : ClassId, ArrOfT s cA ty ∧ s.vm.findClass ("[" ++ ty.toString) = some cA := by
  obtain ⟨cA, kA, comp, h1, h2, h3⟩ := Cond.arrayClass_spec h
  exact ⟨cA, fun n z => ⟨(fun k h => by cases h), kA, h2, comp, h3⟩, h1⟩
theorem arr_obj {args : Array Value} {s : State} {n : String} (h : (Cond.arrayOver (.object n)).before args s = true) : ∃ cA : ClassId, ArrOfT s cA (.object n) ∧ va_RA s cA (.object n) := by
  obtain ⟨comp, cA, kA, h1, h2, h3, h4, h5⟩ := Cond.arrayOver_spec h
  exact ⟨cA, fun N z => ⟨(fun k h => by cases h), kA, h3, comp, h4⟩, kA, comp, h3, h4, h1, h5⟩
theorem nwm_in : ∀ q ∈ NWM, Cond.methodLinkNest q.1 q.2.1 q.2.2.1 q.2.2.2 ∈ lw_tbl := by decide +kernel
theorem nwf_in : ∀ q ∈ NWF, Cond.fieldLinkNest q.1 q.2.1 q.2.2.1 q.2.2.2.1 q.2.2.2.2.1 q.2.2.2.2.2 ∈ lw_tbl := fun _ h => by cases h
theorem ao_in : Cond.arrayOver (.object "IdleCrimes$Beat") ∈ lw_tbl := by decide +kernel
set_option maxRecDepth 100000 in
set_option maxHeartbeats 4000000 in
theorem whole_open {INV : (Nat → Nat → Int32) → (Nat → Nat → Nat → Int32) → (Nat → Nat → Int32) → (Nat → Nat → Nat → Int32) → (Nat → Int32) → (Nat → Nat → Int32) → Prop} (HK : OK_all INV) (hini : INV ini_f ini_A ini_W ini_A ini_m ini_M) {p : Program} {e : Env} {s : State} {m : MethodId} {below : List Frame} {meth : Method} {c : Code} (l : Launch) {b L : Nat} {xs : Nat → Int32} (hL : L ≤ 3072) (C0 : lw_At p s m meth c b L xs) : W p l e room_1 s m #[Value.ref b] below meth c s.heap [] 0 0 (lw_Z below #[Value.ref b] s) (entryFrame m ([Value.ref b] : List Value).toArray 4) := by
  obtain ⟨hx, hb, hr, hml, hown, hts, hX, hbl, hlocks, hgv⟩ := id C0
  obtain ⟨c0, iS0, hKn0⟩ := u_known (C := RX0) (T := TX0) (N := 2) (n := 2) hts inX0 (hts (.instantiable RX0 2) (wsL_law_in _ gw_894))
  obtain ⟨c1, iS1, hKn1⟩ := u_known (C := RX1) (T := TX1) (N := 4) (n := 4) hts inX1 (hts (.instantiable RX1 4) (wsL_law_in _ gw_874))
  obtain ⟨c2, iS2, hKn2⟩ := u_known (C := RX2) (T := TX2) (N := 10) (n := 10) hts inX2 (hts (.instantiable RX2 10) (wsL_law_in _ gw_898))
  obtain ⟨c3, iS3, hKn3⟩ := u_known (C := RX3) (T := TX3) (N := 4) (n := 4) hts inX3 (hts (.instantiable RX3 4) (wsL_law_in _ gw_887))
  obtain ⟨c4, iS4, hKn4⟩ := u_known (C := RX4) (T := TX4) (N := 1) (n := 1) hts inX4 (hts (.instantiable RX4 1) (wsL_law_in _ gw_891))
  obtain ⟨c5, iS5, hKn5⟩ := u_known (C := RX5) (T := TX5) (N := 4) (n := 4) hts inX5 (hts (.instantiable RX5 4) (wsL_law_in _ gw_883))
  obtain ⟨c6, iS6, hKn6⟩ := u_known (C := RX6) (T := TX6) (N := 10) (n := 10) hts inX6 (hts (.instantiable RX6 10) (wsL_law_in _ gw_878))
  obtain ⟨c7, iS7, hKn7⟩ := u_known (C := RX7) (T := TX7) (N := 6) (n := 6) hts inX7 (hts (.instantiable RX7 6) (wsL_law_in _ gw_870))
  obtain ⟨c8, iS8, hKn8⟩ := u_known (C := RX8) (T := TX8) (N := 3) (n := 3) hts inX8 (hts (.instantiable RX8 3) (wsL_law_in _ ge_901))
  obtain ⟨c9, iS9, hKn9⟩ := u_known (C := RX9) (T := TX9) (N := 15) (n := 15) hts inX9 (hts (.instantiable RX9 15) (wsL_law_in _ ge_902))
  obtain ⟨c10, iS10, hKn10⟩ := u_known (C := RX10) (T := TX10) (N := 52) (n := 52) hts inX10 (hts (.instantiable RX10 52) (wsL_law_in _ ge_903))
  obtain ⟨dC, dI, hKc⟩ : ∃ (dC : Nat → ClassId) (dI : Nat → Nat → Nat), ∀ (k : Nat) (q : vw_C), vwCl[k]? = some q → u_Kn s q.1 q.2.1 q.2.2 (dC k) (dI k) := by
    refine ⟨fun k => if k = 0 then c0 else if k = 1 then c1 else if k = 2 then c2 else if k = 3 then c3 else if k = 4 then c4 else if k = 5 then c5 else if k = 6 then c6 else if k = 7 then c7 else if k = 8 then c8 else if k = 9 then c9 else c10, fun k => if k = 0 then iS0 else if k = 1 then iS1 else if k = 2 then iS2 else if k = 3 then iS3 else if k = 4 then iS4 else if k = 5 then iS5 else if k = 6 then iS6 else if k = 7 then iS7 else if k = 8 then iS8 else if k = 9 then iS9 else iS10, ?_⟩
    intro k q hq
    match k, hq with
    | 0, hq => cases hq; exact hKn0
    | 1, hq => cases hq; exact hKn1
    | 2, hq => cases hq; exact hKn2
    | 3, hq => cases hq; exact hKn3
    | 4, hq => cases hq; exact hKn4
    | 5, hq => cases hq; exact hKn5
    | 6, hq => cases hq; exact hKn6
    | 7, hq => cases hq; exact hKn7
    | 8, hq => cases hq; exact hKn8
    | 9, hq => cases hq; exact hKn9
    | 10, hq => cases hq; exact hKn10
    | k + 11, hq => simp [vwCl] at hq
  obtain ⟨cB, hB1, hB2⟩ := arr_prim (hts _ (wsL_law_in _ gw_866))
  obtain ⟨cI, hI1, hI2⟩ := arr_prim (hts _ (wsL_law_in _ gw_855))
  obtain ⟨cO, hO1, hO2⟩ := arr_obj (hts _ ao_in)
  obtain ⟨G, hG⟩ : ∃ G : Gp, G = ((dC, dI), (cB, cI, cO)) := ⟨_, rfl⟩
  have hK : va_K G.1 vwCl (yT G) s := by
    subst hG
    refine ⟨hKc, fun k q hq => ?_⟩
    match k, hq with
    | 0, hq => cases hq; exact ⟨hB1, hB2⟩
    | 1, hq => cases hq; exact ⟨hI1, hI2⟩
    | 2, hq => cases hq; exact ⟨hO1, hO2⟩
    | k + 3, hq => simp at hq
  have hNW : NW s := ⟨fun q hq => va_Nw.of rfl (hts _ (nwm_in q hq)), fun q hq => va_Nw.of rfl (hts _ (nwf_in q hq)), va_AO.of (hts _ ao_in)⟩
  have C1 : Cx code 4 ret RL p s m #[Value.ref b] meth c G (fun q : Nat => s.heap.size ≤ q) := ⟨⟨hx, hb, hml, hown, fun w hw => hts w (wsL_law_in w hw)⟩, hr, hlocks, hK, hNW, fun _ h => h⟩
  have hown : s.vm.findClass RL = some m.cls := hown
  have htl := C1.1.2.2.2.2
  have hA : ∀ q : Nat, s.heap.size ≤ q → (fun q : Nat => s.heap.size ≤ q) q := fun _ h => h
  have hS : va_S (fun q : Nat => s.heap.size ≤ q) s.heap s.heap [] := va_S.rf
  have hPD : WD G (fun q : Nat => s.heap.size ≤ q) [] s.heap := ⟨fun k q h => by simp at h, ⟨fun i j p q h => by simp at h, fun k q h => by simp at h⟩⟩
  have hl := lv_entry ([.ref b]) (n := 4) (Nat.le_of_ble_eq_true rfl)
  rw [lg_entry_eq]
  generalize (lg_sl ([.ref b]) ++ List.replicate (4 - (lg_sl ([.ref b])).length) Slot.unset).toArray = ls at hl ⊢
  have hl : lv_has ls 4 [(0, .ref b)] := hl
  refine va_new (ci := 9) (fs := [.null, .null, .null, .null, .null, .null, .null, .null, .null, .null, .null, .null, .null, .null, .int 0]) (C := RX9) (T := TX9) (N := 15) hx hb htl inlX9 tyX9 tyX9_ok hown (htl _ ge_904) (htl _ ge_902) (htl _ gw_6) hK hPD.1 hPD.2 hS hA rfl (lt_s (lt_s (lt_s (lt_s (lt_s (lt_s (lt_s (lt_s (lt_s (lt_s (lt_s (lt_s (lt_s (lt_s (lt_s (lt_0) rfl) rfl) rfl) rfl) rfl) rfl) rfl) rfl) rfl) rfl) rfl) rfl) rfl) rfl) rfl) (Nat.le_of_ble_eq_true rfl) (Nat.le_of_ble_eq_true rfl) dL_law_0 (fun h H hP hD hS => ?_)
  have hPD : WD G (fun q : Nat => s.heap.size ≤ q) [(h, .inr (9, [.null, .null, .null, .null, .null, .null, .null, .null, .null, .null, .null, .null, .null, .null, .int 0]))] H := ⟨hP, hD⟩
  clear hP hD
  refine lv_dup hx hb dL_law_3 rfl ?_
  refine kCN C1 (kt_X9_init l G h) gi_U_X9_init gw_6 ge_906 ge_907 rfl (by decide +kernel) ⟨rfl, rfl, Nat.le_of_ble_eq_true rfl, Nat.le_of_ble_eq_true rfl⟩ hPD hS [0] [] rfl rfl rfl hl.1 (Nat.le_of_ble_eq_true rfl) dL_law_4 ⟨Nat.le_of_ble_eq_true rfl, Nat.le_of_ble_eq_true rfl⟩ (fun u H locs hPD hS => ?_)
  have hPD : WD G (fun q : Nat => s.heap.size ≤ q) (wX9 G h (u 0) none (fun _ => 0) (fun _ _ => 0) ++ (wX7 G ((u 0) 0) (u 1) (fun _ => 0) (fun _ _ => 0) ++ (wX1 G ((u 0) 1) (u 2) (fun _ => 0) (fun _ _ => 0) ++ (wX6 G ((u 0) 2) (u 3) (upd (fun _ => 0) 9 1) (fun _ _ => 0) ++ (wX6 G ((u 0) 3) (u 4) (upd (fun _ => 0) 9 1) (fun _ _ => 0) ++ (wX6 G ((u 0) 4) (u 5) (upd (fun _ => 0) 9 1) (fun _ _ => 0) ++ (wB G ((u 0) 5) (u 12) (fun k => u (13 + k)) (fun _ _ => 0) (fun _ _ _ => 0) ++ (wX5 G ((u 0) 6) (u 6) (fun _ => 0) (fun _ _ => 0) ++ (wX3 G ((u 0) 7) (u 7) (fun _ => 0) (fun _ _ => 0) ++ (wX4 G ((u 0) 8) (u 8) (fun _ => 0) (fun _ _ => 0) ++ (wX0 G ((u 0) 10) (u 9) (fun _ => 0) (fun _ _ => 0) ++ (wX2 G ((u 0) 11) (u 10) (fun _ => 0) (fun _ _ => 0) ++ (wX2 G ((u 0) 12) (u 11) (fun _ => 0) (fun _ _ => 0)))))))))))))) H := hPD
  refine lv_astore_n (lv' := [(1, .ref h), (0, .ref b)]) hx hb dL_law_7 rfl hl (by decide) rfl (fun ls hl => ?_)
  refine va_new (ci := 10) (fs := [.null, .null, .null, .null, .null, .null, .int 0, .null, .int 0, .int 0, .int 0, .int 0, .int 0, .int 0, .int 0, .int 0, .int 0, .int 0, .null, .null, .null, .null, .null, .null, .null, .null, .null, .null, .null, .null, .null, .null, .null, .null, .null, .int 0, .int 0, .int 0, .int 0, .int 0, .null, .int 0, .int 0, .null, .null, .null, .null, .null, .null, .null, .null, .int 0]) (C := RX10) (T := TX10) (N := 52) hx hb htl inlX10 tyX10 tyX10_ok hown (htl _ ge_908) (htl _ ge_903) (htl _ gw_531) hK hPD.1 hPD.2 hS hA rfl (lt_s (lt_s (lt_s (lt_s (lt_s (lt_s (lt_s (lt_s (lt_s (lt_s (lt_s (lt_s (lt_s (lt_s (lt_s (lt_s (lt_s (lt_s (lt_s (lt_s (lt_s (lt_s (lt_s (lt_s (lt_s (lt_s (lt_s (lt_s (lt_s (lt_s (lt_s (lt_s (lt_s (lt_s (lt_s (lt_s (lt_s (lt_s (lt_s (lt_s (lt_s (lt_s (lt_s (lt_s (lt_s (lt_s (lt_s (lt_s (lt_s (lt_s (lt_s (lt_s (lt_0) rfl) rfl) rfl) rfl) rfl) rfl) rfl) rfl) rfl) rfl) rfl) rfl) rfl) rfl) rfl) rfl) rfl) rfl) rfl) rfl) rfl) rfl) rfl) rfl) rfl) rfl) rfl) rfl) rfl) rfl) rfl) rfl) rfl) rfl) rfl) rfl) rfl) rfl) rfl) rfl) rfl) rfl) rfl) rfl) rfl) rfl) rfl) rfl) rfl) rfl) rfl) rfl) (Nat.le_of_ble_eq_true rfl) (Nat.le_of_ble_eq_true rfl) dL_law_8 (fun hM H hP hD hS => ?_)
  have hPD : WD G (fun q : Nat => s.heap.size ≤ q) ((wX9 G h (u 0) none (fun _ => 0) (fun _ _ => 0) ++ (wX7 G ((u 0) 0) (u 1) (fun _ => 0) (fun _ _ => 0) ++ (wX1 G ((u 0) 1) (u 2) (fun _ => 0) (fun _ _ => 0) ++ (wX6 G ((u 0) 2) (u 3) (upd (fun _ => 0) 9 1) (fun _ _ => 0) ++ (wX6 G ((u 0) 3) (u 4) (upd (fun _ => 0) 9 1) (fun _ _ => 0) ++ (wX6 G ((u 0) 4) (u 5) (upd (fun _ => 0) 9 1) (fun _ _ => 0) ++ (wB G ((u 0) 5) (u 12) (fun k => u (13 + k)) (fun _ _ => 0) (fun _ _ _ => 0) ++ (wX5 G ((u 0) 6) (u 6) (fun _ => 0) (fun _ _ => 0) ++ (wX3 G ((u 0) 7) (u 7) (fun _ => 0) (fun _ _ => 0) ++ (wX4 G ((u 0) 8) (u 8) (fun _ => 0) (fun _ _ => 0) ++ (wX0 G ((u 0) 10) (u 9) (fun _ => 0) (fun _ _ => 0) ++ (wX2 G ((u 0) 11) (u 10) (fun _ => 0) (fun _ _ => 0) ++ (wX2 G ((u 0) 12) (u 11) (fun _ => 0) (fun _ _ => 0)))))))))))))) ++ [(hM, .inr (10, [.null, .null, .null, .null, .null, .null, .int 0, .null, .int 0, .int 0, .int 0, .int 0, .int 0, .int 0, .int 0, .int 0, .int 0, .int 0, .null, .null, .null, .null, .null, .null, .null, .null, .null, .null, .null, .null, .null, .null, .null, .null, .null, .int 0, .int 0, .int 0, .int 0, .int 0, .null, .int 0, .int 0, .null, .null, .null, .null, .null, .null, .null, .null, .int 0]))]) H := ⟨hP, hD⟩
  clear hP hD
  refine lv_dup hx hb dL_law_11 rfl ?_
  refine kCN C1 (kt_X10_init l G hM) gi_U_X10_init gw_531 ge_910 ge_911 rfl (by decide +kernel) ⟨rfl, rfl, Nat.le_of_ble_eq_true rfl, Nat.le_of_ble_eq_true rfl⟩ hPD hS [70] [0, 1, 2, 3, 4, 5, 6, 7, 8, 9, 10, 11, 12, 13, 14, 15, 16, 17, 18, 19, 20, 21, 22, 23, 24, 25, 26, 27, 28, 29, 30, 31, 32, 33, 34, 35, 36, 37, 38, 39, 40, 41, 42, 43, 44, 45, 46, 47, 48, 49, 50, 51, 52, 53, 54, 55, 56, 57, 58, 59, 60, 61, 62, 63, 64, 65, 66, 67, 68, 69] rfl rfl rfl hl.1 (Nat.le_of_ble_eq_true rfl) dL_law_12 ⟨Nat.le_of_ble_eq_true rfl, Nat.le_of_ble_eq_true rfl⟩ (fun aM H locs hPD hS => ?_)
  have hPD : WD G (fun q : Nat => s.heap.size ≤ q) (wX9 G h (u 0) none (ini_f 0) (ini_A 0) ++ (wX7 G (u 0 0) (u 1) (ini_f 1) (ini_A 1) ++ (wX1 G (u 0 1) (u 2) (ini_f 2) (ini_A 2) ++ (wX6 G (u 0 2) (u 3) (ini_f 3) (ini_A 3) ++ (wX6 G (u 0 3) (u 4) (ini_f 4) (ini_A 4) ++ (wX6 G (u 0 4) (u 5) (ini_f 5) (ini_A 5) ++ (wB G (u 0 5) (u 12) (fun k => u (13 + k)) ini_W ini_A ++ (wX5 G (u 0 6) (u 6) (ini_f 6) (ini_A 6) ++ (wX3 G (u 0 7) (u 7) (ini_f 7) (ini_A 7) ++ (wX4 G (u 0 8) (u 8) (ini_f 8) (ini_A 8) ++ (wX0 G (u 0 10) (u 9) (ini_f 9) (ini_A 9) ++ (wX2 G (u 0 11) (u 10) (ini_f 10) (ini_A 10) ++ (wX2 G (u 0 12) (u 11) (ini_f 11) (ini_A 11) ++ (wX10 G hM aM ini_m ini_M)))))))))))))) H := hPD
  refine lv_astore_n (lv' := [(2, .ref hM), (1, .ref h), (0, .ref b)]) hx hb dL_law_15 rfl hl (by decide) rfl (fun ls hl => ?_)
  refine lv_iconst (v := nI 0) hx hb dL_law_16 (by decide) ?_
  refine lv_istore_n (lv' := [(3, .int (nI 0)), (2, .ref hM), (1, .ref h), (0, .ref b)]) hx hb dL_law_17 rfl hl (by decide) rfl (fun ls hl => ?_)
  exact (law_loop HK C1 hX hbl hL hlocks (L + 12) 0 (by omega) (by omega)).1 h hM aM u (u 12) (fun k => u (13 + k)) ini_f ini_A ini_W ini_A ini_m ini_M _ _ H locs ls (Nat.le_of_ble_eq_true rfl) (Nat.le_of_ble_eq_true rfl) rfl rfl hini hPD hS (lv_sub hl [3, 2, 1, 0] rfl)
