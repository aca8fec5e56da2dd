def lk (l : List Nat) (k : Nat) : Nat := l.getD k 0
section KL
variable {p : Program} {l : Launch} {e : Env} {R : Room} {s : State} {m : MethodId} {args : Array Value} {below : List Frame} {meth : Method} {c : Code} {H : Heap} {locs : List Loc} {Q : State → Prop}
variable {cc : ByteArray} {pc : Nat} {ls : Array Slot}
theorem lko_d (x : Int32) (d : Int) : ∀ (ps : List (Int × Int)) (ks : List Int32), ps.map (fun q => q.1) = ks.map Int32.toInt → swne x ks → Op.lookupswitch.offset ps d x.toInt = d := by
  intro ps
  induction ps with
  | nil => intro ks _ _; rfl
  | cons q t ih =>
    intro ks h1 h2
    cases ks with
    | nil => simp at h1
    | cons k ks =>
      obtain ⟨a, o⟩ := q
      simp only [List.map_cons, List.cons.injEq] at h1
      rw [Op.lookupswitch.offset_cons, if_neg (fun h => h2.1 (Int32.toInt_inj.mp (h.symm.trans h1.1)))]
      exact ih ks h1.2 h2.2
theorem lv_swLD {cells slots : Nat} {rest : List Value} {dflt : Int} {ps : Array (Int × Int)} {len : Nat} {x : Int32} {ks : List Int32} {tgt : Nat} (hexec : p.tables.exec = Jvm.exec) (hb : c.code = cc) (hdg : decode cc pc = .ok (.lookupswitch dflt ps, len)) (hp : (ps.toList.zip (ps.toList.drop 1)).all (fun (a, next) => a.1 < next.1) = true) (hks : ps.toList.map (fun q => q.1) = ks.map Int32.toInt) (hne : swne x ks) (ht : (pc : Int) + dflt = (tgt : Int))
    (kk : W p l e R s m args below meth c H locs cells slots Q (F0 m tgt ls rest)) : W p l e R s m args below meth c H locs cells slots Q (F0 m pc ls (.int x :: rest)) :=
  lv_lookup hexec hb hdg hp (lko_d x dflt ps.toList ks hks hne) ht kk
end KL
/-! methods that move references: the addresses behind them are told by an existential -/
def CtrIE {S : Type} (l : Launch) (y : MethodName) (cc : ByteArray) (nL : Nat) (ret : Option FieldType) (rm : Room) (G : Gp) (av : List Value) (wc : va_W) (r : Int32) (w1 : S → va_W) : Prop :=
  ∀ sz : Nat, Met l y (wsU y cc nL ret) rm (va_Pc av (kB G wc sz)) (va_Qi (fun (r' : Int32) (_ : S) => r' = r) (fun u t => va_P G.1 vwCl (w1 u) t.heap ∧ va_D (va_A wc sz) (w1 u)) (va_A wc sz)) 0 0 (va_A wc sz)
abbrev QIE {S : Type} (G : Gp) (A : Nat → Prop) (r : Int32) (w1 : S → va_W) : Array Value → State → Outcome → State → Prop := va_Qi (fun (r' : Int32) (_ : S) => r' = r) (fun u t => va_P G.1 vwCl (w1 u) t.heap ∧ va_D A (w1 u)) A
theorem ctrIE_of {S : Type} {l : Launch} {y : MethodName} {rm : Room} {G : Gp} {av : List Value} {wc : va_W} {w1 : S → va_W} {r : Int32} {cc : ByteArray} {maxL : Nat} {ret : Option FieldType} {own : String} (hy : plainName y.cls = true) (ho : y.cls = own) (hlen : (lg_sl av).length ≤ maxL)
    (body : ∀ (p : Program) (e : Env) (s : State) (m : MethodId) (below : List Frame) (meth : Method) (c : Code) (A : Nat → Prop), Cx cc maxL ret own p s m av.toArray meth c G A → va_P G.1 vwCl wc s.heap → va_D A wc → ∀ ls : Array Slot, lv_has ls maxL (lv_args 0 av) →
      W p l e rm s m av.toArray below meth c s.heap [] 0 0 (MQ below (QIE G A r w1) av.toArray s 0 0 A) (F0 m 0 ls [])) : CtrIE l y cc maxL ret rm G av wc r w1 := by
  intro sz
  refine Met.ofW (cc := cc) (maxL := maxL) (ret := ret) hy rfl ?_
  intro p e s m args below meth c s₁ B hml hv
  obtain ⟨rfl, hsz, hP, hK, hN, hD0⟩ := hv
  subst hsz
  have hD := hD0.self (sz := s.heap.size)
  have hown : s.vm.findClass own = some m.cls := by rw [← ho]; exact findClass_of_methodNamed B.named
  rw [lg_entry_eq]
  exact body p e s m below meth c (va_A wc s.heap.size) ⟨⟨B.exec, B.bytes, hml, hown, fun w hw => atoms_spec (ws := wsU y cc maxL ret) B.pre w (List.mem_cons_of_mem _ hw)⟩, B.returns, B.notSynchronized, hK, hN, fun q h => Or.inr h⟩ hP hD _ (lv_entry av (n := maxL) hlen)
section KE
variable {p : Program} {l : Launch} {e : Env} {R : Room} {s : State} {m : MethodId} {args : Array Value} {below : List Frame} {meth : Method} {c : Code} {H : Heap} {locs : List Loc} {Q : State → Prop}
variable {cc : ByteArray} {nL pc : Nat} {ls : Array Slot} {own : String} {G : Gp} {A : Nat → Prop} {D : va_G} {cl : List vw_C} {tys : List (ClassId × FieldType)} {ws : va_W} {rest : List Value} {a : Nat}
theorem eIE {S : Type} {w1 : S → va_W} (u : S) {r v : Int32} {w2 : va_W} (C0 : Cx cc nL (some .int) own p s m args meth c G A) (hPD : WD G A w2 H) (isN : List Nat) (hN : isN.map (fun i => w2[i]?) = (w1 u).map some) (hnd : va_nd isN = true) (hS : va_S A s.heap H locs) (hv : v = r) (hdg : decode cc pc = .ok (.ireturn, 1)) : W p l e R s m args below meth c H locs 0 0 (MQ below (QIE G A r w1) args s 0 0 A) (F0 m pc ls [.int v]) := by
  obtain ⟨S0, hr, hlocks, -, -, -⟩ := C0
  have hP := pP hPD.1 hN
  have hD := hPD.2.sub isN hnd hN
  exact W.iret S0.1 S0.2.1 hr (fun t ht hW => ⟨⟨v, u, rfl, hv, by rw [ht]; exact hP, hD⟩, hS.F ht⟩) hS.2.2 hdg hlocks
theorem va_up_some (g : Nat → Nat) (k v : Nat) : va_up (fun j => some (g j)) k (some v) = fun j => some (va_up g k v j) := by
  funext j
  unfold va_up
  split <;> rfl
theorem va_astB {H0 : Heap} {cells slots : Nat} (hexec : p.tables.exec = Jvm.exec) (hb : c.code = cc) (hK : va_K D cl tys s) (hP : va_P D cl ws H) (hD : va_D A ws) (hS : va_S A H0 H locs) (q0 t0 qk ci : Nat) {cA : ClassId} {r : vw_C} {n v : Nat} {vs : List Value} {g : Nat → Nat} (ha : ws[q0]? = some (a, .inl (cA, n, .inr (.inr (.inr (.inr (fun k => some (g k)))))))) (ht : tys[t0]? = some (cA, .object r.1)) (hv : ws[qk]? = some (v, .inr (ci, vs))) (hc : cl[ci]? = some r) {i : Int32} {k : Nat} (hin : vp_in i n) (ek : k = i.toNatClampNeg) (hdg : decode cc pc = .ok (.aastore, 1))
    (kk : ∀ (H1 : Heap) (locs1 : List Loc), va_P D cl (ws.set q0 (a, .inl (cA, n, .inr (.inr (.inr (.inr (fun j => some (va_up g k v j)))))))) H1 → va_D A (ws.set q0 (a, .inl (cA, n, .inr (.inr (.inr (.inr (fun j => some (va_up g k v j)))))))) → va_S A H0 H1 locs1 → W p l e R s m args below meth c H1 locs1 cells slots Q (F0 m (pc + 1) ls rest)) : W p l e R s m args below meth c H locs cells slots Q (F0 m pc ls (.ref v :: .int i :: .ref a :: rest)) := by
  subst ek
  refine va_astq hexec hb hK hP hD hS q0 t0 qk ci ha ht hv hc hin hdg (fun H1 locs1 hP1 hD1 hS1 => ?_)
  rw [va_up_some] at hP1 hD1
  exact kk H1 locs1 hP1 hD1 hS1
end KE
/-! a method of a class of the JDK that has no row in the table of natives -/
theorem ctrI_ofF {l : Launch} {y : MethodName} {rm : Room} {G : Gp} {av : List Value} {wc w1 : va_W} {r : Int32} {cc : ByteArray} {maxL : Nat} {ret : Option FieldType} {own : String} (hy : plainFor y = true) (ho : y.cls = own) (hlen : (lg_sl av).length ≤ maxL)
    (body : ∀ (p : Program) (e : Env) (s : State) (m : MethodId) (below : List Frame) (meth : Method) (c : Code) (A : Nat → Prop), Cx cc maxL ret own p s m av.toArray meth c G A → va_P G.1 vwCl wc s.heap → va_D A wc → ∀ ls : Array Slot, lv_has ls maxL (lv_args 0 av) →
      W p l e rm s m av.toArray below meth c s.heap [] 0 0 (MQ below (QI G A r w1) av.toArray s 0 0 A) (F0 m 0 ls [])) : CtrI l y cc maxL ret rm G av wc r w1 := by
  intro sz
  refine MetFree.of_bodySF (code := cc) (maxLocals := maxL) (ret := ret) hy ?_ ?_
  · intro args s m h hn
    obtain ⟨meth, c, h1, h2, h3, h4, h5, h6, -, -⟩ := Cond.code_spec hn (atoms_spec (ws := wsU y cc maxL ret) h _ List.mem_cons_self)
    exact ⟨meth, c, h1, h2, h3, h4, h5, h6⟩
  · intro p e s m args below meth c s₁ B hml hv _
    have hh0 : s₁.heap = s.heap := by rw [B.state]; rfl
    obtain ⟨rfl, hsz, hP, hK, hN, hD0⟩ := hv
    subst hsz
    have hD := hD0.self (sz := s.heap.size)
    have hown : s.vm.findClass own = some m.cls := by rw [← ho]; exact findClass_of_methodNamed B.named
    have K := body p e s m below meth c (va_A wc s.heap.size) ⟨⟨B.exec, B.bytes, hml, hown, fun w hw => atoms_spec (ws := wsU y cc maxL ret) B.pre w (List.mem_cons_of_mem _ hw)⟩, B.returns, B.notSynchronized, hK, hN, fun q h => Or.inr h⟩ hP hD _ (lv_entry av (n := maxL) hlen)
    rw [← lg_entry_eq] at K
    obtain ⟨t, a1, o, b1, b2, b3⟩ := K s₁ hh0 (Stand.of_body B)
    exact ⟨t, o, a1, b1, b2, ⟨b3.1, b3.2⟩⟩
def lkk (l : List (Nat → Nat)) (k : Nat) : Nat → Nat := l.getD k (fun _ => 0)
theorem arrV_congr (cA : ClassId) (n : Nat) {f g : Nat → Value} (h : ∀ k, k < n → f k = g k) : arrV cA n f = arrV cA n g := by
  unfold arrV
  congr 1
  apply Array.ext
  · simp
  · intro i h1 h2
    simp only [Array.getElem_ofFn]
    exact h i (by simpa using h1)
theorem wd_q8 {G : Gp} {A : Nat → Prop} {W0 : va_W} {H : Heap} (h : WD G A W0 H) (i : Nat) {q : Nat} {cA : ClassId} {f : Nat → Option Nat} {g : Nat → Nat} (hi : W0[i]? = some (q, .inl (cA, 8, .inr (.inr (.inr (.inr f)))))) (hf : ∀ k, k < 8 → f k = some (g k)) : WD G A (W0.set i (q, .inl (cA, 8, .inr (.inr (.inr (.inr (fun k => some (g k)))))))) H := by
  have hlt : i < W0.length := (List.getElem?_eq_some_iff.mp hi).1
  refine ⟨fun k e he => ?_, ⟨fun k j x y hx hy hxy => ?_, fun k e he => ?_⟩⟩
  · by_cases hk : i = k
    · subst hk
      rw [List.getElem?_set_self hlt] at he
      cases he
      have h1 : H[q]? = some (vp_cell cA (8, .inr (.inr (.inr (.inr f))))) := h.1 i _ hi
      have h3 : vp_cell cA (8, .inr (.inr (.inr (.inr f)))) = vp_cell cA (8, .inr (.inr (.inr (.inr (fun k => some (g k)))))) := by
        rw [vp_cell_q, vp_cell_q]
        exact arrV_congr cA 8 (fun k hk => by rw [hf k hk])
      exact h1.trans (congrArg some h3)
    · rw [List.getElem?_set_ne hk] at he
      exact h.1 k e he
  · have hfst : ∀ (k : Nat) (x : Nat × va_E), (W0.set i (q, Sum.inl (cA, 8, Sum.inr (Sum.inr (Sum.inr (Sum.inr (fun k => some (g k))))))))[k]? = some x → ∃ y : Nat × va_E, W0[k]? = some y ∧ y.1 = x.1 := by
      intro k x hx
      by_cases hk : i = k
      · subst hk
        rw [List.getElem?_set_self hlt] at hx
        cases hx
        exact ⟨_, hi, rfl⟩
      · rw [List.getElem?_set_ne hk] at hx
        exact ⟨x, hx, rfl⟩
    obtain ⟨x', hx', ex⟩ := hfst k x hx
    obtain ⟨y', hy', ey⟩ := hfst j y hy
    exact h.2.1 k j x' y' hx' hy' (by rw [ex, ey]; exact hxy)
  · by_cases hk : i = k
    · subst hk
      rw [List.getElem?_set_self hlt] at he
      cases he
      have h4 : A q := h.2.2 i _ hi
      exact h4
    · rw [List.getElem?_set_ne hk] at he
      exact h.2.2 k e he
section KQ
variable {p : Program} {l : Launch} {e : Env} {R : Room} {s : State} {m : MethodId} {args : Array Value} {below : List Frame} {meth : Method} {c : Code} {H : Heap} {locs : List Loc} {Q : State → Prop}
variable {cc : ByteArray} {nL pc : Nat} {ls : Array Slot} {rt : Option FieldType} {G : Gp} {A : Nat → Prop} {ws : va_W} {cells slots : Nat} {rest : List Value}
theorem newQ (C0 : Cx cc nL rt "IdleCrimes" p s m args meth c G A) {index : Nat} (hcl : Cond.classLink "IdleCrimes" index "IdleCrimes$Beat" ∈ wsL_law) (hPD : WD G A ws H) (hS : va_S A s.heap H locs) {n : Int32} {N : Nat} (hn : ¬ n < 0) (hN : n.toNatClampNeg = N) (hbytes : N * 4 ≤ 536870912) (hcells : cells + 1 ≤ R.cells) (hslots : slots + N ≤ R.slots) (hdg : decode cc pc = .ok (.anewarray index, 3))
    (kk : ∀ (q : Nat) (H : Heap), WD G A (ws ++ [(q, .inl (G.2.2.2, N, .inr (.inr (.inr (.inr (fun _ => none))))))]) H → va_S A s.heap H locs → W p l e R s m args below meth c H locs (cells + 1) (slots + N) Q (F0 m (pc + 3) ls (.ref q :: rest))) : W p l e R s m args below meth c H locs cells slots Q (F0 m pc ls (.int n :: rest)) := by
  obtain ⟨S0, -, -, hK, hNW, hA⟩ := C0
  refine va_newq (C := "IdleCrimes$Beat") S0.1 S0.2.1 S0.2.2.2.1 (S0.2.2.2.2 _ hcl) hNW.2.2 hK hPD.1 hPD.2 hS hA hn hN hbytes hcells hslots hdg (fun q cA H1 hK1 hP1 hD1 hS1 => ?_)
  have e1 : va_RA s cA (.object "IdleCrimes$Beat") := (hK1.2 3 (cA, .object "IdleCrimes$Beat") rfl).2
  have e2 : va_RA s G.2.2.2 (.object "IdleCrimes$Beat") := (hK.2 2 (G.2.2.2, .object "IdleCrimes$Beat") rfl).2
  obtain ⟨_, _, _, _, _, e3⟩ := e1
  obtain ⟨_, _, _, _, _, e4⟩ := e2
  have e5 : cA = G.2.2.2 := Option.some.inj (e3.symm.trans e4)
  subst e5
  exact kk q H1 ⟨hP1, hD1⟩ hS1
end KQ
