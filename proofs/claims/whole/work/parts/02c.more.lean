theorem lt8 {k : Nat} (h : k < 8) : k = 0 ∨ k = 1 ∨ k = 2 ∨ k = 3 ∨ k = 4 ∨ k = 5 ∨ k = 6 ∨ k = 7 := by omega
theorem bts_lt {i : Int32} {k : Nat} (h : vp_in i 8) (e : k = i.toNatClampNeg) : k < 8 := by
  rw [e]
  exact Nat.not_le.mp fun q => h (Or.inr q)
section KM
variable {p : Program} {l : Launch} {e : Env} {R : Room} {s : State} {m : MethodId} {args : Array Value} {below : List Frame} {meth : Method} {c : Code} {H : Heap} {locs : List Loc} {Q : State → Prop}
variable {cc : ByteArray} {nL pc : Nat} {ls : Array Slot} {rt : Option FieldType} {own : String} {G : Gp} {A : Nat → Prop} {D : va_G} {cl : List vw_C} {tys : List (ClassId × FieldType)} {ws : va_W} {cells slots : Nat} {rest : List Value} {a : Nat}
theorem va_aldB (hexec : p.tables.exec = Jvm.exec) (hb : c.code = cc) (hK : va_K D cl tys s) (hP : va_P D cl ws H) (q0 t0 : Nat) {cA : ClassId} {C : String} {n : Nat} {g : Nat → Nat} (ha : ws[q0]? = some (a, .inl (cA, n, .inr (.inr (.inr (.inr (fun k => some (g k)))))))) (ht : tys[t0]? = some (cA, .object C)) {i : Int32} {k : Nat} (hin : vp_in i n) (ek : k = i.toNatClampNeg) (hdg : decode cc pc = .ok (.aaload, 1))
    (kk : W p l e R s m args below meth c H locs cells slots Q (F0 m (pc + 1) ls (.ref (g k) :: rest))) : W p l e R s m args below meth c H locs cells slots Q (F0 m pc ls (.int i :: .ref a :: rest)) := by
  subst ek
  exact va_aldq hexec hb hK hP q0 t0 ha ht hin hdg kk
/-! constructors -/
def CtrN {S : Type} (l : Launch) (y : MethodName) (cc : ByteArray) (nL : Nat) (rm : Room) (G : Gp) (av : List Value) (wc : va_W) (w1 : S → va_W) (mc ms : Nat) : Prop :=
  ∀ sz : Nat, Met l y (wsU y cc nL none) rm (va_Pc av (kB G wc sz)) (va_Qv (fun (_ : S) => True) (fun u t => va_P G.1 vwCl (w1 u) t.heap ∧ va_D (va_A wc sz) (w1 u)) (va_A wc sz)) mc ms (va_A wc sz)
abbrev QN {S : Type} (G : Gp) (A : Nat → Prop) (w1 : S → va_W) : Array Value → State → Outcome → State → Prop := va_Qv (fun (_ : S) => True) (fun u t => va_P G.1 vwCl (w1 u) t.heap ∧ va_D A (w1 u)) A
theorem ctrN_of {S : Type} {y : MethodName} {rm : Room} {av : List Value} {wc : va_W} {w1 : S → va_W} {mc ms maxL : Nat} (hy : plainName y.cls = true) (ho : y.cls = own) (hyn : y.name = "<init>") (hlen : (lg_sl av).length ≤ maxL)
    (body : ∀ (p : Program) (e : Env) (s : State) (m : MethodId) (below : List Frame) (meth : Method) (c : Code) (A : Nat → Prop), Cx cc maxL none own p s m av.toArray meth c G A → meth.name = "<init>" → va_P G.1 vwCl wc s.heap → va_D A wc → ∀ ls : Array Slot, lv_has ls maxL (lv_args 0 av) →
      W p l e rm s m av.toArray below meth c s.heap [] 0 0 (MQ below (QN G A w1) av.toArray s mc ms A) (F0 m 0 ls [])) : CtrN l y cc maxL rm G av wc w1 mc ms := by
  intro sz
  refine Met.ofW (cc := cc) (maxL := maxL) (ret := none) hy rfl ?_
  intro p e s m args below meth c s₁ B hml hv
  obtain ⟨rfl, hsz, hP, hK, hN, hD0⟩ := hv
  subst hsz
  have hD := hD0.self (sz := s.heap.size)
  have hown : s.vm.findClass own = some m.cls := by rw [← ho]; exact findClass_of_methodNamed B.named
  rw [lg_entry_eq]
  exact body p e s m below meth c (va_A wc s.heap.size) ⟨⟨B.exec, B.bytes, hml, hown, fun w hw => atoms_spec (ws := wsU y cc maxL none) B.pre w (List.mem_cons_of_mem _ hw)⟩, B.returns, B.notSynchronized, hK, hN, fun q h => Or.inr h⟩ (by rw [← hyn]; exact (name_of_methodNamed B.named B.method).1) hP hD _ (lv_entry av (n := maxL) hlen)
theorem eN {S : Type} {w1 : S → va_W} {mc ms : Nat} (u : S) {w2 : va_W} (C0 : Cx cc nL none own p s m args meth c G A) (hPD : WD G A w2 H) (isN : List Nat) (hN : isN.map (fun i => w2[i]?) = (w1 u).map some) (hnd : va_nd isN = true) (hS : va_S A s.heap H locs) (hdg : decode cc pc = .ok (.return_, 1)) : W p l e R s m args below meth c H locs mc ms (MQ below (QN G A w1) args s mc ms A) (F0 m pc ls []) := by
  obtain ⟨S0, hr, hlocks, -, -, -⟩ := C0
  have hP := pP hPD.1 hN
  have hD := hPD.2.sub isN hnd hN
  exact W.vret S0.1 S0.2.1 hr (fun t ht hW => ⟨⟨u, rfl, trivial, by rw [ht]; exact hP, hD⟩, hS.F ht⟩) hS.2.2 hdg hlocks
theorem newI (C0 : Cx cc nL rt own p s m args meth c G A) (harr : Cond.arrayClass .int ∈ wsL_law) (hPD : WD G A ws H) (hS : va_S A s.heap H locs) {n : Int32} {N : Nat} (hn : ¬ n < 0) (hN : n.toNatClampNeg = N) (hbytes : N * 4 ≤ 536870912) (hcells : cells + 1 ≤ R.cells) (hslots : slots + N ≤ R.slots) (hdg : decode cc pc = .ok (.newarray .int, 2))
    (kk : ∀ (q : Nat) (H : Heap), WD G A (ws ++ [(q, .inl (G.2.2.1, N, .inl (fun _ => 0)))]) H → va_S A s.heap H locs → W p l e R s m args below meth c H locs (cells + 1) (slots + N) Q (F0 m (pc + 2) ls (.ref q :: rest))) : W p l e R s m args below meth c H locs cells slots Q (F0 m pc ls (.int n :: rest)) := by
  obtain ⟨S0, -, -, hK, hNW, hA⟩ := C0
  refine va_newa (atype := .int) (ty := .int) (a0 := (N, .inl (fun _ => 0))) S0.1 S0.2.1 (S0.2.2.2.2 _ harr) rfl hK hPD.1 hPD.2 hS hA (fun cA => rfl) hn hN hbytes hcells hslots hdg (fun q cA H1 hK1 hP1 hD1 hS1 => ?_)
  have e1 : s.vm.findClass ("[" ++ (FieldType.int).toString) = some cA := (hK1.2 3 (cA, .int) rfl).2
  have e2 : s.vm.findClass ("[" ++ (FieldType.int).toString) = some G.2.2.1 := (hK.2 1 (G.2.2.1, .int) rfl).2
  have e3 : cA = G.2.2.1 := Option.some.inj (e1.symm.trans e2)
  subst e3
  exact kk q H1 ⟨hP1, hD1⟩ hS1
theorem newB (C0 : Cx cc nL rt own p s m args meth c G A) (harr : Cond.arrayClass .byte ∈ wsL_law) (hPD : WD G A ws H) (hS : va_S A s.heap H locs) {n : Int32} {N : Nat} (hn : ¬ n < 0) (hN : n.toNatClampNeg = N) (hbytes : N * 1 ≤ 536870912) (hcells : cells + 1 ≤ R.cells) (hslots : slots + N ≤ R.slots) (hdg : decode cc pc = .ok (.newarray .byte, 2))
    (kk : ∀ (q : Nat) (H : Heap), WD G A (ws ++ [(q, .inl (G.2.1, N, .inl (fun _ => 0)))]) H → va_S A s.heap H locs → W p l e R s m args below meth c H locs (cells + 1) (slots + N) Q (F0 m (pc + 2) ls (.ref q :: rest))) : W p l e R s m args below meth c H locs cells slots Q (F0 m pc ls (.int n :: rest)) := by
  obtain ⟨S0, -, -, hK, hNW, hA⟩ := C0
  refine va_newa (atype := .byte) (ty := .byte) (a0 := (N, .inl (fun _ => 0))) S0.1 S0.2.1 (S0.2.2.2.2 _ harr) rfl hK hPD.1 hPD.2 hS hA (fun cA => rfl) hn hN hbytes hcells hslots hdg (fun q cA H1 hK1 hP1 hD1 hS1 => ?_)
  have e1 : s.vm.findClass ("[" ++ (FieldType.byte).toString) = some cA := (hK1.2 3 (cA, .byte) rfl).2
  have e2 : s.vm.findClass ("[" ++ (FieldType.byte).toString) = some G.2.1 := (hK.2 0 (G.2.1, .byte) rfl).2
  have e3 : cA = G.2.1 := Option.some.inj (e1.symm.trans e2)
  subst e3
  exact kk q H1 ⟨hP1, hD1⟩ hS1
/-- a constructor of a nest mate -/
theorem kNN {S : Type} {y : MethodName} {rm : Room} {b : Addr} {W0 wc : va_W} {w1 : S → va_W} {bytes : ByteArray} {maxL index mc ms : Nat} {host : String} (C0 : Cx cc nL rt own p s m args meth c G A) (hM : CtrN l y bytes maxL rm G [.ref b] wc w1 mc ms) (hG : GoodIn wsL_law (wsU y bytes maxL none)) (hnw : (own, index, y, host) ∈ NWM) (hini : Cond.initialized y.cls ∈ wsL_law) (hstt : Cond.instanceMethod y ∈ wsL_law) (hyn : y.name = "<init>") (hd : y.cls ≠ "java/lang/invoke/MethodHandle" ∧ y.cls ≠ "java/lang/invoke/VarHandle" ∧ (parseMethodDescriptor y.desc).map (fun d => d.parameters.length) = some 0) (hrm : rm.cells = mc ∧ rm.slots = ms ∧ rm.frames + 1 ≤ R.frames ∧ 8 + (maxL + 11) + rm.locals ≤ R.locals)
    (hPD : WD G A W0 H) (hS : va_S A s.heap H locs)
    (isC isR : List Nat) (hC : isC.map (fun i => W0[i]?) = wc.map some) (hR : isR.map (fun i => W0[i]?) = (pick W0 isR).map some) (hch : kchk isC isR [] = true)
    (hsz : ls.size = nL) (hcat : (rest.map fun v => v.category).sum ≤ 8) (hdg : decode cc pc = .ok (.invokespecial index, 3)) (hroom : cells + mc ≤ R.cells ∧ slots + ms ≤ R.slots)
    (kk : ∀ (u : S) (H : Heap) (locs : List Loc), WD G A (pick W0 isR ++ w1 u) H → va_S A s.heap H locs → W p l e R s m args below meth c H locs (cells + mc) (slots + ms) Q (F0 m (pc + 3) ls rest)) : W p l e R s m args below meth c H locs cells slots Q (F0 m pc ls (.ref b :: rest)) := by
  obtain ⟨S0, -, -, hK, hNW, hA⟩ := C0
  obtain ⟨hP, hD⟩ := hPD
  obtain ⟨hnC, hn, -, hdis⟩ := kchk_spec hch
  have hF := va_free (wc := wc) hD hS hA isC hC
  refine va_callv (va_runIN (n := 0) (As := []) (b := b) S0 (hM H.size) ⟨va_cnB 0 S0.2.2.2.2 hG rfl hrm.1 hrm.2.1 (hNW.1 _ hnw) (S0.2.2.2.2 _ hini) hd hrm.2.2, hyn, S0.2.2.2.2 _ hstt⟩ ⟨kB_blind, kB_pre hK hNW (pP hP hC) (hD.sub isC hnC hC)⟩ rfl rfl hsz rfl (lv_room hcat) hdg hroom) hS (fun q _ h => hF q h) hF (fun u t H1 locs1 ht hvm hw hB hz1 hk1 hS1 => ?_)
  obtain ⟨hP1, hD1⟩ := hB
  rw [ht] at hP1
  obtain ⟨hP2, hD2⟩ := va_join (wr := pick W0 isR) (w1 := w1 u) hP hD isC isR hC hR hn hdis hk1 hF hP1 hD1
  exact kk u H1 locs1 ⟨hP2, hD2⟩ hS1
end KM
