def lk (l : List Nat) (k : Nat) : Nat := l.getD k 0
section KL
variable {p : Program} {l : Launch} {e : Env} {R : Room} {s : State} {m : MethodId} {args : Array Value} {below : List Frame} {meth : Method} {c : Code} {H : Heap} {locs : List Loc} {Q : State → Prop}
variable {cc : ByteArray} {pc : Nat} {ls : Array Slot}
theorem lko_d (x : Int32) (d : Int) : ∀ (ps : List (Int × Int)) (ks : List Int32), ps.map (fun q => q.1) = ks.map Int32.toInt → swne x ks → Op.lookupswitch.offset ps d x.toInt = d := by
  intro ps
  induction ps with
  | nil => intro ks _ _; rfl
  | cons q t ih =>
    intro ks h1 h2
    cases ks with
    | nil => simp at h1
    | cons k ks =>
      obtain ⟨a, o⟩ := q
      simp only [List.map_cons, List.cons.injEq] at h1
      rw [Op.lookupswitch.offset_cons, if_neg (fun h => h2.1 (Int32.toInt_inj.mp (h.symm.trans h1.1)))]
      exact ih ks h1.2 h2.2
theorem lv_swLD {cells slots : Nat} {rest : List Value} {dflt : Int} {ps : Array (Int × Int)} {len : Nat} {x : Int32} {ks : List Int32} {tgt : Nat} (hexec : p.tables.exec = Jvm.exec) (hb : c.code = cc) (hdg : decode cc pc = .ok (.lookupswitch dflt ps, len)) (hp : (ps.toList.zip (ps.toList.drop 1)).all (fun (a, next) => a.1 < next.1) = true) (hks : ps.toList.map (fun q => q.1) = ks.map Int32.toInt) (hne : swne x ks) (ht : (pc : Int) + dflt = (tgt : Int))
    (kk : W p l e R s m args below meth c H locs cells slots Q (F0 m tgt ls rest)) : W p l e R s m args below meth c H locs cells slots Q (F0 m pc ls (.int x :: rest)) :=
  lv_lookup hexec hb hdg hp (lko_d x dflt ps.toList ks hks hne) ht kk
end KL
/-! methods that move references: the addresses behind them are told by an existential -/
def CtrIE {S : Type} (l : Launch) (y : MethodName) (cc : ByteArray) (nL : Nat) (ret : Option FieldType) (rm : Room) (G : Gp) (av : List Value) (wc : va_W) (r : Int32) (w1 : S → va_W) : Prop :=
  ∀ sz : Nat, Met l y (wsU y cc nL ret) rm (va_Pc av (kB G wc sz)) (va_Qi (fun (r' : Int32) (_ : S) => r' = r) (fun u t => va_P G.1 vwCl (w1 u) t.heap ∧ va_D (va_A wc sz) (w1 u)) (va_A wc sz)) 0 0 (va_A wc sz)
abbrev QIE {S : Type} (G : Gp) (A : Nat → Prop) (r : Int32) (w1 : S → va_W) : Array Value → State → Outcome → State → Prop := va_Qi (fun (r' : Int32) (_ : S) => r' = r) (fun u t => va_P G.1 vwCl (w1 u) t.heap ∧ va_D A (w1 u)) A
theorem ctrIE_of {S : Type} {l : Launch} {y : MethodName} {rm : Room} {G : Gp} {av : List Value} {wc : va_W} {w1 : S → va_W} {r : Int32} {cc : ByteArray} {maxL : Nat} {ret : Option FieldType} {own : String} (hy : plainName y.cls = true) (ho : y.cls = own) (hlen : (lg_sl av).length ≤ maxL)
    (body : ∀ (p : Program) (e : Env) (s : State) (m : MethodId) (below : List Frame) (meth : Method) (c : Code) (A : Nat → Prop), Cx cc maxL ret own p s m av.toArray meth c G A → va_P G.1 vwCl wc s.heap → va_D A wc → ∀ ls : Array Slot, lv_has ls maxL (lv_args 0 av) →
      W p l e rm s m av.toArray below meth c s.heap [] 0 0 (MQ below (QIE G A r w1) av.toArray s 0 0 A) (F0 m 0 ls [])) : CtrIE l y cc maxL ret rm G av wc r w1 := by
  intro sz
  refine Met.ofW (cc := cc) (maxL := maxL) (ret := ret) hy rfl ?_
  intro p e s m args below meth c s₁ B hml hv
  obtain ⟨rfl, hsz, hP, hK, hN, hD0⟩ := hv
  subst hsz
  have hD := hD0.self (sz := s.heap.size)
  have hown : s.vm.findClass own = some m.cls := by rw [← ho]; exact findClass_of_methodNamed B.named
  rw [lg_entry_eq]
  exact body p e s m below meth c (va_A wc s.heap.size) ⟨⟨B.exec, B.bytes, hml, hown, fun w hw => atoms_spec (ws := wsU y cc maxL ret) B.pre w (List.mem_cons_of_mem _ hw)⟩, B.returns, B.notSynchronized, hK, hN, fun q h => Or.inr h⟩ hP hD _ (lv_entry av (n := maxL) hlen)
section KE
variable {p : Program} {l : Launch} {e : Env} {R : Room} {s : State} {m : MethodId} {args : Array Value} {below : List Frame} {meth : Method} {c : Code} {H : Heap} {locs : List Loc} {Q : State → Prop}
variable {cc : ByteArray} {nL pc : Nat} {ls : Array Slot} {own : String} {G : Gp} {A : Nat → Prop} {D : va_G} {cl : List vw_C} {tys : List (ClassId × FieldType)} {ws : va_W} {rest : List Value} {a : Nat}
theorem eIE {S : Type} {w1 : S → va_W} (u : S) {r v : Int32} {w2 : va_W} (C0 : Cx cc nL (some .int) own p s m args meth c G A) (hPD : WD G A w2 H) (isN : List Nat) (hN : isN.map (fun i => w2[i]?) = (w1 u).map some) (hnd : va_nd isN = true) (hS : va_S A s.heap H locs) (hv : v = r) (hdg : decode cc pc = .ok (.ireturn, 1)) : W p l e R s m args below meth c H locs 0 0 (MQ below (QIE G A r w1) args s 0 0 A) (F0 m pc ls [.int v]) := by
  obtain ⟨S0, hr, hlocks, -, -, -⟩ := C0
  have hP := pP hPD.1 hN
  have hD := hPD.2.sub isN hnd hN
  exact W.iret S0.1 S0.2.1 hr (fun t ht hW => ⟨⟨v, u, rfl, hv, by rw [ht]; exact hP, hD⟩, hS.F ht⟩) hS.2.2 hdg hlocks
theorem va_up_some (g : Nat → Nat) (k v : Nat) : va_up (fun j => some (g j)) k (some v) = fun j => some (va_up g k v j) := by
  funext j
  unfold va_up
  split <;> rfl
theorem va_astB {H0 : Heap} {cells slots : Nat} (hexec : p.tables.exec = Jvm.exec) (hb : c.code = cc) (hK : va_K D cl tys s) (hP : va_P D cl ws H) (hD : va_D A ws) (hS : va_S A H0 H locs) (q0 t0 qk ci : Nat) {cA : ClassId} {r : vw_C} {n v : Nat} {vs : List Value} {g : Nat → Nat} (ha : ws[q0]? = some (a, .inl (cA, n, .inr (.inr (.inr (.inr (fun k => some (g k)))))))) (ht : tys[t0]? = some (cA, .object r.1)) (hv : ws[qk]? = some (v, .inr (ci, vs))) (hc : cl[ci]? = some r) {i : Int32} {k : Nat} (hin : vp_in i n) (ek : k = i.toNatClampNeg) (hdg : decode cc pc = .ok (.aastore, 1))
    (kk : ∀ (H1 : Heap) (locs1 : List Loc), va_P D cl (ws.set q0 (a, .inl (cA, n, .inr (.inr (.inr (.inr (fun j => some (va_up g k v j)))))))) H1 → va_D A (ws.set q0 (a, .inl (cA, n, .inr (.inr (.inr (.inr (fun j => some (va_up g k v j)))))))) → va_S A H0 H1 locs1 → W p l e R s m args below meth c H1 locs1 cells slots Q (F0 m (pc + 1) ls rest)) : W p l e R s m args below meth c H locs cells slots Q (F0 m pc ls (.ref v :: .int i :: .ref a :: rest)) := by
  subst ek
  refine va_astq hexec hb hK hP hD hS q0 t0 qk ci ha ht hv hc hin hdg (fun H1 locs1 hP1 hD1 hS1 => ?_)
  rw [va_up_some] at hP1 hD1
  exact kk H1 locs1 hP1 hD1 hS1
end KE
