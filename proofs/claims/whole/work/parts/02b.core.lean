/-! the pool of types, the nest words, and calls with their frame in one row -/
def NWM : List (String × Nat × MethodName × String) := [("IdleCrimes", 9, ⟨"IdleCrimes$Tape", "<init>", "()V"⟩, "IdleCrimes"), ("IdleCrimes", 18, ⟨"IdleCrimes$Borough", "<init>", "()V"⟩, "IdleCrimes"), ("IdleCrimes", 25, ⟨"IdleCrimes$State", "<init>", "()V"⟩, "IdleCrimes"), ("IdleCrimes", 44, ⟨"IdleCrimes$Shift", "<init>", "()V"⟩, "IdleCrimes"), ("IdleCrimes", 51, ⟨"IdleCrimes$Petition", "<init>", "()V"⟩, "IdleCrimes"), ("IdleCrimes", 58, ⟨"IdleCrimes$Rota", "<init>", "()V"⟩, "IdleCrimes"), ("IdleCrimes", 67, ⟨"IdleCrimes$Beat", "<init>", "()V"⟩, "IdleCrimes"), ("IdleCrimes", 74, ⟨"IdleCrimes$Law", "<init>", "()V"⟩, "IdleCrimes"), ("IdleCrimes$Borough", 25, ⟨"IdleCrimes", "within", "(III)Z"⟩, "IdleCrimes"), ("IdleCrimes$Borough", 29, ⟨"IdleCrimes", "has", "(II)Z"⟩, "IdleCrimes"), ("IdleCrimes$Tape", 31, ⟨"IdleCrimes", "put", "([III)V"⟩, "IdleCrimes"), ("IdleCrimes$Tape", 35, ⟨"IdleCrimes", "at", "([II)I"⟩, "IdleCrimes"), ("IdleCrimes$Law", 65, ⟨"IdleCrimes", "put", "([III)V"⟩, "IdleCrimes"), ("IdleCrimes$Tape", 65, ⟨"IdleCrimes", "within", "(III)Z"⟩, "IdleCrimes"), ("IdleCrimes$Beat", 53, ⟨"IdleCrimes", "within", "(III)Z"⟩, "IdleCrimes"), ("IdleCrimes$Beat", 25, ⟨"IdleCrimes", "at", "([II)I"⟩, "IdleCrimes"), ("IdleCrimes$Beat", 75, ⟨"IdleCrimes", "put", "([III)V"⟩, "IdleCrimes"), ("IdleCrimes$Petition", 69, ⟨"IdleCrimes", "put", "([III)V"⟩, "IdleCrimes"), ("IdleCrimes$Petition", 73, ⟨"IdleCrimes", "at", "([II)I"⟩, "IdleCrimes"), ("IdleCrimes$Petition", 82, ⟨"IdleCrimes", "clamp", "(III)I"⟩, "IdleCrimes"), ("IdleCrimes$Borough", 33, ⟨"IdleCrimes", "at", "([II)I"⟩, "IdleCrimes"), ("IdleCrimes$Borough", 37, ⟨"IdleCrimes", "put", "([III)V"⟩, "IdleCrimes"), ("IdleCrimes$State", 51, ⟨"IdleCrimes", "within", "(III)Z"⟩, "IdleCrimes"), ("IdleCrimes$State", 55, ⟨"IdleCrimes", "has", "(II)Z"⟩, "IdleCrimes"), ("IdleCrimes$Shift", 49, ⟨"IdleCrimes", "at", "([II)I"⟩, "IdleCrimes"), ("IdleCrimes$Shift", 71, ⟨"IdleCrimes", "has", "(II)Z"⟩, "IdleCrimes"), ("IdleCrimes$Shift", 75, ⟨"IdleCrimes", "put", "([III)V"⟩, "IdleCrimes"), ("IdleCrimes$Shift", 94, ⟨"IdleCrimes", "sumOf", "([II)I"⟩, "IdleCrimes"), ("IdleCrimes$Law", 113, ⟨"IdleCrimes", "at", "([II)I"⟩, "IdleCrimes"), ("IdleCrimes$Law", 121, ⟨"IdleCrimes", "clamp", "(III)I"⟩, "IdleCrimes"), ("IdleCrimes$State", 43, ⟨"IdleCrimes", "at", "([II)I"⟩, "IdleCrimes"), ("IdleCrimes$State", 47, ⟨"IdleCrimes", "put", "([III)V"⟩, "IdleCrimes"), ("IdleCrimes$State", 63, ⟨"IdleCrimes", "sumOf", "([II)I"⟩, "IdleCrimes"), ("IdleCrimes$Borough", 81, ⟨"IdleCrimes", "lowestOf", "(I)I"⟩, "IdleCrimes"), ("IdleCrimes", 249, ⟨"IdleCrimes$Walks", "<init>", "()V"⟩, "IdleCrimes"), ("IdleCrimes$Walks", 34, ⟨"IdleCrimes", "at", "([II)I"⟩, "IdleCrimes"), ("IdleCrimes$Walks", 47, ⟨"IdleCrimes", "put", "([III)V"⟩, "IdleCrimes"), ("IdleCrimes$Walks", 55, ⟨"IdleCrimes", "has", "(II)Z"⟩, "IdleCrimes"), ("IdleCrimes$Walks", 44, ⟨"IdleCrimes", "sumOf", "([II)I"⟩, "IdleCrimes"), ("IdleCrimes$Rota", 48, ⟨"IdleCrimes", "lowestOf", "(I)I"⟩, "IdleCrimes"), ("IdleCrimes$Rota", 28, ⟨"IdleCrimes", "has", "(II)Z"⟩, "IdleCrimes"), ("IdleCrimes$Rota", 36, ⟨"IdleCrimes", "at", "([II)I"⟩, "IdleCrimes"), ("IdleCrimes$Rota", 40, ⟨"IdleCrimes", "put", "([III)V"⟩, "IdleCrimes")]
def NWF : List (String × Nat × String × String × String × String) := []
abbrev Gp : Type := va_G × (ClassId × ClassId × ClassId)
abbrev yT (G : Gp) : List (ClassId × FieldType) := [(G.2.1, .byte), (G.2.2.1, .int), (G.2.2.2, .object "IdleCrimes$Beat")]
abbrev wX0 (G : Gp) (h : Nat) (a : Nat → Nat) (f : Nat → Int32) (A : Nat → Nat → Int32) : va_W := [(h, .inr (0, [.ref (a 0), .int (f 1)])), (a 0, .inl (G.2.2.1, 48, .inl (A 0)))]
abbrev wX1 (G : Gp) (h : Nat) (a : Nat → Nat) (f : Nat → Int32) (A : Nat → Nat → Int32) : va_W := [(h, .inr (1, [.int (f 0), .ref (a 1), .ref (a 2), .ref (a 3)])), (a 1, .inl (G.2.2.1, 16, .inl (A 1))), (a 2, .inl (G.2.2.1, 16, .inl (A 2))), (a 3, .inl (G.2.2.1, 16, .inl (A 3)))]
abbrev wX2 (G : Gp) (h : Nat) (a : Nat → Nat) (f : Nat → Int32) (A : Nat → Nat → Int32) : va_W := [(h, .inr (2, [.ref (a 0), .ref (a 1), .ref (a 2), .ref (a 3), .ref (a 4), .ref (a 5), .ref (a 6), .int (f 7), .int (f 8), .int (f 9)])), (a 0, .inl (G.2.2.1, 240, .inl (A 0))), (a 1, .inl (G.2.2.1, 240, .inl (A 1))), (a 2, .inl (G.2.2.1, 16, .inl (A 2))), (a 3, .inl (G.2.2.1, 16, .inl (A 3))), (a 4, .inl (G.2.2.1, 16, .inl (A 4))), (a 5, .inl (G.2.2.1, 16, .inl (A 5))), (a 6, .inl (G.2.2.1, 240, .inl (A 6)))]
abbrev wX3 (G : Gp) (h : Nat) (a : Nat → Nat) (f : Nat → Int32) (A : Nat → Nat → Int32) : va_W := [(h, .inr (3, [.ref (a 0), .ref (a 1), .ref (a 2), .int (f 3)])), (a 0, .inl (G.2.2.1, 20, .inl (A 0))), (a 1, .inl (G.2.2.1, 20, .inl (A 1))), (a 2, .inl (G.2.2.1, 20, .inl (A 2)))]
abbrev wX4 (G : Gp) (h : Nat) (a : Nat → Nat) (f : Nat → Int32) (A : Nat → Nat → Int32) : va_W := [(h, .inr (4, [.ref (a 0)])), (a 0, .inl (G.2.2.1, 16, .inl (A 0)))]
abbrev wX5 (G : Gp) (h : Nat) (a : Nat → Nat) (f : Nat → Int32) (A : Nat → Nat → Int32) : va_W := [(h, .inr (5, [.ref (a 0), .ref (a 1), .int (f 2), .int (f 3)])), (a 0, .inl (G.2.2.1, 16, .inl (A 0))), (a 1, .inl (G.2.2.1, 8, .inl (A 1)))]
abbrev wX6 (G : Gp) (h : Nat) (a : Nat → Nat) (f : Nat → Int32) (A : Nat → Nat → Int32) : va_W := [(h, .inr (6, [.ref (a 0), .ref (a 1), .ref (a 2), .ref (a 3), .ref (a 4), .int (f 5), .int (f 6), .int (f 7), .int (f 8), .int (f 9)])), (a 0, .inl (G.2.2.1, 16, .inl (A 0))), (a 1, .inl (G.2.2.1, 16, .inl (A 1))), (a 2, .inl (G.2.2.1, 16, .inl (A 2))), (a 3, .inl (G.2.2.1, 8, .inl (A 3))), (a 4, .inl (G.2.2.1, 8, .inl (A 4)))]
abbrev wX7 (G : Gp) (h : Nat) (a : Nat → Nat) (f : Nat → Int32) (A : Nat → Nat → Int32) : va_W := [(h, .inr (7, [.ref (a 0), .int (f 1), .int (f 2), .int (f 3), .int (f 4), .int (f 5)])), (a 0, .inl (G.2.2.1, 260, .inl (A 0)))]
abbrev wX8 (G : Gp) (h : Nat) (a : Nat → Nat) (f : Nat → Int32) (A : Nat → Nat → Int32) : va_W := [(h, .inr (8, [.ref (a 0), .ref (a 1), .int (f 2)])), (a 0, .inl (G.2.2.1, 65536, .inl (A 0))), (a 1, .inl (G.2.2.1, 16384, .inl (A 1)))]
abbrev wX9 (G : Gp) (h : Nat) (a : Nat → Nat) (wk : Option Nat) (f : Nat → Int32) (A : Nat → Nat → Int32) : va_W := [(h, .inr (9, [.ref (a 0), .ref (a 1), .ref (a 2), .ref (a 3), .ref (a 4), .ref (a 5), .ref (a 6), .ref (a 7), .ref (a 8), .ref (a 9), .ref (a 10), .ref (a 11), .ref (a 12), va_rf wk, .int (f 14)])), (a 9, .inl (G.2.2.1, 54, .inl (A 9)))]
abbrev wX10 (G : Gp) (h : Nat) (a : Nat → Nat) (f : Nat → Int32) (A : Nat → Nat → Int32) : va_W := [(h, .inr (10, [.ref (a 0), .ref (a 1), .ref (a 2), .ref (a 3), .ref (a 4), .ref (a 5), .int (f 6), .ref (a 7), .int (f 8), .int (f 9), .int (f 10), .int (f 11), .int (f 12), .int (f 13), .int (f 14), .int (f 15), .int (f 16), .int (f 17), .ref (a 18), .ref (a 19), .ref (a 20), .ref (a 21), .ref (a 22), .ref (a 23), .ref (a 24), .ref (a 25), .ref (a 26), .ref (a 27), .ref (a 28), .ref (a 29), .ref (a 30), .ref (a 31), .ref (a 32), .ref (a 33), .ref (a 34), .int (f 35), .int (f 36), .int (f 37), .int (f 38), .int (f 39), .ref (a 40), .int (f 41), .int (f 42), .ref (a 43), .ref (a 44), .ref (a 45), .ref (a 46), .ref (a 47), .ref (a 48), .ref (a 49), .ref (a 50), .int (f 51)])), (a 0, .inl (G.2.2.1, 76, .inl (A 0))), (a 1, .inl (G.2.2.1, 76, .inl (A 1))), (a 2, .inl (G.2.2.1, 76, .inl (A 2))), (a 3, .inl (G.2.2.1, 16, .inl (A 3))), (a 4, .inl (G.2.2.1, 8, .inl (A 4))), (a 5, .inl (G.2.2.1, 384, .inl (A 5))), (a 7, .inl (G.2.1, 260, .inl (A 7))), (a 18, .inl (G.2.2.1, 260, .inl (A 18))), (a 19, .inl (G.2.2.1, 260, .inl (A 19))), (a 20, .inl (G.2.2.1, 16, .inl (A 20))), (a 21, .inl (G.2.2.1, 16, .inl (A 21))), (a 22, .inl (G.2.2.1, 16, .inl (A 22))), (a 23, .inl (G.2.2.1, 16, .inl (A 23))), (a 24, .inl (G.2.2.1, 260, .inl (A 24))), (a 25, .inl (G.2.2.1, 16, .inl (A 25))), (a 26, .inl (G.2.2.1, 16, .inl (A 26))), (a 27, .inl (G.2.2.1, 16, .inl (A 27))), (a 28, .inl (G.2.2.1, 16, .inl (A 28))), (a 29, .inl (G.2.2.1, 260, .inl (A 29))), (a 30, .inl (G.2.2.1, 8, .inl (A 30))), (a 31, .inl (G.2.2.1, 48, .inl (A 31))), (a 32, .inl (G.2.2.1, 2, .inl (A 32))), (a 33, .inl (G.2.2.1, 2, .inl (A 33))), (a 34, .inl (G.2.2.1, 2, .inl (A 34))), (a 40, .inl (G.2.2.1, 16, .inl (A 40))), (a 43, .inl (G.2.1, 1048576, .inl (A 43))), (a 44, .inl (G.2.2.1, 524288, .inl (A 44))), (a 45, .inl (G.2.2.1, 16, .inl (A 45))), (a 46, .inl (G.2.2.1, 16, .inl (A 46))), (a 47, .inl (G.2.2.1, 16, .inl (A 47))), (a 48, .inl (G.2.2.1, 16, .inl (A 48))), (a 49, .inl (G.2.2.1, 16, .inl (A 49))), (a 50, .inl (G.2.2.1, 54, .inl (A 50)))]
abbrev wI (G : Gp) (q n : Nat) (xs : Nat → Int32) : va_W := [(q, .inl (G.2.2.1, n, .inl xs))]
abbrev wB (G : Gp) (q : Nat) (g : Nat → Nat) (a : Nat → Nat → Nat) (f : Nat → Nat → Int32) (A : Nat → Nat → Nat → Int32) : va_W := [(q, .inl (G.2.2.2, 8, .inr (.inr (.inr (.inr (fun k => some (g k))))))), (g 0, .inr (0, [.ref (a 0 0), .int (f 0 1)])), (a 0 0, .inl (G.2.2.1, 48, .inl (A 0 0))), (g 1, .inr (0, [.ref (a 1 0), .int (f 1 1)])), (a 1 0, .inl (G.2.2.1, 48, .inl (A 1 0))), (g 2, .inr (0, [.ref (a 2 0), .int (f 2 1)])), (a 2 0, .inl (G.2.2.1, 48, .inl (A 2 0))), (g 3, .inr (0, [.ref (a 3 0), .int (f 3 1)])), (a 3 0, .inl (G.2.2.1, 48, .inl (A 3 0))), (g 4, .inr (0, [.ref (a 4 0), .int (f 4 1)])), (a 4 0, .inl (G.2.2.1, 48, .inl (A 4 0))), (g 5, .inr (0, [.ref (a 5 0), .int (f 5 1)])), (a 5 0, .inl (G.2.2.1, 48, .inl (A 5 0))), (g 6, .inr (0, [.ref (a 6 0), .int (f 6 1)])), (a 6 0, .inl (G.2.2.1, 48, .inl (A 6 0))), (g 7, .inr (0, [.ref (a 7 0), .int (f 7 1)])), (a 7 0, .inl (G.2.2.1, 48, .inl (A 7 0)))]
def NW (U : State) : Prop := (∀ q ∈ NWM, va_Nw (.methodLinkNest q.1 q.2.1 q.2.2.1 q.2.2.2) U) ∧ (∀ q ∈ NWF, va_Nw (.fieldLinkNest q.1 q.2.1 q.2.2.1 q.2.2.2.1 q.2.2.2.2.1 q.2.2.2.2.2) U) ∧ va_AO "IdleCrimes$Beat" U
theorem NW.warm {s U : State} (hW : s.WarmedH U.vm) (h : NW s) : NW U := ⟨fun q hq => va_Nw.warmM hW (h.1 q hq), fun q hq => va_Nw.warmF hW (h.2.1 q hq), h.2.2.moved hW.alike⟩
theorem NW.same {s U : State} (hW : s.vm = U.vm) (h : NW s) : NW U := ⟨fun q hq => va_Nw.same rfl hW (h.1 q hq), fun q hq => va_Nw.same rfl hW (h.2.1 q hq), h.2.2.moved (hW ▸ Vm.Alike.refl s.vm)⟩
def wsU (y : MethodName) (cc : ByteArray) (nL : Nat) (ret : Option FieldType) : List Cond := .code y cc nL ret :: wsL_law
def kB (G : Gp) (wc : va_W) (sz : Nat) : State → Prop := fun U => U.heap.size = sz ∧ va_P G.1 vwCl wc U.heap ∧ va_K G.1 vwCl (yT G) U ∧ NW U ∧ va_D (fun _ => True) wc
abbrev QI (G : Gp) (A : Nat → Prop) (r : Int32) (w1 : va_W) : Array Value → State → Outcome → State → Prop := va_Qi (fun (r' : Int32) (_ : Unit) => r' = r) (fun _ t => va_P G.1 vwCl w1 t.heap ∧ va_D A w1) A
abbrev QV (G : Gp) (A : Nat → Prop) (w1 : va_W) : Array Value → State → Outcome → State → Prop := va_Qv (fun (_ : Unit) => True) (fun _ t => va_P G.1 vwCl w1 t.heap ∧ va_D A w1) A
def CtrI (l : Launch) (y : MethodName) (cc : ByteArray) (nL : Nat) (ret : Option FieldType) (rm : Room) (G : Gp) (av : List Value) (wc : va_W) (r : Int32) (w1 : va_W) : Prop :=
  ∀ sz : Nat, Met l y (wsU y cc nL ret) rm (va_Pc av (kB G wc sz)) (QI G (va_A wc sz) r w1) 0 0 (va_A wc sz)
def CtrV (l : Launch) (y : MethodName) (cc : ByteArray) (nL : Nat) (ret : Option FieldType) (rm : Room) (G : Gp) (av : List Value) (wc : va_W) (w1 : va_W) : Prop :=
  ∀ sz : Nat, Met l y (wsU y cc nL ret) rm (va_Pc av (kB G wc sz)) (QV G (va_A wc sz) w1) 0 0 (va_A wc sz)
theorem gd_app {a b : List Cond} (ha : a.all goodWord = true) (hb : b.all goodWord = true) : (a ++ b).all goodWord = true := by rw [List.all_append, ha, hb]; rfl
theorem gd_wNIL : ([] : List Cond).all goodWord = true := rfl
set_option maxRecDepth 20000 in
theorem gd_wsL_law_r1 : wsL_law_r1.all goodWord = true := by decide +kernel
set_option maxRecDepth 20000 in
theorem gd_wsL_law_r2 : wsL_law_r2.all goodWord = true := by decide +kernel
set_option maxRecDepth 20000 in
theorem gd_wsL_law_r3 : wsL_law_r3.all goodWord = true := by decide +kernel
set_option maxRecDepth 20000 in
theorem gd_wsL_law_r4 : wsL_law_r4.all goodWord = true := by decide +kernel
set_option maxRecDepth 20000 in
theorem gd_wsL_law_r5 : wsL_law_r5.all goodWord = true := by decide +kernel
set_option maxRecDepth 20000 in
theorem gd_wsL_law_r6 : wsL_law_r6.all goodWord = true := by decide +kernel
set_option maxRecDepth 20000 in
theorem gd_wsL_law_r7 : wsL_law_r7.all goodWord = true := by decide +kernel
set_option maxRecDepth 20000 in
theorem gd_wsL_law_r8 : wsL_law_r8.all goodWord = true := by decide +kernel
set_option maxRecDepth 20000 in
theorem gd_wsL_law_r9 : wsL_law_r9.all goodWord = true := by decide +kernel
set_option maxRecDepth 20000 in
theorem gd_wsL_law_r10 : wsL_law_r10.all goodWord = true := by decide +kernel
set_option maxRecDepth 20000 in
theorem gd_wsL_law_r11 : wsL_law_r11.all goodWord = true := by decide +kernel
set_option maxRecDepth 20000 in
theorem gd_wsL_law_r12 : wsL_law_r12.all goodWord = true := by decide +kernel
set_option maxRecDepth 20000 in
theorem gd_wsL_law_r13 : wsL_law_r13.all goodWord = true := by decide +kernel
set_option maxRecDepth 20000 in
theorem gd_wsL_law_r14 : wsL_law_r14.all goodWord = true := by decide +kernel
set_option maxRecDepth 20000 in
theorem gd_wsL_law_r15 : wsL_law_r15.all goodWord = true := by decide +kernel
set_option maxRecDepth 20000 in
theorem gd_wsL_law_r16 : wsL_law_r16.all goodWord = true := by decide +kernel
set_option maxRecDepth 20000 in
theorem gd_wsL_law_r17 : wsL_law_r17.all goodWord = true := by decide +kernel
set_option maxRecDepth 20000 in
theorem gd_wsL_law_r18 : wsL_law_r18.all goodWord = true := by decide +kernel
set_option maxRecDepth 20000 in
theorem gd_wsL_law_r19 : wsL_law_r19.all goodWord = true := by decide +kernel
set_option maxRecDepth 20000 in
theorem gd_wsL_law_r20 : wsL_law_r20.all goodWord = true := by decide +kernel
set_option maxRecDepth 20000 in
theorem gd_wsL_law_r21 : wsL_law_r21.all goodWord = true := by decide +kernel
set_option maxRecDepth 20000 in
theorem gd_wsL_law_r22 : wsL_law_r22.all goodWord = true := by decide +kernel
set_option maxRecDepth 20000 in
theorem gd_wsL_law_r23 : wsL_law_r23.all goodWord = true := by decide +kernel
set_option maxRecDepth 20000 in
theorem gd_wsL_law_r24 : wsL_law_r24.all goodWord = true := by decide +kernel
set_option maxRecDepth 20000 in
theorem gd_wsL_law_r25 : wsL_law_r25.all goodWord = true := by decide +kernel
set_option maxRecDepth 20000 in
theorem gd_wsL_law_r26 : wsL_law_r26.all goodWord = true := by decide +kernel
set_option maxRecDepth 20000 in
theorem gd_wsL_law_r27 : wsL_law_r27.all goodWord = true := by decide +kernel
set_option maxRecDepth 20000 in
theorem gd_wsL_law_r28 : wsL_law_r28.all goodWord = true := by decide +kernel
set_option maxRecDepth 20000 in
theorem gd_wsL_law_r29 : wsL_law_r29.all goodWord = true := by decide +kernel
set_option maxRecDepth 20000 in
theorem gd_wsL_law_r30 : wsL_law_r30.all goodWord = true := by decide +kernel
set_option maxRecDepth 20000 in
theorem gd_wsL_law_r31 : wsL_law_r31.all goodWord = true := by decide +kernel
set_option maxRecDepth 20000 in
theorem gd_wsL_law_r32 : wsL_law_r32.all goodWord = true := by decide +kernel
set_option maxRecDepth 20000 in
theorem gd_wsL_law_r33 : wsL_law_r33.all goodWord = true := by decide +kernel
set_option maxRecDepth 20000 in
theorem gd_wsL_law_r34 : wsL_law_r34.all goodWord = true := by decide +kernel
set_option maxRecDepth 20000 in
theorem gd_wsL_law_r35 : wsL_law_r35.all goodWord = true := by decide +kernel
set_option maxRecDepth 20000 in
theorem gd_wsL_law_r36 : wsL_law_r36.all goodWord = true := by decide +kernel
set_option maxRecDepth 20000 in
theorem gd_wsL_law_r37 : wsL_law_r37.all goodWord = true := by decide +kernel
set_option maxRecDepth 20000 in
theorem gd_wsL_law_r38 : wsL_law_r38.all goodWord = true := by decide +kernel
set_option maxRecDepth 20000 in
theorem gd_wsL_law_r39 : wsL_law_r39.all goodWord = true := by decide +kernel
set_option maxRecDepth 20000 in
theorem gd_wsL_law_r40 : wsL_law_r40.all goodWord = true := by decide +kernel
set_option maxRecDepth 20000 in
theorem gd_wsL_law_r41 : wsL_law_r41.all goodWord = true := by decide +kernel
set_option maxRecDepth 20000 in
theorem gd_wsL_law_r42 : wsL_law_r42.all goodWord = true := by decide +kernel
set_option maxRecDepth 20000 in
theorem gd_wsL_law_r43 : wsL_law_r43.all goodWord = true := by decide +kernel
set_option maxRecDepth 20000 in
theorem gd_wsL_law_r44 : wsL_law_r44.all goodWord = true := by decide +kernel
set_option maxRecDepth 20000 in
theorem gd_wsL_law_r45 : wsL_law_r45.all goodWord = true := by decide +kernel
set_option maxRecDepth 20000 in
theorem gd_wsL_law_r46 : wsL_law_r46.all goodWord = true := by decide +kernel
set_option maxRecDepth 20000 in
theorem gd_wsL_law_r47 : wsL_law_r47.all goodWord = true := by decide +kernel
set_option maxRecDepth 20000 in
theorem gd_wsL_law_r48 : wsL_law_r48.all goodWord = true := by decide +kernel
set_option maxRecDepth 20000 in
theorem gd_wsL_law_r49 : wsL_law_r49.all goodWord = true := by decide +kernel
set_option maxRecDepth 20000 in
theorem gd_wsX90 : wsX90.all goodWord = true := by decide +kernel
set_option maxRecDepth 20000 in
theorem gd_wsX100 : wsX100.all goodWord = true := by decide +kernel
set_option maxRecDepth 20000 in
theorem gd_wsX70 : wsX70.all goodWord = true := by decide +kernel
set_option maxRecDepth 20000 in
theorem gd_wsX10 : wsX10.all goodWord = true := by decide +kernel
set_option maxRecDepth 20000 in
theorem gd_wsX60 : wsX60.all goodWord = true := by decide +kernel
set_option maxRecDepth 20000 in
theorem gd_wsX50 : wsX50.all goodWord = true := by decide +kernel
set_option maxRecDepth 20000 in
theorem gd_wsX30 : wsX30.all goodWord = true := by decide +kernel
set_option maxRecDepth 20000 in
theorem gd_wsX40 : wsX40.all goodWord = true := by decide +kernel
set_option maxRecDepth 20000 in
theorem gd_wsX00 : wsX00.all goodWord = true := by decide +kernel
set_option maxRecDepth 20000 in
theorem gd_wsX20 : wsX20.all goodWord = true := by decide +kernel
set_option maxRecDepth 20000 in
theorem gd_wsX80 : wsX80.all goodWord = true := by decide +kernel
set_option maxRecDepth 20000 in
theorem wsL_good : wsL_law.all goodWord = true := (gd_app (gd_app (gd_app (gd_app (gd_app (gd_app (gd_app (gd_app (gd_app (gd_app (gd_app (gd_app (gd_app gd_wsL_law_r1 (gd_app gd_wsL_law_r2 (gd_app gd_wsL_law_r3 (gd_app gd_wsL_law_r4 (gd_app gd_wsL_law_r5 (gd_app gd_wsL_law_r6 (gd_app gd_wsL_law_r7 (gd_app gd_wsL_law_r8 (gd_app gd_wsL_law_r9 (gd_app gd_wsL_law_r10 (gd_app gd_wsL_law_r11 (gd_app gd_wsL_law_r12 (gd_app gd_wsL_law_r13 (gd_app gd_wsL_law_r14 (gd_app gd_wsL_law_r15 (gd_app gd_wsL_law_r16 (gd_app gd_wsL_law_r17 (gd_app gd_wsL_law_r18 (gd_app gd_wsL_law_r19 (gd_app gd_wsL_law_r20 (gd_app gd_wsL_law_r21 (gd_app gd_wsL_law_r22 (gd_app gd_wsL_law_r23 (gd_app gd_wsL_law_r24 (gd_app gd_wsL_law_r25 (gd_app gd_wsL_law_r26 (gd_app gd_wsL_law_r27 (gd_app gd_wsL_law_r28 (gd_app gd_wsL_law_r29 (gd_app gd_wsL_law_r30 (gd_app gd_wsL_law_r31 (gd_app gd_wsL_law_r32 (gd_app gd_wsL_law_r33 (gd_app gd_wsL_law_r34 (gd_app gd_wsL_law_r35 (gd_app gd_wsL_law_r36 (gd_app gd_wsL_law_r37 (gd_app gd_wsL_law_r38 (gd_app gd_wsL_law_r39 (gd_app gd_wsL_law_r40 (gd_app gd_wsL_law_r41 (gd_app gd_wsL_law_r42 (gd_app gd_wsL_law_r43 (gd_app gd_wsL_law_r44 (gd_app gd_wsL_law_r45 (gd_app gd_wsL_law_r46 (gd_app gd_wsL_law_r47 (gd_app gd_wsL_law_r48 gd_wsL_law_r49)))))))))))))))))))))))))))))))))))))))))))))))) gd_wsX90) gd_wsX100) gd_wsX70) gd_wsX10) gd_wsX60) gd_wsX50) gd_wsX30) gd_wsX40) gd_wsX00) gd_wsX20) gd_wsX80) gd_wNIL)
theorem wsL_gi : GoodIn wsL_law wsL_law := goodIn_sub (fun _ h => h) wsL_good
theorem gdw {w : Cond} (h : w ∈ wsL_law) : w ∈ wsL_law ∧ ((w.onTables && w.keeps) = true ∨ ∃ ty, w = .arrayClass ty) := wsL_gi w h
theorem gdU {y : MethodName} {cc : ByteArray} {nL : Nat} {ret : Option FieldType} (h : Cond.code y cc nL ret ∈ wsL_law) : GoodIn wsL_law (wsU y cc nL ret) := fun w hw => by
  rcases List.mem_cons.mp hw with rfl | hw
  · exact gdw h
  · exact gdw hw
theorem gdV {own C : String} {idx : Nat} {y : MethodName} {cc : ByteArray} {nL : Nat} {ret : Option FieldType} (h1 : Cond.methodLink own idx y ∈ wsL_law) (h2 : Cond.instanceMethod y ∈ wsL_law) (h3 : Cond.selects C y y ∈ wsL_law) (h4 : Cond.initialized C ∈ wsL_law) (h5 : Cond.code y cc nL ret ∈ wsL_law) : GoodIn wsL_law (wsV own idx C y (wsU y cc nL ret)) := fun w hw => by
  rcases List.mem_append.mp hw with hw | hw
  · simp only [List.mem_cons, List.not_mem_nil, or_false] at hw
    rcases hw with rfl | rfl | rfl | rfl
    · exact gdw h1
    · exact gdw h2
    · exact gdw h3
    · exact gdw h4
  · exact gdU h5 w hw
theorem gdS {own : String} {idx : Nat} {y : MethodName} {cc : ByteArray} {nL : Nat} {ret : Option FieldType} (h1 : Cond.methodLink own idx y ∈ wsL_law) (h2 : Cond.static y ∈ wsL_law) (h4 : Cond.initialized y.cls ∈ wsL_law) (h5 : Cond.code y cc nL ret ∈ wsL_law) : GoodIn wsL_law (va_wsS own idx y (wsU y cc nL ret)) := fun w hw => by
  rcases List.mem_append.mp hw with hw | hw
  · simp only [List.mem_cons, List.not_mem_nil, or_false] at hw
    rcases hw with rfl | rfl | rfl
    · exact gdw h1
    · exact gdw h2
    · exact gdw h4
  · exact gdU h5 w hw
/-- what holds all through a method's body -/
def Cx (cc : ByteArray) (nL : Nat) (ret : Option FieldType) (own : String) (p : Program) (s : State) (m : MethodId) (args : Array Value) (meth : Method) (c : Code) (G : Gp) (A : Nat → Prop) : Prop :=
  CallFix p m c cc nL s args wsL_law own ∧ meth.sig.returnType = ret ∧ meth.locks = false ∧ va_K G.1 vwCl (yT G) s ∧ NW s ∧ ∀ q : Nat, s.heap.size ≤ q → A q
def pick (W0 : va_W) (is : List Nat) : va_W := is.filterMap (fun i => W0[i]?)
def WD (G : Gp) (A : Nat → Prop) (W0 : va_W) (H : Heap) : Prop := va_P G.1 vwCl W0 H ∧ va_D A W0
def kchk (isC isR isN : List Nat) : Bool := va_nd isC && (va_nd isR && (va_nd isN && isR.all (fun i => !(isC.contains i))))
theorem kchk_spec {isC isR isN : List Nat} (h : kchk isC isR isN = true) : va_nd isC = true ∧ va_nd isR = true ∧ va_nd isN = true ∧ ∀ i ∈ isR, i ∉ isC := by
  simp only [kchk, Bool.and_eq_true, List.all_eq_true] at h
  refine ⟨h.1, h.2.1, h.2.2.1, fun i hi hc => ?_⟩
  have := h.2.2.2 i hi
  simp [List.contains_iff_mem, hc] at this
theorem nbool {v : Int32} (h : v = 0 ∨ v = 1) : narrow .boolean (.int v) = .int v := by rcases h with rfl | rfl <;> rfl
theorem fm_of_map {α β : Type} {f : α → Option β} : ∀ {is : List α} {w : List β}, is.map f = w.map some → is.filterMap f = w := by
  intro is
  induction is with
  | nil => intro w h; cases w with
    | nil => rfl
    | cons a t => simp at h
  | cons i t ih => intro w h; cases w with
    | nil => simp at h
    | cons a u =>
      simp only [List.map_cons, List.cons.injEq] at h
      rw [List.filterMap_cons_some h.1, ih h.2]
theorem pP {D : va_G} {cl : List vw_C} {ws ws' : va_W} {H : Heap} (h : va_P D cl ws H) {is : List Nat} (hs : is.map (fun i => ws[i]?) = ws'.map some) : va_P D cl ws' H := h.sub is (fm_of_map hs)
theorem kB_blind {G : Gp} {av : List Value} {wc : va_W} {sz : Nat} : FrameBlind (va_Pc av (kB G wc sz)) := fun a U g mk q => by
  obtain ⟨q0, q1, qP, qK, qN, qD⟩ := q
  exact ⟨q0, q1, qP, va_K.moved (u := U) (U := U.calling g mk a) (Vm.Alike.refl U.vm) qK, NW.same (s := U) rfl qN, qD⟩
theorem kB_pre {G : Gp} {av : List Value} {wc : va_W} {A : Nat → Prop} {H : Heap} {s : State} (hK : va_K G.1 vwCl (yT G) s) (hN : NW s) (hP : va_P G.1 vwCl wc H) (hD : va_D A wc) : ∀ U : State, U.heap = H → s.WarmedH U.vm → va_Pc av (kB G wc H.size) av.toArray U := fun U hU hW => ⟨rfl, by rw [hU], by rw [hU]; exact hP, va_K.moved hW.alike hK, NW.warm hW hN, hD.weaken (fun _ _ _ _ => trivial)⟩
/-- a method's contract out of its body -/
theorem ctrI_of {l : Launch} {y : MethodName} {rm : Room} {G : Gp} {av : List Value} {wc w1 : va_W} {r : Int32} {cc : ByteArray} {maxL : Nat} {ret : Option FieldType} {own : String} (hy : plainName y.cls = true) (ho : y.cls = own) (hlen : (lg_sl av).length ≤ maxL)
    (body : ∀ (p : Program) (e : Env) (s : State) (m : MethodId) (below : List Frame) (meth : Method) (c : Code) (A : Nat → Prop), Cx cc maxL ret own p s m av.toArray meth c G A → va_P G.1 vwCl wc s.heap → va_D A wc → ∀ ls : Array Slot, lv_has ls maxL (lv_args 0 av) →
      W p l e rm s m av.toArray below meth c s.heap [] 0 0 (MQ below (QI G A r w1) av.toArray s 0 0 A) (F0 m 0 ls [])) : CtrI l y cc maxL ret rm G av wc r w1 := by
  intro sz
  refine Met.ofW (cc := cc) (maxL := maxL) (ret := ret) hy rfl ?_
  intro p e s m args below meth c s₁ B hml hv
  obtain ⟨rfl, hsz, hP, hK, hN, hD0⟩ := hv
  subst hsz
  have hD := hD0.self (sz := s.heap.size)
  have hown : s.vm.findClass own = some m.cls := by rw [← ho]; exact findClass_of_methodNamed B.named
  rw [lg_entry_eq]
  exact body p e s m below meth c (va_A wc s.heap.size) ⟨⟨B.exec, B.bytes, hml, hown, fun w hw => atoms_spec (ws := wsU y cc maxL ret) B.pre w (List.mem_cons_of_mem _ hw)⟩, B.returns, B.notSynchronized, hK, hN, fun q h => Or.inr h⟩ hP hD _ (lv_entry av (n := maxL) hlen)
theorem ctrV_of {l : Launch} {y : MethodName} {rm : Room} {G : Gp} {av : List Value} {wc w1 : va_W} {cc : ByteArray} {maxL : Nat} {ret : Option FieldType} {own : String} (hy : plainName y.cls = true) (ho : y.cls = own) (hlen : (lg_sl av).length ≤ maxL)
    (body : ∀ (p : Program) (e : Env) (s : State) (m : MethodId) (below : List Frame) (meth : Method) (c : Code) (A : Nat → Prop), Cx cc maxL ret own p s m av.toArray meth c G A → va_P G.1 vwCl wc s.heap → va_D A wc → ∀ ls : Array Slot, lv_has ls maxL (lv_args 0 av) →
      W p l e rm s m av.toArray below meth c s.heap [] 0 0 (MQ below (QV G A w1) av.toArray s 0 0 A) (F0 m 0 ls [])) : CtrV l y cc maxL ret rm G av wc w1 := by
  intro sz
  refine Met.ofW (cc := cc) (maxL := maxL) (ret := ret) hy rfl ?_
  intro p e s m args below meth c s₁ B hml hv
  obtain ⟨rfl, hsz, hP, hK, hN, hD0⟩ := hv
  subst hsz
  have hD := hD0.self (sz := s.heap.size)
  have hown : s.vm.findClass own = some m.cls := by rw [← ho]; exact findClass_of_methodNamed B.named
  rw [lg_entry_eq]
  exact body p e s m below meth c (va_A wc s.heap.size) ⟨⟨B.exec, B.bytes, hml, hown, fun w hw => atoms_spec (ws := wsU y cc maxL ret) B.pre w (List.mem_cons_of_mem _ hw)⟩, B.returns, B.notSynchronized, hK, hN, fun q h => Or.inr h⟩ hP hD _ (lv_entry av (n := maxL) hlen)
section KC
variable {p : Program} {l : Launch} {e : Env} {R : Room} {s : State} {m : MethodId} {args : Array Value} {below : List Frame} {meth : Method} {c : Code} {H : Heap} {locs : List Loc} {Q : State → Prop}
variable {cc : ByteArray} {nL pc : Nat} {ls : Array Slot} {rt : Option FieldType} {own : String} {G : Gp} {A : Nat → Prop}
theorem lv_nm {x y : Int32} {cells slots : Nat} {rest : List Value} (ey : y = x) (k : W p l e R s m args below meth c H locs cells slots Q (F0 m pc ls (.int y :: rest))) : W p l e R s m args below meth c H locs cells slots Q (F0 m pc ls (.int x :: rest)) := ey ▸ k
theorem lv_swT {cells slots : Nat} {rest : List Value} {dflt lo hi : Int} {offs : Array Int} {len : Nat} {x k : Int32} {tgt : Nat} (hexec : p.tables.exec = Jvm.exec) (hb : c.code = cc) (hdg : decode cc pc = .ok (.tableswitch dflt lo hi offs, len)) (hk : x = k) (hin : ¬ k.toInt < lo ∧ ¬ hi < k.toInt) (ho : (offs[(k.toInt - lo).toNat]?).map (fun o => (pc : Int) + o) = some (tgt : Int))
    (kk : W p l e R s m args below meth c H locs cells slots Q (F0 m tgt ls rest)) : W p l e R s m args below meth c H locs cells slots Q (F0 m pc ls (.int x :: rest)) := by
  subst hk
  cases ho2 : offs[(x.toInt - lo).toNat]? with
  | none => rw [ho2] at ho; cases ho
  | some o =>
    rw [ho2] at ho
    exact lv_tableIn hexec hb hdg hin.1 hin.2 ho2 (by simpa using ho) kk
def swne (x : Int32) : List Int32 → Prop
  | [] => True
  | k :: ks => ¬ x = k ∧ swne x ks
theorem swne_mem {x : Int32} : ∀ {ks : List Int32}, swne x ks → ∀ k ∈ ks, x ≠ k := by
  intro ks
  induction ks with
  | nil => intro _ k hk; cases hk
  | cons a t ih => intro h k hk; rcases List.mem_cons.mp hk with rfl | h2; exact h.1; exact ih h.2 k h2
theorem lv_swTD {cells slots : Nat} {rest : List Value} {dflt lo hi : Int} {offs : Array Int} {len : Nat} {x : Int32} {ks : List Int32} {tgt : Nat} (hexec : p.tables.exec = Jvm.exec) (hb : c.code = cc) (hdg : decode cc pc = .ok (.tableswitch dflt lo hi offs, len)) (hsz : hi = lo + offs.size - 1) (hall : (List.range offs.size).all (fun j => ks.any (fun k => k.toInt == lo + j) || offs[j]? == some dflt) = true) (hne : swne x ks) (ht : (pc : Int) + dflt = (tgt : Int))
    (kk : W p l e R s m args below meth c H locs cells slots Q (F0 m tgt ls rest)) : W p l e R s m args below meth c H locs cells slots Q (F0 m pc ls (.int x :: rest)) := by
  by_cases h1 : x.toInt < lo
  · exact lv_tableOut hexec hb hdg (Or.inl h1) ht kk
  by_cases h2 : hi < x.toInt
  · exact lv_tableOut hexec hb hdg (Or.inr h2) ht kk
  have hj : (x.toInt - lo).toNat < offs.size := by omega
  have hb1 := List.all_eq_true.mp hall _ (List.mem_range.mpr hj)
  rw [Bool.or_eq_true] at hb1
  rcases hb1 with hb1 | hb1
  · obtain ⟨k, hk, hk2⟩ := List.any_eq_true.mp hb1
    refine absurd ?_ (swne_mem hne k hk)
    have e : k.toInt = lo + ((x.toInt - lo).toNat : Int) := by simpa using hk2
    exact Int32.toInt_inj.mp (by omega)
  · exact lv_tableIn hexec hb hdg h1 h2 (off := dflt) (by simpa using hb1) ht kk
theorem lv_swL {cells slots : Nat} {rest : List Value} {dflt : Int} {ps : Array (Int × Int)} {len : Nat} {x k : Int32} {tgt : Nat} (hexec : p.tables.exec = Jvm.exec) (hb : c.code = cc) (hdg : decode cc pc = .ok (.lookupswitch dflt ps, len)) (hk : x = k) (hp : (ps.toList.zip (ps.toList.drop 1)).all (fun (a, next) => a.1 < next.1) = true) (ho : (pc : Int) + Op.lookupswitch.offset ps.toList dflt k.toInt = (tgt : Int)) (_h : True)
    (kk : W p l e R s m args below meth c H locs cells slots Q (F0 m tgt ls rest)) : W p l e R s m args below meth c H locs cells slots Q (F0 m pc ls (.int x :: rest)) := by
  subst hk
  exact lv_lookup hexec hb hdg hp rfl ho kk
/-- an int comes back, the frame rule with it -/
theorem k_i {rest st0 : List Value} {a : Array Value} {r : Int32} {W0 wc w1 wN wr : va_W} (hr : va_Run p l e R s m args below meth c H locs 0 0 0 0 (F0 m pc ls st0) rest (QI G (va_A wc H.size) r w1 a) (va_A wc H.size)) (hPD : WD G A W0 H) (hS : va_S A s.heap H locs) (hA : ∀ q : Nat, s.heap.size ≤ q → A q)
    {isC isR isN : List Nat} (hC : isC.map (fun i => W0[i]?) = wc.map some) (hR : isR.map (fun i => W0[i]?) = wr.map some) (hch : kchk isC isR isN = true) (hN : isN.map (fun i => (wr ++ w1)[i]?) = wN.map some)
    (kk : ∀ (H : Heap) (locs : List Loc), WD G A wN H → va_S A s.heap H locs → W p l e R s m args below meth c H locs 0 0 Q (F0 m (pc + 3) ls (.int r :: rest))) : W p l e R s m args below meth c H locs 0 0 Q (F0 m pc ls st0) := by
  obtain ⟨hP, hD⟩ := hPD
  obtain ⟨hnC, hn, hnN, hdis⟩ := kchk_spec hch
  have hF := va_free (wc := wc) hD hS hA isC hC
  refine va_calli hr hS (fun q _ h => hF q h) hF (fun r' u t H1 locs1 ht hvm hw hB hz1 hk1 hS1 => ?_)
  subst hw
  obtain ⟨hP1, hD1⟩ := hB
  rw [ht] at hP1
  obtain ⟨hP2, hD2⟩ := va_join (wr := wr) (w1 := w1) hP hD isC isR hC hR hn hdis hk1 hF hP1 hD1
  exact kk H1 locs1 ⟨pP hP2 hN, hD2.sub isN hnN hN⟩ hS1
theorem k_v {rest st0 : List Value} {a : Array Value} {W0 wc w1 wN wr : va_W} (hr : va_Run p l e R s m args below meth c H locs 0 0 0 0 (F0 m pc ls st0) rest (QV G (va_A wc H.size) w1 a) (va_A wc H.size)) (hPD : WD G A W0 H) (hS : va_S A s.heap H locs) (hA : ∀ q : Nat, s.heap.size ≤ q → A q)
    {isC isR isN : List Nat} (hC : isC.map (fun i => W0[i]?) = wc.map some) (hR : isR.map (fun i => W0[i]?) = wr.map some) (hch : kchk isC isR isN = true) (hN : isN.map (fun i => (wr ++ w1)[i]?) = wN.map some)
    (kk : ∀ (H : Heap) (locs : List Loc), WD G A wN H → va_S A s.heap H locs → W p l e R s m args below meth c H locs 0 0 Q (F0 m (pc + 3) ls rest)) : W p l e R s m args below meth c H locs 0 0 Q (F0 m pc ls st0) := by
  obtain ⟨hP, hD⟩ := hPD
  obtain ⟨hnC, hn, hnN, hdis⟩ := kchk_spec hch
  have hF := va_free (wc := wc) hD hS hA isC hC
  refine va_callv hr hS (fun q _ h => hF q h) hF (fun u t H1 locs1 ht hvm hw hB hz1 hk1 hS1 => ?_)
  obtain ⟨hP1, hD1⟩ := hB
  rw [ht] at hP1
  obtain ⟨hP2, hD2⟩ := va_join (wr := wr) (w1 := w1) hP hD isC isR hC hR hn hdis hk1 hF hP1 hD1
  exact kk H1 locs1 ⟨pP hP2 hN, hD2.sub isN hnN hN⟩ hS1
variable {y : MethodName} {rm : Room} {b : Addr} {As rest st0 : List Value} {W0 wc w1 wN wr : va_W} {r : Int32} {bytes : ByteArray} {maxL n index : Nat} {ret : Option FieldType} {C host : String} {isC isR isN : List Nat}
theorem kVI (C0 : Cx cc nL rt own p s m args meth c G A) (hM : CtrI l y bytes maxL ret rm G (.ref b :: As) wc r w1) (hG : GoodIn wsL_law (wsV own index C y (wsU y bytes maxL ret))) (hnA : As.length = n) (hd : y.cls ≠ "java/lang/invoke/MethodHandle" ∧ y.cls ≠ "java/lang/invoke/VarHandle" ∧ (parseMethodDescriptor y.desc).map (fun d => d.parameters.length) = some n) (hcs : C = y.cls) (hrm : rm.cells = 0 ∧ rm.slots = 0 ∧ rm.frames + 1 ≤ R.frames ∧ 8 + (maxL + 11) + rm.locals ≤ R.locals)
    (hPD : WD G A W0 H) (hS : va_S A s.heap H locs) (q0 ci : Nat) {q : vw_C} {fs : List Value} (hcl : vwCl[ci]? = some q) (hqC : q.1 = C) (hq0 : W0[q0]? = some (b, .inr (ci, fs)))
    (isC isR isN : List Nat) (hC : isC.map (fun i => W0[i]?) = wc.map some) (hR : isR.map (fun i => W0[i]?) = wr.map some) (hch : kchk isC isR isN = true) (hN : isN.map (fun i => (wr ++ w1)[i]?) = wN.map some)
    (hst : st0 = As.reverse ++ .ref b :: rest) (hsz : ls.size = nL) (hcat : (rest.map fun v => v.category).sum ≤ 8) (hdg : decode cc pc = .ok (.invokevirtual index, 3))
    (kk : ∀ (H : Heap) (locs : List Loc), WD G A wN H → va_S A s.heap H locs → W p l e R s m args below meth c H locs 0 0 Q (F0 m (pc + 3) ls (.int r :: rest))) : W p l e R s m args below meth c H locs 0 0 Q (F0 m pc ls st0) := by
  obtain ⟨S, -, -, hK, hNW, hA⟩ := C0
  have hP := hPD.1
  have hD := hPD.2
  have hnC := (kchk_spec hch).1
  refine k_i (va_runV (C := C) (n := n) S (hM H.size) (cwV n S.2.2.2.2 hG rfl hrm.1 hrm.2.1 ⟨hcs.symm, hd⟩ hrm.2.2) ⟨kB_blind, ?_, kB_pre hK hNW (pP hP hC) (hD.sub isC hnC hC)⟩ rfl hnA hsz hst (lv_room hcat) hdg ⟨Nat.zero_le _, Nat.zero_le _⟩) hPD hS hA hC hR hch hN kk
  rw [← hqC]
  exact va_recv hK hP hcl hq0
theorem kVV (C0 : Cx cc nL rt own p s m args meth c G A) (hM : CtrV l y bytes maxL ret rm G (.ref b :: As) wc w1) (hG : GoodIn wsL_law (wsV own index C y (wsU y bytes maxL ret))) (hnA : As.length = n) (hd : y.cls ≠ "java/lang/invoke/MethodHandle" ∧ y.cls ≠ "java/lang/invoke/VarHandle" ∧ (parseMethodDescriptor y.desc).map (fun d => d.parameters.length) = some n) (hcs : C = y.cls) (hrm : rm.cells = 0 ∧ rm.slots = 0 ∧ rm.frames + 1 ≤ R.frames ∧ 8 + (maxL + 11) + rm.locals ≤ R.locals)
    (hPD : WD G A W0 H) (hS : va_S A s.heap H locs) (q0 ci : Nat) {q : vw_C} {fs : List Value} (hcl : vwCl[ci]? = some q) (hqC : q.1 = C) (hq0 : W0[q0]? = some (b, .inr (ci, fs)))
    (isC isR isN : List Nat) (hC : isC.map (fun i => W0[i]?) = wc.map some) (hR : isR.map (fun i => W0[i]?) = wr.map some) (hch : kchk isC isR isN = true) (hN : isN.map (fun i => (wr ++ w1)[i]?) = wN.map some)
    (hst : st0 = As.reverse ++ .ref b :: rest) (hsz : ls.size = nL) (hcat : (rest.map fun v => v.category).sum ≤ 8) (hdg : decode cc pc = .ok (.invokevirtual index, 3))
    (kk : ∀ (H : Heap) (locs : List Loc), WD G A wN H → va_S A s.heap H locs → W p l e R s m args below meth c H locs 0 0 Q (F0 m (pc + 3) ls rest)) : W p l e R s m args below meth c H locs 0 0 Q (F0 m pc ls st0) := by
  obtain ⟨S, -, -, hK, hNW, hA⟩ := C0
  have hP := hPD.1
  have hD := hPD.2
  have hnC := (kchk_spec hch).1
  refine k_v (va_runV (C := C) (n := n) S (hM H.size) (cwV n S.2.2.2.2 hG rfl hrm.1 hrm.2.1 ⟨hcs.symm, hd⟩ hrm.2.2) ⟨kB_blind, ?_, kB_pre hK hNW (pP hP hC) (hD.sub isC hnC hC)⟩ rfl hnA hsz hst (lv_room hcat) hdg ⟨Nat.zero_le _, Nat.zero_le _⟩) hPD hS hA hC hR hch hN kk
  rw [← hqC]
  exact va_recv hK hP hcl hq0
theorem kSI (C0 : Cx cc nL rt own p s m args meth c G A) (hM : CtrI l y bytes maxL ret rm G As wc r w1) (hG : GoodIn wsL_law (va_wsS own index y (wsU y bytes maxL ret))) (hnA : As.length = n) (hd : y.cls ≠ "java/lang/invoke/MethodHandle" ∧ y.cls ≠ "java/lang/invoke/VarHandle" ∧ (parseMethodDescriptor y.desc).map (fun d => d.parameters.length) = some n) (hrm : rm.cells = 0 ∧ rm.slots = 0 ∧ rm.frames + 1 ≤ R.frames ∧ 8 + (maxL + 11) + rm.locals ≤ R.locals)
    (hPD : WD G A W0 H) (hS : va_S A s.heap H locs)
    (isC isR isN : List Nat) (hC : isC.map (fun i => W0[i]?) = wc.map some) (hR : isR.map (fun i => W0[i]?) = wr.map some) (hch : kchk isC isR isN = true) (hN : isN.map (fun i => (wr ++ w1)[i]?) = wN.map some)
    (hst : st0 = As.reverse ++ rest) (hsz : ls.size = nL) (hcat : (rest.map fun v => v.category).sum ≤ 8) (hdg : decode cc pc = .ok (.invokestatic index, 3))
    (kk : ∀ (H : Heap) (locs : List Loc), WD G A wN H → va_S A s.heap H locs → W p l e R s m args below meth c H locs 0 0 Q (F0 m (pc + 3) ls (.int r :: rest))) : W p l e R s m args below meth c H locs 0 0 Q (F0 m pc ls st0) := by
  obtain ⟨S, -, -, hK, hNW, hA⟩ := C0
  have hP := hPD.1
  have hD := hPD.2
  have hnC := (kchk_spec hch).1
  exact k_i (va_runS (n := n) S (hM H.size) (va_cwS n S.2.2.2.2 hG rfl hrm.1 hrm.2.1 hd hrm.2.2) ⟨kB_blind, kB_pre hK hNW (pP hP hC) (hD.sub isC hnC hC)⟩ rfl hnA hsz hst (lv_room hcat) hdg ⟨Nat.zero_le _, Nat.zero_le _⟩) hPD hS hA hC hR hch hN kk
theorem kSV (C0 : Cx cc nL rt own p s m args meth c G A) (hM : CtrV l y bytes maxL ret rm G As wc w1) (hG : GoodIn wsL_law (va_wsS own index y (wsU y bytes maxL ret))) (hnA : As.length = n) (hd : y.cls ≠ "java/lang/invoke/MethodHandle" ∧ y.cls ≠ "java/lang/invoke/VarHandle" ∧ (parseMethodDescriptor y.desc).map (fun d => d.parameters.length) = some n) (hrm : rm.cells = 0 ∧ rm.slots = 0 ∧ rm.frames + 1 ≤ R.frames ∧ 8 + (maxL + 11) + rm.locals ≤ R.locals)
    (hPD : WD G A W0 H) (hS : va_S A s.heap H locs)
    (isC isR isN : List Nat) (hC : isC.map (fun i => W0[i]?) = wc.map some) (hR : isR.map (fun i => W0[i]?) = wr.map some) (hch : kchk isC isR isN = true) (hN : isN.map (fun i => (wr ++ w1)[i]?) = wN.map some)
    (hst : st0 = As.reverse ++ rest) (hsz : ls.size = nL) (hcat : (rest.map fun v => v.category).sum ≤ 8) (hdg : decode cc pc = .ok (.invokestatic index, 3))
    (kk : ∀ (H : Heap) (locs : List Loc), WD G A wN H → va_S A s.heap H locs → W p l e R s m args below meth c H locs 0 0 Q (F0 m (pc + 3) ls rest)) : W p l e R s m args below meth c H locs 0 0 Q (F0 m pc ls st0) := by
  obtain ⟨S, -, -, hK, hNW, hA⟩ := C0
  have hP := hPD.1
  have hD := hPD.2
  have hnC := (kchk_spec hch).1
  exact k_v (va_runS (n := n) S (hM H.size) (va_cwS n S.2.2.2.2 hG rfl hrm.1 hrm.2.1 hd hrm.2.2) ⟨kB_blind, kB_pre hK hNW (pP hP hC) (hD.sub isC hnC hC)⟩ rfl hnA hsz hst (lv_room hcat) hdg ⟨Nat.zero_le _, Nat.zero_le _⟩) hPD hS hA hC hR hch hN kk
/-- a static one of a nest mate -/
theorem kNI (C0 : Cx cc nL rt own p s m args meth c G A) (hM : CtrI l y bytes maxL ret rm G As wc r w1) (hG : GoodIn wsL_law (wsU y bytes maxL ret)) (hnw : (own, index, y, host) ∈ NWM) (hini : Cond.initialized y.cls ∈ wsL_law) (hstt : Cond.static y ∈ wsL_law) (hnA : As.length = n) (hd : y.cls ≠ "java/lang/invoke/MethodHandle" ∧ y.cls ≠ "java/lang/invoke/VarHandle" ∧ (parseMethodDescriptor y.desc).map (fun d => d.parameters.length) = some n) (hrm : rm.cells = 0 ∧ rm.slots = 0 ∧ rm.frames + 1 ≤ R.frames ∧ 8 + (maxL + 11) + rm.locals ≤ R.locals)
    (hPD : WD G A W0 H) (hS : va_S A s.heap H locs)
    (isC isR isN : List Nat) (hC : isC.map (fun i => W0[i]?) = wc.map some) (hR : isR.map (fun i => W0[i]?) = wr.map some) (hch : kchk isC isR isN = true) (hN : isN.map (fun i => (wr ++ w1)[i]?) = wN.map some)
    (hst : st0 = As.reverse ++ rest) (hsz : ls.size = nL) (hcat : (rest.map fun v => v.category).sum ≤ 8) (hdg : decode cc pc = .ok (.invokestatic index, 3))
    (kk : ∀ (H : Heap) (locs : List Loc), WD G A wN H → va_S A s.heap H locs → W p l e R s m args below meth c H locs 0 0 Q (F0 m (pc + 3) ls (.int r :: rest))) : W p l e R s m args below meth c H locs 0 0 Q (F0 m pc ls st0) := by
  obtain ⟨S, -, -, hK, hNW, hA⟩ := C0
  have hP := hPD.1
  have hD := hPD.2
  have hnC := (kchk_spec hch).1
  exact k_i (va_runSN (n := n) S (hM H.size) ⟨va_cnB n S.2.2.2.2 hG rfl hrm.1 hrm.2.1 (hNW.1 _ hnw) (S.2.2.2.2 _ hini) hd hrm.2.2, S.2.2.2.2 _ hstt, trivial⟩ ⟨kB_blind, kB_pre hK hNW (pP hP hC) (hD.sub isC hnC hC)⟩ rfl hnA hsz hst (lv_room hcat) hdg ⟨Nat.zero_le _, Nat.zero_le _⟩) hPD hS hA hC hR hch hN kk
theorem kNV (C0 : Cx cc nL rt own p s m args meth c G A) (hM : CtrV l y bytes maxL ret rm G As wc w1) (hG : GoodIn wsL_law (wsU y bytes maxL ret)) (hnw : (own, index, y, host) ∈ NWM) (hini : Cond.initialized y.cls ∈ wsL_law) (hstt : Cond.static y ∈ wsL_law) (hnA : As.length = n) (hd : y.cls ≠ "java/lang/invoke/MethodHandle" ∧ y.cls ≠ "java/lang/invoke/VarHandle" ∧ (parseMethodDescriptor y.desc).map (fun d => d.parameters.length) = some n) (hrm : rm.cells = 0 ∧ rm.slots = 0 ∧ rm.frames + 1 ≤ R.frames ∧ 8 + (maxL + 11) + rm.locals ≤ R.locals)
    (hPD : WD G A W0 H) (hS : va_S A s.heap H locs)
    (isC isR isN : List Nat) (hC : isC.map (fun i => W0[i]?) = wc.map some) (hR : isR.map (fun i => W0[i]?) = wr.map some) (hch : kchk isC isR isN = true) (hN : isN.map (fun i => (wr ++ w1)[i]?) = wN.map some)
    (hst : st0 = As.reverse ++ rest) (hsz : ls.size = nL) (hcat : (rest.map fun v => v.category).sum ≤ 8) (hdg : decode cc pc = .ok (.invokestatic index, 3))
    (kk : ∀ (H : Heap) (locs : List Loc), WD G A wN H → va_S A s.heap H locs → W p l e R s m args below meth c H locs 0 0 Q (F0 m (pc + 3) ls rest)) : W p l e R s m args below meth c H locs 0 0 Q (F0 m pc ls st0) := by
  obtain ⟨S, -, -, hK, hNW, hA⟩ := C0
  have hP := hPD.1
  have hD := hPD.2
  have hnC := (kchk_spec hch).1
  exact k_v (va_runSN (n := n) S (hM H.size) ⟨va_cnB n S.2.2.2.2 hG rfl hrm.1 hrm.2.1 (hNW.1 _ hnw) (S.2.2.2.2 _ hini) hd hrm.2.2, S.2.2.2.2 _ hstt, trivial⟩ ⟨kB_blind, kB_pre hK hNW (pP hP hC) (hD.sub isC hnC hC)⟩ rfl hnA hsz hst (lv_room hcat) hdg ⟨Nat.zero_le _, Nat.zero_le _⟩) hPD hS hA hC hR hch hN kk
/-- ends -/
theorem eI {r v : Int32} {w1 : va_W} (C0 : Cx cc nL (some .int) own p s m args meth c G A) (hP : va_P G.1 vwCl w1 H) (hD : va_D A w1) (hS : va_S A s.heap H locs) (hv : v = r) (hdg : decode cc pc = .ok (.ireturn, 1)) : W p l e R s m args below meth c H locs 0 0 (MQ below (QI G A r w1) args s 0 0 A) (F0 m pc ls [.int v]) := by
  obtain ⟨S, hr, hlocks, -, -, -⟩ := C0
  exact W.iret S.1 S.2.1 hr (fun t ht hW => ⟨⟨v, (), rfl, hv, by rw [ht]; exact hP, hD⟩, hS.F ht⟩) hS.2.2 hdg hlocks
theorem eZ {r v : Int32} {w1 : va_W} (C0 : Cx cc nL (some .boolean) own p s m args meth c G A) (hP : va_P G.1 vwCl w1 H) (hD : va_D A w1) (hS : va_S A s.heap H locs) (hv : v = r) (hn : narrow .boolean (.int v) = .int v) (hdg : decode cc pc = .ok (.ireturn, 1)) : W p l e R s m args below meth c H locs 0 0 (MQ below (QI G A r w1) args s 0 0 A) (F0 m pc ls [.int v]) := by
  obtain ⟨S, hr, hlocks, -, -, -⟩ := C0
  exact W.zret S.1 S.2.1 hr hn (fun t ht hW => ⟨⟨v, (), rfl, hv, by rw [ht]; exact hP, hD⟩, hS.F ht⟩) hS.2.2 hdg hlocks
theorem eV {w1 : va_W} (C0 : Cx cc nL none own p s m args meth c G A) (hP : va_P G.1 vwCl w1 H) (hD : va_D A w1) (hS : va_S A s.heap H locs) (hdg : decode cc pc = .ok (.return_, 1)) : W p l e R s m args below meth c H locs 0 0 (MQ below (QV G A w1) args s 0 0 A) (F0 m pc ls []) := by
  obtain ⟨S, hr, hlocks, -, -, -⟩ := C0
  exact W.vret S.1 S.2.1 hr (fun t ht hW => ⟨⟨(), rfl, trivial, by rw [ht]; exact hP, hD⟩, hS.F ht⟩) hS.2.2 hdg hlocks
end KC
