/-! what each method of the class and of the reference computes, as a function; laid by a program out of the printed instructions -/
abbrev imax (x y : Int32) : Int32 := if x < y then y else x
abbrev imin (x y : Int32) : Int32 := if y < x then y else x
noncomputable def fJ9_floorMod_7cf53 (p0 : Int32) (p1 : Int32) : Option (Int32) :=
  if p1 = 0 then none else
  if 0 ≤ (p0 ^^^ p1) then
    some (irm p0 p1)
  else
    if (irm p0 p1) = 0 then
      some (irm p0 p1)
    else
      some ((irm p0 p1) + p1)
def f9_at (n0 : Nat) (xs0 : Nat → Int32) (p1 : Int32) : Int32 := if p1 < 0 ∨ n0 ≤ p1.toNatClampNeg then 0 else gx xs0 p1
noncomputable def f0_stepAt (f0 : Nat → Int32) (A0 : Nat → Nat → Int32) (p1 : Int32) : Option (Int32) :=
  if (f0 1) ≤ 0 then
    some (-1)
  else
    (fJ9_floorMod_7cf53 p1 (f0 1)).bind fun q_1 =>
    some (f9_at 48 (A0 0) q_1)
noncomputable def f7_isFine (f0 : Nat → Int32) (A0 : Nat → Nat → Int32) : Int32 :=
  if (f0 4) = 0 then
    1
  else
    0
theorem f7_isFine_b (f0 : Nat → Int32) (A0 : Nat → Nat → Int32) : f7_isFine f0 A0 = 0 ∨ f7_isFine f0 A0 = 1 := by
  unfold f7_isFine
  try simp only [letv]
  repeat' split
  all_goals first | exact Or.inl rfl | exact Or.inr rfl | (simp; done)
noncomputable def f7_look (f0 : Nat → Int32) (A0 : Nat → Nat → Int32) : Int32 :=
  if (f0 2) ≤ (f0 3) then
    (-1)
  else
    (f9_at 260 (A0 0) (f0 3))
noncomputable def f7_reader (f0 : Nat → Int32) (A0 : Nat → Nat → Int32) : Int32 :=
  f0 3
noncomputable def f9_within (p0 : Int32) (p1 : Int32) (p2 : Int32) : Int32 :=
  if p0 < p1 then
    0
  else
    if p2 < p0 then
      0
    else
      1
theorem f9_within_b (p0 : Int32) (p1 : Int32) (p2 : Int32) : f9_within p0 p1 p2 = 0 ∨ f9_within p0 p1 p2 = 1 := by
  unfold f9_within
  try simp only [letv]
  repeat' split
  all_goals first | exact Or.inl rfl | exact Or.inr rfl | (simp; done)
noncomputable def f7_step (f0 : Nat → Int32) (A0 : Nat → Nat → Int32) : (Nat → Int32) :=
  letv (upd f0 3 ((f0 3) + 1)) fun f0_1 =>
  f0_1
noncomputable def f7_failAt (f0 : Nat → Int32) (A0 : Nat → Nat → Int32) (p1 : Int32) (p2 : Int32) : (Nat → Int32) :=
  if (f0 4) = 0 then
    letv (upd f0 4 p1) fun f0_1 =>
    letv (upd f0_1 5 p2) fun f0_2 =>
    f0_2
  else
    f0
def f9_put (n0 : Nat) (xs0 : Nat → Int32) (p1 p2 : Int32) : Nat → Int32 := if p1 < 0 ∨ n0 ≤ p1.toNatClampNeg then xs0 else ux xs0 p1 p2
noncomputable def f0_repeat_b42 (A1 : Nat → Nat → Int32) (p2 : Int32) (p3 : Int32) (p4 : Int32) (k42 : (Nat → Nat → Int32) → (Nat → Int32) → (Nat → Int32) → Int32 → Int32 → Option ((Nat → Nat → Int32) × (Nat → Int32) × (Nat → Int32))) (A0 : Nat → Nat → Int32) (f0 : Nat → Int32) (f1 : Nat → Int32) (l5 : Int32) (l6 : Int32) : Option ((Nat → Nat → Int32) × (Nat → Int32) × (Nat → Int32)) :=
  if (l5 * p3) ≤ l6 then
    some (A0, f0, f1)
  else
    letv (f9_put 48 (A0 0) (f0 1) (f9_at 48 (A0 0) ((f0 1) - l5))) fun z_1 =>
    letv (updA A0 0 z_1) fun A0_2 =>
    letv (upd f0 1 ((f0 1) + 1)) fun f0_3 =>
    k42 A0_2 f0_3 f1 l5 (l6 + 1)
noncomputable def f0_repeat_l42 (A1 : Nat → Nat → Int32) (p2 : Int32) (p3 : Int32) (p4 : Int32) : Nat → (Nat → Nat → Int32) → (Nat → Int32) → (Nat → Int32) → Int32 → Int32 → Option ((Nat → Nat → Int32) × (Nat → Int32) × (Nat → Int32))
  | 0 => fun _ _ _ _ _ => none
  | n + 1 => fun A0 f0 f1 l5 l6 => f0_repeat_b42 A1 p2 p3 p4  (f0_repeat_l42 A1 p2 p3 p4  n) A0 f0 f1 l5 l6
noncomputable def f0_repeat (f0 : Nat → Int32) (A0 : Nat → Nat → Int32) (f1 : Nat → Int32) (A1 : Nat → Nat → Int32) (p2 : Int32) (p3 : Int32) (p4 : Int32) : Option ((Nat → Nat → Int32) × (Nat → Int32) × (Nat → Int32)) :=
  if (f7_isFine f1 A1) = 0 then
    some (A0, f0, f1)
  else
    if ((f0 1) + (((f0 1) - p2) * p3)) ≤ 48 then
      f0_repeat_l42 A1 p2 p3 p4 NF A0 f0 f1 ((f0 1) - p2) 0
    else
      letv (f7_failAt f1 A1 6 p4) fun z_4 =>
      some (A0, f0, z_4)
noncomputable def f7_placeOf (p0 : Int32) : Int32 :=
  if (f9_within p0 97 112) = 0 then
    (-1)
  else
    p0 - 97
noncomputable def f7_fail (f0 : Nat → Int32) (A0 : Nat → Nat → Int32) (p1 : Int32) : (Nat → Int32) :=
  letv (f7_failAt f0 A0 p1 (f0 3)) fun z_1 =>
  z_1
noncomputable def f7_take_b15 (A0 : Nat → Nat → Int32) (p1 : Int32) (f0 : Nat → Int32) : Option (Int32 × (Nat → Int32)) :=
  letv (f7_fail f0 A0 1) fun z_1 =>
  some (0, z_1)
noncomputable def f7_take (f0 : Nat → Int32) (A0 : Nat → Nat → Int32) (p1 : Int32) : Option (Int32 × (Nat → Int32)) :=
  if (f7_isFine f0 A0) = 0 then
    f7_take_b15 A0 p1 f0
  else
    if (f7_look f0 A0) = p1 then
      letv (f7_step f0 A0) fun z_2 =>
      some (1, z_2)
    else
      f7_take_b15 A0 p1 f0
noncomputable def f0_items_b5 (rec : Nat → (Nat → Int32) → (Nat → Nat → Int32) → (Nat → Int32) → (Nat → Nat → Int32) → Int32 → Option ((Nat → Nat → Int32) × (Nat → Int32) × (Nat → Int32))) (A1 : Nat → Nat → Int32) (p2 : Int32) (k5 : (Nat → Nat → Int32) → (Nat → Int32) → (Nat → Int32) → Int32 → Int32 → Option ((Nat → Nat → Int32) × (Nat → Int32) × (Nat → Int32))) (A0 : Nat → Nat → Int32) (f0 : Nat → Int32) (f1 : Nat → Int32) (l3 : Int32) (l4 : Int32) : Option ((Nat → Nat → Int32) × (Nat → Int32) × (Nat → Int32)) :=
  if l3 = 0 then
    some (A0, f0, f1)
  else
    if 60 ≤ l4 then
      some (A0, f0, f1)
    else
      (rec 1 f0 A0 f1 A1 p2).bind fun q_1 =>
      if (f7_isFine q_1.2.2 A1) = 0 then
        k5 q_1.1 q_1.2.1 q_1.2.2 0 (l4 + 1)
      else
        if (f7_look q_1.2.2 A1) = (-1) then
          k5 q_1.1 q_1.2.1 q_1.2.2 0 (l4 + 1)
        else
          if (f7_look q_1.2.2 A1) = 41 then
            k5 q_1.1 q_1.2.1 q_1.2.2 0 (l4 + 1)
          else
            k5 q_1.1 q_1.2.1 q_1.2.2 1 (l4 + 1)
noncomputable def f0_items_l5 (rec : Nat → (Nat → Int32) → (Nat → Nat → Int32) → (Nat → Int32) → (Nat → Nat → Int32) → Int32 → Option ((Nat → Nat → Int32) × (Nat → Int32) × (Nat → Int32))) (A1 : Nat → Nat → Int32) (p2 : Int32) : Nat → (Nat → Nat → Int32) → (Nat → Int32) → (Nat → Int32) → Int32 → Int32 → Option ((Nat → Nat → Int32) × (Nat → Int32) × (Nat → Int32))
  | 0 => fun _ _ _ _ _ => none
  | n + 1 => fun A0 f0 f1 l3 l4 => f0_items_b5 rec A1 p2  (f0_items_l5 rec A1 p2  n) A0 f0 f1 l3 l4
noncomputable def f0_items (rec : Nat → (Nat → Int32) → (Nat → Nat → Int32) → (Nat → Int32) → (Nat → Nat → Int32) → Int32 → Option ((Nat → Nat → Int32) × (Nat → Int32) × (Nat → Int32))) (f0 : Nat → Int32) (A0 : Nat → Nat → Int32) (f1 : Nat → Int32) (A1 : Nat → Nat → Int32) (p2 : Int32) : Option ((Nat → Nat → Int32) × (Nat → Int32) × (Nat → Int32)) :=
  f0_items_l5 rec A1 p2 NF A0 f0 f1 1 0
noncomputable def f0_item_b132 (rec : Nat → (Nat → Int32) → (Nat → Nat → Int32) → (Nat → Int32) → (Nat → Nat → Int32) → Int32 → Option ((Nat → Nat → Int32) × (Nat → Int32) × (Nat → Int32))) (A1 : Nat → Nat → Int32) (p2 : Int32) (A0 : Nat → Nat → Int32) (f0 : Nat → Int32) (f1 : Nat → Int32) (l3 : Int32) (l4 : Int32) (l5 : Int32) (s0 : Int32) (s1 : Int32) : Option ((Nat → Nat → Int32) × (Nat → Int32) × (Nat → Int32)) :=
  letv (f9_put 48 (A0 0) s1 s0) fun z_1 =>
  letv (updA A0 0 z_1) fun A0_2 =>
  letv (upd f0 1 ((f0 1) + 1)) fun f0_3 =>
  letv (f7_step f1 A1) fun z_4 =>
  (f0_repeat f0_3 A0_2 z_4 A1 l4 (l5 - 1) l3).bind fun q_5 =>
  some (q_5.1, q_5.2.1, q_5.2.2)
noncomputable def f0_item_b91 (rec : Nat → (Nat → Int32) → (Nat → Nat → Int32) → (Nat → Int32) → (Nat → Nat → Int32) → Int32 → Option ((Nat → Nat → Int32) × (Nat → Int32) × (Nat → Int32))) (A1 : Nat → Nat → Int32) (p2 : Int32) (A0 : Nat → Nat → Int32) (f0 : Nat → Int32) (f1 : Nat → Int32) (l3 : Int32) (l4 : Int32) (l5 : Int32) (l6 : Int32) : Option ((Nat → Nat → Int32) × (Nat → Int32) × (Nat → Int32)) :=
  if (f0 1) < 48 then
    if l6 = 46 then
      f0_item_b132 rec A1 p2 A0 f0 f1 l3 l4 l5 (-1) (f0 1)
    else
      f0_item_b132 rec A1 p2 A0 f0 f1 l3 l4 l5 (f7_placeOf l6) (f0 1)
  else
    letv (f7_failAt f1 A1 6 l3) fun z_6 =>
    some (A0, f0, z_6)
noncomputable def f0_item_b41 (rec : Nat → (Nat → Int32) → (Nat → Nat → Int32) → (Nat → Int32) → (Nat → Nat → Int32) → Int32 → Option ((Nat → Nat → Int32) × (Nat → Int32) × (Nat → Int32))) (A1 : Nat → Nat → Int32) (p2 : Int32) (A0 : Nat → Nat → Int32) (f0 : Nat → Int32) (f1 : Nat → Int32) (l3 : Int32) (l4 : Int32) (l5 : Int32) : Option ((Nat → Nat → Int32) × (Nat → Int32) × (Nat → Int32)) :=
  if (f7_look f1 A1) = 40 then
    (rec 2 f0 A0 f1 A1 p2).bind fun q_8 =>
    (f0_repeat q_8.2.1 q_8.1 q_8.2.2 A1 l4 (l5 - 1) l3).bind fun q_9 =>
    some (q_9.1, q_9.2.1, q_9.2.2)
  else
    if (f7_look f1 A1) = 46 then
      f0_item_b91 rec A1 p2 A0 f0 f1 l3 l4 l5 (f7_look f1 A1)
    else
      if (f7_placeOf (f7_look f1 A1)) = (-1) then
        letv (f7_fail f1 A1 1) fun z_7 =>
        some (A0, f0, z_7)
      else
        f0_item_b91 rec A1 p2 A0 f0 f1 l3 l4 l5 (f7_look f1 A1)
noncomputable def f0_item (rec : Nat → (Nat → Int32) → (Nat → Nat → Int32) → (Nat → Int32) → (Nat → Nat → Int32) → Int32 → Option ((Nat → Nat → Int32) × (Nat → Int32) × (Nat → Int32))) (f0 : Nat → Int32) (A0 : Nat → Nat → Int32) (f1 : Nat → Int32) (A1 : Nat → Nat → Int32) (p2 : Int32) : Option ((Nat → Nat → Int32) × (Nat → Int32) × (Nat → Int32)) :=
  if (f9_within (f7_look f1 A1) 50 57) = 0 then
    f0_item_b41 rec A1 p2 A0 f0 f1 (f7_reader f1 A1) (f0 1) 1
  else
    letv (f7_step f1 A1) fun z_10 =>
    f0_item_b41 rec A1 p2 A0 f0 z_10 (f7_reader f1 A1) (f0 1) ((f7_look f1 A1) - 48)
noncomputable def f0_group (rec : Nat → (Nat → Int32) → (Nat → Nat → Int32) → (Nat → Int32) → (Nat → Nat → Int32) → Int32 → Option ((Nat → Nat → Int32) × (Nat → Int32) × (Nat → Int32))) (f0 : Nat → Int32) (A0 : Nat → Nat → Int32) (f1 : Nat → Int32) (A1 : Nat → Nat → Int32) (p2 : Int32) : Option ((Nat → Nat → Int32) × (Nat → Int32) × (Nat → Int32)) :=
  if p2 < 2 then
    letv (f7_step f1 A1) fun z_1 =>
    (rec 0 f0 A0 z_1 A1 (p2 + 1)).bind fun q_2 =>
    (f7_take q_2.2.2 A1 41).bind fun q_3 =>
    some (q_2.1, q_2.2.1, q_3.2)
  else
    letv (f7_fail f1 A1 5) fun z_4 =>
    some (A0, f0, z_4)
noncomputable def f0_items_rec : Nat → Nat → (Nat → Int32) → (Nat → Nat → Int32) → (Nat → Int32) → (Nat → Nat → Int32) → Int32 → Option ((Nat → Nat → Int32) × (Nat → Int32) × (Nat → Int32))
  | 0 => fun _ _ _ _ _ _ => none
  | d + 1 => fun t x0 x1 x2 x3 x4 => if t = 0 then f0_items (f0_items_rec d) x0 x1 x2 x3 x4 else if t = 1 then f0_item (f0_items_rec d) x0 x1 x2 x3 x4 else f0_group (f0_items_rec d) x0 x1 x2 x3 x4
noncomputable def f0_read (f0 : Nat → Int32) (A0 : Nat → Nat → Int32) (f1 : Nat → Int32) (A1 : Nat → Nat → Int32) : Option ((Nat → Nat → Int32) × (Nat → Int32) × (Nat → Int32)) :=
  letv (upd f0 1 0) fun f0_1 =>
  (f0_items_rec 64 0 f0_1 A0 f1 A1 0).bind fun q_2 =>
  if (f7_isFine q_2.2.2 A1) = 0 then
    some (q_2.1, q_2.2.1, q_2.2.2)
  else
    if (f7_look q_2.2.2 A1) = (-1) then
      some (q_2.1, q_2.2.1, q_2.2.2)
    else
      letv (f7_fail q_2.2.2 A1 1) fun z_3 =>
      some (q_2.1, q_2.2.1, z_3)
noncomputable def f9_has (p0 : Int32) (p1 : Int32) : Int32 :=
  if (f9_within p1 0 31) = 0 then
    0
  else
    if ((ushr p0 p1) &&& 1) = 1 then
      1
    else
      0
theorem f9_has_b (p0 : Int32) (p1 : Int32) : f9_has p0 p1 = 0 ∨ f9_has p0 p1 = 1 := by
  unfold f9_has
  try simp only [letv]
  repeat' split
  all_goals first | exact Or.inl rfl | exact Or.inr rfl | (simp; done)
noncomputable def f1_isTold (f0 : Nat → Int32) (A0 : Nat → Nat → Int32) (p1 : Int32) : Int32 :=
  if (f9_within p1 0 15) = 0 then
    0
  else
    if (f9_has (f0 0) p1) = 0 then
      0
    else
      1
theorem f1_isTold_b (f0 : Nat → Int32) (A0 : Nat → Nat → Int32) (p1 : Int32) : f1_isTold f0 A0 p1 = 0 ∨ f1_isTold f0 A0 p1 = 1 := by
  unfold f1_isTold
  try simp only [letv]
  repeat' split
  all_goals first | exact Or.inl rfl | exact Or.inr rfl | (simp; done)
noncomputable def f1_join (f0 : Nat → Int32) (A0 : Nat → Nat → Int32) (p1 : Int32) (p2 : Int32) : (Nat → Nat → Int32) :=
  letv (f9_put 16 (A0 1) p1 ((f9_at 16 (A0 1) p1) ||| (shl 1 p2))) fun z_1 =>
  letv (updA A0 1 z_1) fun A0_2 =>
  letv (f9_put 16 (A0_2 1) p2 ((f9_at 16 (A0_2 1) p2) ||| (shl 1 p1))) fun z_3 =>
  letv (updA A0_2 1 z_3) fun A0_4 =>
  A0_4
noncomputable def f1_part (f0 : Nat → Int32) (A0 : Nat → Nat → Int32) (p1 : Int32) (p2 : Int32) : (Nat → Nat → Int32) :=
  letv (f9_put 16 (A0 1) p1 ((f9_at 16 (A0 1) p1) &&& ((shl 1 p2) ^^^ (-1)))) fun z_1 =>
  letv (updA A0 1 z_1) fun A0_2 =>
  letv (f9_put 16 (A0_2 1) p2 ((f9_at 16 (A0_2 1) p2) &&& ((shl 1 p1) ^^^ (-1)))) fun z_3 =>
  letv (updA A0_2 1 z_3) fun A0_4 =>
  A0_4
noncomputable def f1_around (f0 : Nat → Int32) (A0 : Nat → Nat → Int32) (p1 : Int32) : Int32 :=
  (f9_at 16 (A0 1) p1) ||| (shl 1 p1)
noncomputable def f1_aroundAny_b4 (f0 : Nat → Int32) (A0 : Nat → Nat → Int32) (p1 : Int32) (k4 : Int32 → Int32 → Option (Int32)) (l2 : Int32) (l3 : Int32) : Option (Int32) :=
  if 16 ≤ l3 then
    some l2
  else
    if (f9_has p1 l3) = 0 then
      k4 l2 (l3 + 1)
    else
      k4 (l2 ||| (f1_around f0 A0 l3)) (l3 + 1)
noncomputable def f1_aroundAny_l4 (f0 : Nat → Int32) (A0 : Nat → Nat → Int32) (p1 : Int32) : Nat → Int32 → Int32 → Option (Int32)
  | 0 => fun _ _ => none
  | n + 1 => fun l2 l3 => f1_aroundAny_b4 f0 A0 p1  (f1_aroundAny_l4 f0 A0 p1  n) l2 l3
noncomputable def f1_aroundAny (f0 : Nat → Int32) (A0 : Nat → Nat → Int32) (p1 : Int32) : Option (Int32) :=
  f1_aroundAny_l4 f0 A0 p1 NF 0 0
noncomputable def f1_measure_b47 (f0 : Nat → Int32) (p1 : Int32) (k33 : (Nat → Nat → Int32) → Int32 → Int32 → Int32 → Option ((Nat → Nat → Int32))) (k47 : (Nat → Nat → Int32) → Int32 → Int32 → Int32 → Int32 → Option ((Nat → Nat → Int32))) (A0 : Nat → Nat → Int32) (l2 : Int32) (l3 : Int32) (l4 : Int32) (l5 : Int32) : Option ((Nat → Nat → Int32)) :=
  if 16 ≤ l5 then
    (f1_aroundAny f0 A0 l3).bind fun q_1 =>
    k33 A0 (l2 ||| (q_1 &&& (l2 ^^^ (-1)))) (q_1 &&& (l2 ^^^ (-1))) (l4 + 1)
  else
    if (f9_has l3 l5) = 0 then
      k47 A0 l2 l3 l4 (l5 + 1)
    else
      letv (f9_put 16 (A0 2) l5 l4) fun z_2 =>
      letv (updA A0 2 z_2) fun A0_3 =>
      k47 A0_3 l2 l3 l4 (l5 + 1)
noncomputable def f1_measure_l47 (f0 : Nat → Int32) (p1 : Int32) (k33 : (Nat → Nat → Int32) → Int32 → Int32 → Int32 → Option ((Nat → Nat → Int32))) : Nat → (Nat → Nat → Int32) → Int32 → Int32 → Int32 → Int32 → Option ((Nat → Nat → Int32))
  | 0 => fun _ _ _ _ _ => none
  | n + 1 => fun A0 l2 l3 l4 l5 => f1_measure_b47 f0 p1 k33 (f1_measure_l47 f0 p1 k33 n) A0 l2 l3 l4 l5
noncomputable def f1_measure_b33 (f0 : Nat → Int32) (p1 : Int32) (k33 : (Nat → Nat → Int32) → Int32 → Int32 → Int32 → Option ((Nat → Nat → Int32))) (A0 : Nat → Nat → Int32) (l2 : Int32) (l3 : Int32) (l4 : Int32) : Option ((Nat → Nat → Int32)) :=
  if 16 ≤ l4 then
    some A0
  else
    if l3 = 0 then
      some A0
    else
      f1_measure_l47 f0 p1 k33 NF A0 l2 l3 l4 0
noncomputable def f1_measure_l33 (f0 : Nat → Int32) (p1 : Int32) : Nat → (Nat → Nat → Int32) → Int32 → Int32 → Int32 → Option ((Nat → Nat → Int32))
  | 0 => fun _ _ _ _ => none
  | n + 1 => fun A0 l2 l3 l4 => f1_measure_b33 f0 p1  (f1_measure_l33 f0 p1  n) A0 l2 l3 l4
noncomputable def f1_measure_b2 (f0 : Nat → Int32) (p1 : Int32) (k2 : (Nat → Nat → Int32) → Int32 → Option ((Nat → Nat → Int32))) (A0 : Nat → Nat → Int32) (l2 : Int32) : Option ((Nat → Nat → Int32)) :=
  if 16 ≤ l2 then
    f1_measure_l33 f0 p1 NF A0 (shl 1 p1) (shl 1 p1) 0
  else
    if l2 < 0 ∨ 16 ≤ (l2).toNatClampNeg then none else
    letv (updA A0 2 (ux (A0 2) l2 (-1))) fun A0_5 =>
    k2 A0_5 (l2 + 1)
noncomputable def f1_measure_l2 (f0 : Nat → Int32) (p1 : Int32) : Nat → (Nat → Nat → Int32) → Int32 → Option ((Nat → Nat → Int32))
  | 0 => fun _ _ => none
  | n + 1 => fun A0 l2 => f1_measure_b2 f0 p1  (f1_measure_l2 f0 p1  n) A0 l2
noncomputable def f1_measure (f0 : Nat → Int32) (A0 : Nat → Nat → Int32) (p1 : Int32) : Option ((Nat → Nat → Int32)) :=
  f1_measure_l2 f0 p1 NF A0 0
noncomputable def f1_stepsTo (f0 : Nat → Int32) (A0 : Nat → Nat → Int32) (p1 : Int32) : Int32 :=
  if (f9_within p1 0 15) = 0 then
    (-1)
  else
    (f9_at 16 (A0 2) p1)
noncomputable def f1_lowestCloser_b2 (f0 : Nat → Int32) (A0 : Nat → Nat → Int32) (p1 : Int32) (k2 : Int32 → Option (Int32)) (l2 : Int32) : Option (Int32) :=
  if 16 ≤ l2 then
    some p1
  else
    if (f9_has (f9_at 16 (A0 1) p1) l2) = 0 then
      k2 (l2 + 1)
    else
      if (f1_stepsTo f0 A0 l2) = ((f1_stepsTo f0 A0 p1) - 1) then
        some l2
      else
        k2 (l2 + 1)
noncomputable def f1_lowestCloser_l2 (f0 : Nat → Int32) (A0 : Nat → Nat → Int32) (p1 : Int32) : Nat → Int32 → Option (Int32)
  | 0 => fun _ => none
  | n + 1 => fun l2 => f1_lowestCloser_b2 f0 A0 p1  (f1_lowestCloser_l2 f0 A0 p1  n) l2
noncomputable def f1_lowestCloser (f0 : Nat → Int32) (A0 : Nat → Nat → Int32) (p1 : Int32) : Option (Int32) :=
  f1_lowestCloser_l2 f0 A0 p1 NF 0
noncomputable def f1_stepTowards_b5 (f0 : Nat → Int32) (A0 : Nat → Nat → Int32) (p1 : Int32) (p2 : Int32) (k5 : Int32 → Int32 → Option (Int32)) (l3 : Int32) (l4 : Int32) : Option (Int32) :=
  if p2 ≤ l4 then
    some l3
  else
    if 16 ≤ l4 then
      some l3
    else
      (f1_lowestCloser f0 A0 l3).bind fun q_1 =>
      k5 q_1 (l4 + 1)
noncomputable def f1_stepTowards_l5 (f0 : Nat → Int32) (A0 : Nat → Nat → Int32) (p1 : Int32) (p2 : Int32) : Nat → Int32 → Int32 → Option (Int32)
  | 0 => fun _ _ => none
  | n + 1 => fun l3 l4 => f1_stepTowards_b5 f0 A0 p1 p2  (f1_stepTowards_l5 f0 A0 p1 p2  n) l3 l4
noncomputable def f1_stepTowards (f0 : Nat → Int32) (A0 : Nat → Nat → Int32) (p1 : Int32) (p2 : Int32) : Option (Int32) :=
  f1_stepTowards_l5 f0 A0 p1 p2 NF p1 0
noncomputable def f1_waysFromCloser_b5 (f0 : Nat → Int32) (A0 : Nat → Nat → Int32) (p1 : Int32) (p2 : Int32) (k5 : Int32 → Int32 → Option (Int32)) (l3 : Int32) (l4 : Int32) : Option (Int32) :=
  if 16 ≤ l4 then
    some l3
  else
    if (f9_has (f9_at 16 (A0 1) p1) l4) = 0 then
      k5 l3 (l4 + 1)
    else
      if (f1_stepsTo f0 A0 l4) = (p2 - 1) then
        k5 (l3 + (f9_at 16 (A0 3) l4)) (l4 + 1)
      else
        k5 l3 (l4 + 1)
noncomputable def f1_waysFromCloser_l5 (f0 : Nat → Int32) (A0 : Nat → Nat → Int32) (p1 : Int32) (p2 : Int32) : Nat → Int32 → Int32 → Option (Int32)
  | 0 => fun _ _ => none
  | n + 1 => fun l3 l4 => f1_waysFromCloser_b5 f0 A0 p1 p2  (f1_waysFromCloser_l5 f0 A0 p1 p2  n) l3 l4
noncomputable def f1_waysFromCloser (f0 : Nat → Int32) (A0 : Nat → Nat → Int32) (p1 : Int32) (p2 : Int32) : Option (Int32) :=
  f1_waysFromCloser_l5 f0 A0 p1 p2 NF 0 0
noncomputable def f1_shortestWays_b49 (f0 : Nat → Int32) (p1 : Int32) (p2 : Int32) (k40 : (Nat → Nat → Int32) → Int32 → Option (Int32 × (Nat → Nat → Int32))) (k49 : (Nat → Nat → Int32) → Int32 → Int32 → Option (Int32 × (Nat → Nat → Int32))) (A0 : Nat → Nat → Int32) (l3 : Int32) (l4 : Int32) : Option (Int32 × (Nat → Nat → Int32)) :=
  if 16 ≤ l4 then
    k40 A0 (l3 + 1)
  else
    if (f1_stepsTo f0 A0 l4) = l3 then
      (f1_waysFromCloser f0 A0 l4 l3).bind fun q_2 =>
      letv (f9_put 16 (A0 3) l4 q_2) fun z_3 =>
      letv (updA A0 3 z_3) fun A0_4 =>
      k49 A0_4 l3 (l4 + 1)
    else
      k49 A0 l3 (l4 + 1)
noncomputable def f1_shortestWays_l49 (f0 : Nat → Int32) (p1 : Int32) (p2 : Int32) (k40 : (Nat → Nat → Int32) → Int32 → Option (Int32 × (Nat → Nat → Int32))) : Nat → (Nat → Nat → Int32) → Int32 → Int32 → Option (Int32 × (Nat → Nat → Int32))
  | 0 => fun _ _ _ => none
  | n + 1 => fun A0 l3 l4 => f1_shortestWays_b49 f0 p1 p2 k40 (f1_shortestWays_l49 f0 p1 p2 k40 n) A0 l3 l4
noncomputable def f1_shortestWays_b40 (f0 : Nat → Int32) (p1 : Int32) (p2 : Int32) (k40 : (Nat → Nat → Int32) → Int32 → Option (Int32 × (Nat → Nat → Int32))) (A0 : Nat → Nat → Int32) (l3 : Int32) : Option (Int32 × (Nat → Nat → Int32)) :=
  if 16 ≤ l3 then
    some ((f9_at 16 (A0 3) p2), A0)
  else
    f1_shortestWays_l49 f0 p1 p2 k40 NF A0 l3 0
noncomputable def f1_shortestWays_l40 (f0 : Nat → Int32) (p1 : Int32) (p2 : Int32) : Nat → (Nat → Nat → Int32) → Int32 → Option (Int32 × (Nat → Nat → Int32))
  | 0 => fun _ _ => none
  | n + 1 => fun A0 l3 => f1_shortestWays_b40 f0 p1 p2  (f1_shortestWays_l40 f0 p1 p2  n) A0 l3
noncomputable def f1_shortestWays_b7 (f0 : Nat → Int32) (p1 : Int32) (p2 : Int32) (k7 : (Nat → Nat → Int32) → Int32 → Option (Int32 × (Nat → Nat → Int32))) (A0 : Nat → Nat → Int32) (l3 : Int32) : Option (Int32 × (Nat → Nat → Int32)) :=
  if 16 ≤ l3 then
    f1_shortestWays_l40 f0 p1 p2 NF A0 1
  else
    if l3 = p1 then
      if l3 < 0 ∨ 16 ≤ (l3).toNatClampNeg then none else
      letv (updA A0 3 (ux (A0 3) l3 1)) fun A0_8 =>
      k7 A0_8 (l3 + 1)
    else
      if l3 < 0 ∨ 16 ≤ (l3).toNatClampNeg then none else
      letv (updA A0 3 (ux (A0 3) l3 0)) fun A0_6 =>
      k7 A0_6 (l3 + 1)
noncomputable def f1_shortestWays_l7 (f0 : Nat → Int32) (p1 : Int32) (p2 : Int32) : Nat → (Nat → Nat → Int32) → Int32 → Option (Int32 × (Nat → Nat → Int32))
  | 0 => fun _ _ => none
  | n + 1 => fun A0 l3 => f1_shortestWays_b7 f0 p1 p2  (f1_shortestWays_l7 f0 p1 p2  n) A0 l3
noncomputable def f1_shortestWays (f0 : Nat → Int32) (A0 : Nat → Nat → Int32) (p1 : Int32) (p2 : Int32) : Option (Int32 × (Nat → Nat → Int32)) :=
  (f1_measure f0 A0 p1).bind fun q_1 =>
  f1_shortestWays_l7 f0 p1 p2 NF q_1 0
noncomputable def fJ6_bitCount_0f7a4 (p0 : Int32) : Int32 :=
  letv (((p0 - ((ushr p0 1) &&& 1431655765)) &&& 858993459) + ((ushr (p0 - ((ushr p0 1) &&& 1431655765)) 2) &&& 858993459)) fun x_1 =>
  letv (((x_1 + (ushr x_1 4)) &&& 252645135) + (ushr ((x_1 + (ushr x_1 4)) &&& 252645135) 8)) fun x_2 =>
  (x_2 + (ushr x_2 16)) &&& 63
noncomputable def f1_lanesInAll_b4 (f0 : Nat → Int32) (A0 : Nat → Nat → Int32) (k4 : Int32 → Int32 → Option (Int32)) (l1 : Int32) (l2 : Int32) : Option (Int32) :=
  if 16 ≤ l2 then
    some (l1 / 2)
  else
    k4 (l1 + (fJ6_bitCount_0f7a4 (f9_at 16 (A0 1) l2))) (l2 + 1)
noncomputable def f1_lanesInAll_l4 (f0 : Nat → Int32) (A0 : Nat → Nat → Int32) : Nat → Int32 → Int32 → Option (Int32)
  | 0 => fun _ _ => none
  | n + 1 => fun l1 l2 => f1_lanesInAll_b4 f0 A0  (f1_lanesInAll_l4 f0 A0  n) l1 l2
noncomputable def f1_lanesInAll (f0 : Nat → Int32) (A0 : Nat → Nat → Int32) : Option (Int32) :=
  f1_lanesInAll_l4 f0 A0 NF 0 0
noncomputable def f1_isBridge (f0 : Nat → Int32) (A0 : Nat → Nat → Int32) (p1 : Int32) (p2 : Int32) : Option (Int32 × (Nat → Nat → Int32)) :=
  if (f9_has (f9_at 16 (A0 1) p1) p2) = 0 then
    some (0, A0)
  else
    letv (f1_part f0 A0 p1 p2) fun z_1 =>
    (f1_measure f0 z_1 p1).bind fun q_2 =>
    letv (f1_join f0 q_2 p1 p2) fun z_3 =>
    if (f1_stepsTo f0 z_3 p2) = (-1) then
      some (1, z_3)
    else
      some (0, z_3)
noncomputable def f1_bridgesInAll_b14 (f0 : Nat → Int32) (k4 : (Nat → Nat → Int32) → Int32 → Int32 → Option (Int32 × (Nat → Nat → Int32))) (k14 : (Nat → Nat → Int32) → Int32 → Int32 → Int32 → Option (Int32 × (Nat → Nat → Int32))) (A0 : Nat → Nat → Int32) (l1 : Int32) (l2 : Int32) (l3 : Int32) : Option (Int32 × (Nat → Nat → Int32)) :=
  if 16 ≤ l3 then
    k4 A0 l1 (l2 + 1)
  else
    (f1_isBridge f0 A0 l2 l3).bind fun q_1 =>
    if q_1.1 = 0 then
      k14 q_1.2 l1 l2 (l3 + 1)
    else
      k14 q_1.2 (l1 + 1) l2 (l3 + 1)
noncomputable def f1_bridgesInAll_l14 (f0 : Nat → Int32) (k4 : (Nat → Nat → Int32) → Int32 → Int32 → Option (Int32 × (Nat → Nat → Int32))) : Nat → (Nat → Nat → Int32) → Int32 → Int32 → Int32 → Option (Int32 × (Nat → Nat → Int32))
  | 0 => fun _ _ _ _ => none
  | n + 1 => fun A0 l1 l2 l3 => f1_bridgesInAll_b14 f0 k4 (f1_bridgesInAll_l14 f0 k4 n) A0 l1 l2 l3
noncomputable def f1_bridgesInAll_b4 (f0 : Nat → Int32) (k4 : (Nat → Nat → Int32) → Int32 → Int32 → Option (Int32 × (Nat → Nat → Int32))) (A0 : Nat → Nat → Int32) (l1 : Int32) (l2 : Int32) : Option (Int32 × (Nat → Nat → Int32)) :=
  if 16 ≤ l2 then
    some (l1, A0)
  else
    f1_bridgesInAll_l14 f0 k4 NF A0 l1 l2 (l2 + 1)
noncomputable def f1_bridgesInAll_l4 (f0 : Nat → Int32) : Nat → (Nat → Nat → Int32) → Int32 → Int32 → Option (Int32 × (Nat → Nat → Int32))
  | 0 => fun _ _ _ => none
  | n + 1 => fun A0 l1 l2 => f1_bridgesInAll_b4 f0  (f1_bridgesInAll_l4 f0  n) A0 l1 l2
noncomputable def f1_bridgesInAll (f0 : Nat → Int32) (A0 : Nat → Nat → Int32) : Option (Int32 × (Nat → Nat → Int32)) :=
  f1_bridgesInAll_l4 f0 NF A0 0 0
noncomputable def f1_firstBridge_b12 (f0 : Nat → Int32) (k2 : (Nat → Nat → Int32) → Int32 → Option (Int32 × (Nat → Nat → Int32))) (k12 : (Nat → Nat → Int32) → Int32 → Int32 → Option (Int32 × (Nat → Nat → Int32))) (A0 : Nat → Nat → Int32) (l1 : Int32) (l2 : Int32) : Option (Int32 × (Nat → Nat → Int32)) :=
  if 16 ≤ l2 then
    k2 A0 (l1 + 1)
  else
    (f1_isBridge f0 A0 l1 l2).bind fun q_1 =>
    if q_1.1 = 0 then
      k12 q_1.2 l1 (l2 + 1)
    else
      some ((l1 * 16) + l2, q_1.2)
noncomputable def f1_firstBridge_l12 (f0 : Nat → Int32) (k2 : (Nat → Nat → Int32) → Int32 → Option (Int32 × (Nat → Nat → Int32))) : Nat → (Nat → Nat → Int32) → Int32 → Int32 → Option (Int32 × (Nat → Nat → Int32))
  | 0 => fun _ _ _ => none
  | n + 1 => fun A0 l1 l2 => f1_firstBridge_b12 f0 k2 (f1_firstBridge_l12 f0 k2 n) A0 l1 l2
noncomputable def f1_firstBridge_b2 (f0 : Nat → Int32) (k2 : (Nat → Nat → Int32) → Int32 → Option (Int32 × (Nat → Nat → Int32))) (A0 : Nat → Nat → Int32) (l1 : Int32) : Option (Int32 × (Nat → Nat → Int32)) :=
  if 16 ≤ l1 then
    some ((-1), A0)
  else
    f1_firstBridge_l12 f0 k2 NF A0 l1 (l1 + 1)
noncomputable def f1_firstBridge_l2 (f0 : Nat → Int32) : Nat → (Nat → Nat → Int32) → Int32 → Option (Int32 × (Nat → Nat → Int32))
  | 0 => fun _ _ => none
  | n + 1 => fun A0 l1 => f1_firstBridge_b2 f0  (f1_firstBridge_l2 f0  n) A0 l1
noncomputable def f1_firstBridge (f0 : Nat → Int32) (A0 : Nat → Nat → Int32) : Option (Int32 × (Nat → Nat → Int32)) :=
  f1_firstBridge_l2 f0 NF A0 0
noncomputable def f9_lowestOf_b2 (p0 : Int32) (k2 : Int32 → Option (Int32)) (l1 : Int32) : Option (Int32) :=
  if 31 ≤ l1 then
    some l1
  else
    if (f9_has p0 l1) = 0 then
      k2 (l1 + 1)
    else
      some l1
noncomputable def f9_lowestOf_l2 (p0 : Int32) : Nat → Int32 → Option (Int32)
  | 0 => fun _ => none
  | n + 1 => fun l1 => f9_lowestOf_b2 p0  (f9_lowestOf_l2 p0  n) l1
noncomputable def f9_lowestOf (p0 : Int32) : Option (Int32) :=
  f9_lowestOf_l2 p0 NF 0
noncomputable def f1_leastPosts_b28 (rec : (Nat → Int32) → (Nat → Nat → Int32) → Int32 → Int32 → Int32 → Option (Int32)) (f0 : Nat → Int32) (A0 : Nat → Nat → Int32) (p1 : Int32) (p2 : Int32) (p3 : Int32) (k28 : Int32 → Int32 → Int32 → Option (Int32)) (l4 : Int32) (l5 : Int32) (l6 : Int32) : Option (Int32) :=
  if 16 ≤ l6 then
    some l5
  else
    if (f9_has l4 l6) = 0 then
      k28 l4 l5 (l6 + 1)
    else
      (rec f0 A0 (p1 ||| (shl 1 l6)) (p2 &&& ((f1_around f0 A0 l6) ^^^ (-1))) (p3 - 1)).bind fun q_2 =>
      if q_2 = (-1) then
        k28 l4 l5 (l6 + 1)
      else
        if l5 = (-1) then
          k28 l4 q_2 (l6 + 1)
        else
          if l5 ≤ q_2 then
            k28 l4 l5 (l6 + 1)
          else
            k28 l4 q_2 (l6 + 1)
noncomputable def f1_leastPosts_l28 (rec : (Nat → Int32) → (Nat → Nat → Int32) → Int32 → Int32 → Int32 → Option (Int32)) (f0 : Nat → Int32) (A0 : Nat → Nat → Int32) (p1 : Int32) (p2 : Int32) (p3 : Int32) : Nat → Int32 → Int32 → Int32 → Option (Int32)
  | 0 => fun _ _ _ => none
  | n + 1 => fun l4 l5 l6 => f1_leastPosts_b28 rec f0 A0 p1 p2 p3  (f1_leastPosts_l28 rec f0 A0 p1 p2 p3  n) l4 l5 l6
noncomputable def f1_leastPosts (rec : (Nat → Int32) → (Nat → Nat → Int32) → Int32 → Int32 → Int32 → Option (Int32)) (f0 : Nat → Int32) (A0 : Nat → Nat → Int32) (p1 : Int32) (p2 : Int32) (p3 : Int32) : Option (Int32) :=
  if p2 = 0 then
    some p1
  else
    if 0 < p3 then
      (f9_lowestOf p2).bind fun q_1 =>
      f1_leastPosts_l28 rec f0 A0 p1 p2 p3 NF (f1_around f0 A0 q_1) (-1) 0
    else
      some (-1)
noncomputable def f1_leastPosts_rec : Nat → (Nat → Int32) → (Nat → Nat → Int32) → Int32 → Int32 → Int32 → Option (Int32)
  | 0 => fun _ _ _ _ _ => none
  | d + 1 => fun x0 x1 x2 x3 x4 => f1_leastPosts (f1_leastPosts_rec d) x0 x1 x2 x3 x4
noncomputable def f1_fewestPosts_b4 (f0 : Nat → Int32) (A0 : Nat → Nat → Int32) (k4 : Int32 → Int32 → Option (Int32)) (l1 : Int32) (l2 : Int32) : Option (Int32) :=
  if 16 < l2 then
    some l1
  else
    if l1 = (-1) then
      (f1_leastPosts_rec 64 f0 A0 0 (f0 0) l2).bind fun q_1 =>
      k4 q_1 (l2 + 1)
    else
      some l1
noncomputable def f1_fewestPosts_l4 (f0 : Nat → Int32) (A0 : Nat → Nat → Int32) : Nat → Int32 → Int32 → Option (Int32)
  | 0 => fun _ _ => none
  | n + 1 => fun l1 l2 => f1_fewestPosts_b4 f0 A0  (f1_fewestPosts_l4 f0 A0  n) l1 l2
noncomputable def f1_fewestPosts (f0 : Nat → Int32) (A0 : Nat → Nat → Int32) : Option (Int32) :=
  f1_fewestPosts_l4 f0 A0 NF (-1) 0
noncomputable def f2_order (f0 : Nat → Int32) (A0 : Nat → Nat → Int32) (p1 : Int32) (p2 : Int32) : Option (Int32 × (Nat → Nat → Int32) × (Nat → Int32)) :=
  letv (f9_put 240 (A0 0) (f0 7) p1) fun z_1 =>
  letv (updA A0 0 z_1) fun A0_2 =>
  letv (f9_put 240 (A0_2 1) (f0 7) p2) fun z_3 =>
  letv (updA A0_2 1 z_3) fun A0_4 =>
  letv (upd f0 7 ((f0 7) + 1)) fun f0_5 =>
  some ((f0_5 7) - 1, A0_4, f0_5)
noncomputable def f2_opens (f0 : Nat → Int32) (A0 : Nat → Nat → Int32) (p1 : Int32) : Option (Int32 × (Nat → Int32)) :=
  if p1 < 6 then
    letv (f7_step f0 A0) fun z_1 =>
    some (1, z_1)
  else
    letv (f7_fail f0 A0 5) fun z_2 =>
    some (0, z_2)
noncomputable def f7_isDigit (p0 : Int32) : Option (Int32) :=
  if ¬ ((f9_within p0 48 57) = 0 ∨ (f9_within p0 48 57) = 1) then none else
  some (f9_within p0 48 57)
noncomputable def f7_number_b54 (A0 : Nat → Nat → Int32) (p1 : Int32) (f0 : Nat → Int32) (l2 : Int32) (l3 : Int32) : Option (Int32 × (Nat → Int32)) :=
  if l3 = 0 then
    letv (f7_fail f0 A0 1) fun z_1 =>
    some (l2, z_1)
  else
    some (l2, f0)
noncomputable def f7_number_b4 (A0 : Nat → Nat → Int32) (p1 : Int32) (k4 : (Nat → Int32) → Int32 → Int32 → Option (Int32 × (Nat → Int32))) (f0 : Nat → Int32) (l2 : Int32) (l3 : Int32) : Option (Int32 × (Nat → Int32)) :=
  if p1 < l3 then
    f7_number_b54 A0 p1 f0 l2 l3
  else
    (f7_isDigit (f7_look f0 A0)).bind fun q_2 =>
    if q_2 = 0 then
      f7_number_b54 A0 p1 f0 l2 l3
    else
      if l3 = p1 then
        letv (f7_fail f0 A0 2) fun z_4 =>
        some (0, z_4)
      else
        letv (f7_step f0 A0) fun z_3 =>
        k4 z_3 (((l2 * 10) + (f7_look f0 A0)) - 48) (l3 + 1)
noncomputable def f7_number_l4 (A0 : Nat → Nat → Int32) (p1 : Int32) : Nat → (Nat → Int32) → Int32 → Int32 → Option (Int32 × (Nat → Int32))
  | 0 => fun _ _ _ => none
  | n + 1 => fun f0 l2 l3 => f7_number_b4 A0 p1  (f7_number_l4 A0 p1  n) f0 l2 l3
noncomputable def f7_number (f0 : Nat → Int32) (A0 : Nat → Nat → Int32) (p1 : Int32) : Option (Int32 × (Nat → Int32)) :=
  f7_number_l4 A0 p1 NF f0 0 0
noncomputable def f2_letterOf (p0 : Int32) : Int32 :=
  if p0 = 99 then
    3
  else
  if p0 = 100 then
    7
  else
  if p0 = 103 then
    2
  else
  if p0 = 104 then
    6
  else
  if p0 = 108 then
    5
  else
  if p0 = 110 then
    4
  else
  if p0 = 112 then
    0
  else
  if p0 = 116 then
    1
  else
  (-1)
noncomputable def f2_anyOf_b8 (rec : Nat → (Nat → Int32) → (Nat → Nat → Int32) → (Nat → Int32) → (Nat → Nat → Int32) → Int32 → Option ((Nat → Nat → Int32) × (Nat → Int32) × (Nat → Int32))) (A1 : Nat → Nat → Int32) (p2 : Int32) (k8 : (Nat → Nat → Int32) → (Nat → Int32) → (Nat → Int32) → Int32 → Option ((Nat → Nat → Int32) × (Nat → Int32) × (Nat → Int32))) (A0 : Nat → Nat → Int32) (f0 : Nat → Int32) (f1 : Nat → Int32) (l3 : Int32) : Option ((Nat → Nat → Int32) × (Nat → Int32) × (Nat → Int32)) :=
  if 240 ≤ l3 then
    some (A0, f0, f1)
  else
    if (f7_isFine f1 A1) = 0 then
      some (A0, f0, f1)
    else
      if (f7_look f1 A1) = 124 then
        letv (f7_step f1 A1) fun z_2 =>
        (f2_order f0 A0 5 0).bind fun q_3 =>
        (rec 1 q_3.2.2 q_3.2.1 z_2 A1 p2).bind fun q_4 =>
        letv (f9_put 240 (q_4.1 1) q_3.1 (q_4.2.1 7)) fun z_5 =>
        letv (updA q_4.1 1 z_5) fun A0_6 =>
        k8 A0_6 q_4.2.1 q_4.2.2 (l3 + 1)
      else
        some (A0, f0, f1)
noncomputable def f2_anyOf_l8 (rec : Nat → (Nat → Int32) → (Nat → Nat → Int32) → (Nat → Int32) → (Nat → Nat → Int32) → Int32 → Option ((Nat → Nat → Int32) × (Nat → Int32) × (Nat → Int32))) (A1 : Nat → Nat → Int32) (p2 : Int32) : Nat → (Nat → Nat → Int32) → (Nat → Int32) → (Nat → Int32) → Int32 → Option ((Nat → Nat → Int32) × (Nat → Int32) × (Nat → Int32))
  | 0 => fun _ _ _ _ => none
  | n + 1 => fun A0 f0 f1 l3 => f2_anyOf_b8 rec A1 p2  (f2_anyOf_l8 rec A1 p2  n) A0 f0 f1 l3
noncomputable def f2_anyOf (rec : Nat → (Nat → Int32) → (Nat → Nat → Int32) → (Nat → Int32) → (Nat → Nat → Int32) → Int32 → Option ((Nat → Nat → Int32) × (Nat → Int32) × (Nat → Int32))) (f0 : Nat → Int32) (A0 : Nat → Nat → Int32) (f1 : Nat → Int32) (A1 : Nat → Nat → Int32) (p2 : Int32) : Option ((Nat → Nat → Int32) × (Nat → Int32) × (Nat → Int32)) :=
  (rec 1 f0 A0 f1 A1 p2).bind fun q_1 =>
  f2_anyOf_l8 rec A1 p2 NF q_1.1 q_1.2.1 q_1.2.2 0
noncomputable def f2_allOf_b8 (rec : Nat → (Nat → Int32) → (Nat → Nat → Int32) → (Nat → Int32) → (Nat → Nat → Int32) → Int32 → Option ((Nat → Nat → Int32) × (Nat → Int32) × (Nat → Int32))) (A1 : Nat → Nat → Int32) (p2 : Int32) (k8 : (Nat → Nat → Int32) → (Nat → Int32) → (Nat → Int32) → Int32 → Option ((Nat → Nat → Int32) × (Nat → Int32) × (Nat → Int32))) (A0 : Nat → Nat → Int32) (f0 : Nat → Int32) (f1 : Nat → Int32) (l3 : Int32) : Option ((Nat → Nat → Int32) × (Nat → Int32) × (Nat → Int32)) :=
  if 240 ≤ l3 then
    some (A0, f0, f1)
  else
    if (f7_isFine f1 A1) = 0 then
      some (A0, f0, f1)
    else
      if (f7_look f1 A1) = 38 then
        letv (f7_step f1 A1) fun z_2 =>
        (f2_order f0 A0 4 0).bind fun q_3 =>
        (rec 2 q_3.2.2 q_3.2.1 z_2 A1 p2).bind fun q_4 =>
        letv (f9_put 240 (q_4.1 1) q_3.1 (q_4.2.1 7)) fun z_5 =>
        letv (updA q_4.1 1 z_5) fun A0_6 =>
        k8 A0_6 q_4.2.1 q_4.2.2 (l3 + 1)
      else
        some (A0, f0, f1)
noncomputable def f2_allOf_l8 (rec : Nat → (Nat → Int32) → (Nat → Nat → Int32) → (Nat → Int32) → (Nat → Nat → Int32) → Int32 → Option ((Nat → Nat → Int32) × (Nat → Int32) × (Nat → Int32))) (A1 : Nat → Nat → Int32) (p2 : Int32) : Nat → (Nat → Nat → Int32) → (Nat → Int32) → (Nat → Int32) → Int32 → Option ((Nat → Nat → Int32) × (Nat → Int32) × (Nat → Int32))
  | 0 => fun _ _ _ _ => none
  | n + 1 => fun A0 f0 f1 l3 => f2_allOf_b8 rec A1 p2  (f2_allOf_l8 rec A1 p2  n) A0 f0 f1 l3
noncomputable def f2_allOf (rec : Nat → (Nat → Int32) → (Nat → Nat → Int32) → (Nat → Int32) → (Nat → Nat → Int32) → Int32 → Option ((Nat → Nat → Int32) × (Nat → Int32) × (Nat → Int32))) (f0 : Nat → Int32) (A0 : Nat → Nat → Int32) (f1 : Nat → Int32) (A1 : Nat → Nat → Int32) (p2 : Int32) : Option ((Nat → Nat → Int32) × (Nat → Int32) × (Nat → Int32)) :=
  (rec 2 f0 A0 f1 A1 p2).bind fun q_1 =>
  f2_allOf_l8 rec A1 p2 NF q_1.1 q_1.2.1 q_1.2.2 0
noncomputable def f2_test_b102 (rec : Nat → (Nat → Int32) → (Nat → Nat → Int32) → (Nat → Int32) → (Nat → Nat → Int32) → Int32 → Option ((Nat → Nat → Int32) × (Nat → Int32) × (Nat → Int32))) (A1 : Nat → Nat → Int32) (p2 : Int32) (A0 : Nat → Nat → Int32) (f0 : Nat → Int32) (f1 : Nat → Int32) (l4 : Int32) : Option ((Nat → Nat → Int32) × (Nat → Int32) × (Nat → Int32)) :=
  letv (f7_step f1 A1) fun z_2 =>
  (rec 3 f0 A0 z_2 A1 p2).bind fun q_3 =>
  (f2_order q_3.2.1 q_3.1 l4 0).bind fun q_4 =>
  some (q_4.2.1, q_4.2.2, q_3.2.2)
noncomputable def f2_test (rec : Nat → (Nat → Int32) → (Nat → Nat → Int32) → (Nat → Int32) → (Nat → Nat → Int32) → Int32 → Option ((Nat → Nat → Int32) × (Nat → Int32) × (Nat → Int32))) (f0 : Nat → Int32) (A0 : Nat → Nat → Int32) (f1 : Nat → Int32) (A1 : Nat → Nat → Int32) (p2 : Int32) : Option ((Nat → Nat → Int32) × (Nat → Int32) × (Nat → Int32)) :=
  if (f7_look f1 A1) = 33 then
    (f2_opens f1 A1 p2).bind fun q_9 =>
    if q_9.1 = 0 then
      some (A0, f0, q_9.2)
    else
      (rec 2 f0 A0 q_9.2 A1 (p2 + 1)).bind fun q_10 =>
      (f2_order q_10.2.1 q_10.1 3 0).bind fun q_11 =>
      some (q_11.2.1, q_11.2.2, q_10.2.2)
  else
    if (f7_look f1 A1) = 40 then
      (f2_opens f1 A1 p2).bind fun q_6 =>
      if q_6.1 = 0 then
        some (A0, f0, q_6.2)
      else
        (rec 0 f0 A0 q_6.2 A1 (p2 + 1)).bind fun q_7 =>
        (f7_take q_7.2.2 A1 41).bind fun q_8 =>
        some (q_7.1, q_7.2.1, q_8.2)
    else
      (rec 3 f0 A0 f1 A1 p2).bind fun q_1 =>
      if (f7_look q_1.2.2 A1) = 60 then
        f2_test_b102 rec A1 p2 q_1.1 q_1.2.1 q_1.2.2 (f7_look q_1.2.2 A1)
      else
        if (f7_look q_1.2.2 A1) = 62 then
          f2_test_b102 rec A1 p2 q_1.1 q_1.2.1 q_1.2.2 (f7_look q_1.2.2 A1)
        else
          if (f7_look q_1.2.2 A1) = 61 then
            f2_test_b102 rec A1 p2 q_1.1 q_1.2.1 q_1.2.2 (f7_look q_1.2.2 A1)
          else
            letv (f7_fail q_1.2.2 A1 1) fun z_5 =>
            some (q_1.1, q_1.2.1, z_5)
noncomputable def f2_sum_b43 (rec : Nat → (Nat → Int32) → (Nat → Nat → Int32) → (Nat → Int32) → (Nat → Nat → Int32) → Int32 → Option ((Nat → Nat → Int32) × (Nat → Int32) × (Nat → Int32))) (A1 : Nat → Nat → Int32) (p2 : Int32) (k8 : (Nat → Nat → Int32) → (Nat → Int32) → (Nat → Int32) → Int32 → Option ((Nat → Nat → Int32) × (Nat → Int32) × (Nat → Int32))) (A0 : Nat → Nat → Int32) (f0 : Nat → Int32) (f1 : Nat → Int32) (l3 : Int32) (l4 : Int32) : Option ((Nat → Nat → Int32) × (Nat → Int32) × (Nat → Int32)) :=
  letv (f7_step f1 A1) fun z_2 =>
  (rec 4 f0 A0 z_2 A1 p2).bind fun q_3 =>
  (f2_order q_3.2.1 q_3.1 l4 0).bind fun q_4 =>
  k8 q_4.2.1 q_4.2.2 q_3.2.2 (l3 + 1)
noncomputable def f2_sum_b8 (rec : Nat → (Nat → Int32) → (Nat → Nat → Int32) → (Nat → Int32) → (Nat → Nat → Int32) → Int32 → Option ((Nat → Nat → Int32) × (Nat → Int32) × (Nat → Int32))) (A1 : Nat → Nat → Int32) (p2 : Int32) (k8 : (Nat → Nat → Int32) → (Nat → Int32) → (Nat → Int32) → Int32 → Option ((Nat → Nat → Int32) × (Nat → Int32) × (Nat → Int32))) (A0 : Nat → Nat → Int32) (f0 : Nat → Int32) (f1 : Nat → Int32) (l3 : Int32) : Option ((Nat → Nat → Int32) × (Nat → Int32) × (Nat → Int32)) :=
  if 240 ≤ l3 then
    some (A0, f0, f1)
  else
    if (f7_isFine f1 A1) = 0 then
      some (A0, f0, f1)
    else
      if (f7_look f1 A1) = 43 then
        f2_sum_b43 rec A1 p2 k8 A0 f0 f1 l3 (f7_look f1 A1)
      else
        if (f7_look f1 A1) = 45 then
          f2_sum_b43 rec A1 p2 k8 A0 f0 f1 l3 (f7_look f1 A1)
        else
          some (A0, f0, f1)
noncomputable def f2_sum_l8 (rec : Nat → (Nat → Int32) → (Nat → Nat → Int32) → (Nat → Int32) → (Nat → Nat → Int32) → Int32 → Option ((Nat → Nat → Int32) × (Nat → Int32) × (Nat → Int32))) (A1 : Nat → Nat → Int32) (p2 : Int32) : Nat → (Nat → Nat → Int32) → (Nat → Int32) → (Nat → Int32) → Int32 → Option ((Nat → Nat → Int32) × (Nat → Int32) × (Nat → Int32))
  | 0 => fun _ _ _ _ => none
  | n + 1 => fun A0 f0 f1 l3 => f2_sum_b8 rec A1 p2  (f2_sum_l8 rec A1 p2  n) A0 f0 f1 l3
noncomputable def f2_sum (rec : Nat → (Nat → Int32) → (Nat → Nat → Int32) → (Nat → Int32) → (Nat → Nat → Int32) → Int32 → Option ((Nat → Nat → Int32) × (Nat → Int32) × (Nat → Int32))) (f0 : Nat → Int32) (A0 : Nat → Nat → Int32) (f1 : Nat → Int32) (A1 : Nat → Nat → Int32) (p2 : Int32) : Option ((Nat → Nat → Int32) × (Nat → Int32) × (Nat → Int32)) :=
  (rec 4 f0 A0 f1 A1 p2).bind fun q_1 =>
  f2_sum_l8 rec A1 p2 NF q_1.1 q_1.2.1 q_1.2.2 0
noncomputable def f2_term_b50 (rec : Nat → (Nat → Int32) → (Nat → Nat → Int32) → (Nat → Int32) → (Nat → Nat → Int32) → Int32 → Option ((Nat → Nat → Int32) × (Nat → Int32) × (Nat → Int32))) (A1 : Nat → Nat → Int32) (p2 : Int32) (k8 : (Nat → Nat → Int32) → (Nat → Int32) → (Nat → Int32) → Int32 → Option ((Nat → Nat → Int32) × (Nat → Int32) × (Nat → Int32))) (A0 : Nat → Nat → Int32) (f0 : Nat → Int32) (f1 : Nat → Int32) (l3 : Int32) (l4 : Int32) : Option ((Nat → Nat → Int32) × (Nat → Int32) × (Nat → Int32)) :=
  letv (f7_step f1 A1) fun z_2 =>
  (rec 5 f0 A0 z_2 A1 p2).bind fun q_3 =>
  (f2_order q_3.2.1 q_3.1 l4 0).bind fun q_4 =>
  k8 q_4.2.1 q_4.2.2 q_3.2.2 (l3 + 1)
noncomputable def f2_term_b8 (rec : Nat → (Nat → Int32) → (Nat → Nat → Int32) → (Nat → Int32) → (Nat → Nat → Int32) → Int32 → Option ((Nat → Nat → Int32) × (Nat → Int32) × (Nat → Int32))) (A1 : Nat → Nat → Int32) (p2 : Int32) (k8 : (Nat → Nat → Int32) → (Nat → Int32) → (Nat → Int32) → Int32 → Option ((Nat → Nat → Int32) × (Nat → Int32) × (Nat → Int32))) (A0 : Nat → Nat → Int32) (f0 : Nat → Int32) (f1 : Nat → Int32) (l3 : Int32) : Option ((Nat → Nat → Int32) × (Nat → Int32) × (Nat → Int32)) :=
  if 240 ≤ l3 then
    some (A0, f0, f1)
  else
    if (f7_isFine f1 A1) = 0 then
      some (A0, f0, f1)
    else
      if (f7_look f1 A1) = 42 then
        f2_term_b50 rec A1 p2 k8 A0 f0 f1 l3 (f7_look f1 A1)
      else
        if (f7_look f1 A1) = 47 then
          f2_term_b50 rec A1 p2 k8 A0 f0 f1 l3 (f7_look f1 A1)
        else
          if (f7_look f1 A1) = 37 then
            f2_term_b50 rec A1 p2 k8 A0 f0 f1 l3 (f7_look f1 A1)
          else
            some (A0, f0, f1)
noncomputable def f2_term_l8 (rec : Nat → (Nat → Int32) → (Nat → Nat → Int32) → (Nat → Int32) → (Nat → Nat → Int32) → Int32 → Option ((Nat → Nat → Int32) × (Nat → Int32) × (Nat → Int32))) (A1 : Nat → Nat → Int32) (p2 : Int32) : Nat → (Nat → Nat → Int32) → (Nat → Int32) → (Nat → Int32) → Int32 → Option ((Nat → Nat → Int32) × (Nat → Int32) × (Nat → Int32))
  | 0 => fun _ _ _ _ => none
  | n + 1 => fun A0 f0 f1 l3 => f2_term_b8 rec A1 p2  (f2_term_l8 rec A1 p2  n) A0 f0 f1 l3
noncomputable def f2_term (rec : Nat → (Nat → Int32) → (Nat → Nat → Int32) → (Nat → Int32) → (Nat → Nat → Int32) → Int32 → Option ((Nat → Nat → Int32) × (Nat → Int32) × (Nat → Int32))) (f0 : Nat → Int32) (A0 : Nat → Nat → Int32) (f1 : Nat → Int32) (A1 : Nat → Nat → Int32) (p2 : Int32) : Option ((Nat → Nat → Int32) × (Nat → Int32) × (Nat → Int32)) :=
  (rec 5 f0 A0 f1 A1 p2).bind fun q_1 =>
  f2_term_l8 rec A1 p2 NF q_1.1 q_1.2.1 q_1.2.2 0
noncomputable def f2_factor (rec : Nat → (Nat → Int32) → (Nat → Nat → Int32) → (Nat → Int32) → (Nat → Nat → Int32) → Int32 → Option ((Nat → Nat → Int32) × (Nat → Int32) × (Nat → Int32))) (f0 : Nat → Int32) (A0 : Nat → Nat → Int32) (f1 : Nat → Int32) (A1 : Nat → Nat → Int32) (p2 : Int32) : Option ((Nat → Nat → Int32) × (Nat → Int32) × (Nat → Int32)) :=
  if (f7_look f1 A1) = 91 then
    (f2_opens f1 A1 p2).bind fun q_7 =>
    if q_7.1 = 0 then
      some (A0, f0, q_7.2)
    else
      (rec 3 f0 A0 q_7.2 A1 (p2 + 1)).bind fun q_8 =>
      (f7_take q_8.2.2 A1 93).bind fun q_9 =>
      some (q_8.1, q_8.2.1, q_9.2)
  else
    (f7_isDigit (f7_look f1 A1)).bind fun q_1 =>
    if q_1 = 0 then
      if (f2_letterOf (f7_look f1 A1)) = (-1) then
        letv (f7_fail f1 A1 1) fun z_2 =>
        some (A0, f0, z_2)
      else
        (f2_order f0 A0 2 (f2_letterOf (f7_look f1 A1))).bind fun q_3 =>
        letv (f7_step f1 A1) fun z_4 =>
        some (q_3.2.1, q_3.2.2, z_4)
    else
      (f7_number f1 A1 5).bind fun q_5 =>
      (f2_order f0 A0 1 q_5.1).bind fun q_6 =>
      some (q_6.2.1, q_6.2.2, q_5.2)
noncomputable def f2_anyOf_rec : Nat → Nat → (Nat → Int32) → (Nat → Nat → Int32) → (Nat → Int32) → (Nat → Nat → Int32) → Int32 → Option ((Nat → Nat → Int32) × (Nat → Int32) × (Nat → Int32))
  | 0 => fun _ _ _ _ _ _ => none
  | d + 1 => fun t x0 x1 x2 x3 x4 => if t = 0 then f2_anyOf (f2_anyOf_rec d) x0 x1 x2 x3 x4 else if t = 1 then f2_allOf (f2_anyOf_rec d) x0 x1 x2 x3 x4 else if t = 2 then f2_test (f2_anyOf_rec d) x0 x1 x2 x3 x4 else if t = 3 then f2_sum (f2_anyOf_rec d) x0 x1 x2 x3 x4 else if t = 4 then f2_term (f2_anyOf_rec d) x0 x1 x2 x3 x4 else f2_factor (f2_anyOf_rec d) x0 x1 x2 x3 x4
noncomputable def f2_rule_b124 (A1 : Nat → Nat → Int32) (A0 : Nat → Nat → Int32) (f0 : Nat → Int32) (f1 : Nat → Int32) : Option ((Nat → Nat → Int32) × (Nat → Int32) × (Nat → Int32)) :=
  letv (f9_put 16 (A0 5) (f0 9) (f0 7)) fun z_9 =>
  letv (updA A0 5 z_9) fun A0_10 =>
  letv (upd f0 9 ((f0 9) + 1)) fun f0_11 =>
  some (A0_10, f0_11, f1)
noncomputable def f2_rule_b87 (A1 : Nat → Nat → Int32) (A0 : Nat → Nat → Int32) (f0 : Nat → Int32) (f1 : Nat → Int32) : Option ((Nat → Nat → Int32) × (Nat → Int32) × (Nat → Int32)) :=
  letv (f9_put 16 (A0 4) (f0 9) (f0 7)) fun z_6 =>
  letv (updA A0 4 z_6) fun A0_7 =>
  (f7_take f1 A1 40).bind fun q_8 =>
  if q_8.1 = 0 then
    f2_rule_b124 A1 A0_7 f0 q_8.2
  else
    (f2_anyOf_rec 64 0 f0 A0_7 q_8.2 A1 1).bind fun q_12 =>
    (f7_take q_12.2.2 A1 41).bind fun q_13 =>
    f2_rule_b124 A1 q_12.1 q_12.2.1 q_13.2
noncomputable def f2_rule_b29 (A1 : Nat → Nat → Int32) (A0 : Nat → Nat → Int32) (f0 : Nat → Int32) (f1 : Nat → Int32) (l2 : Int32) : Option ((Nat → Nat → Int32) × (Nat → Int32) × (Nat → Int32)) :=
  if (f0 9) < 16 then
    letv (f7_step f1 A1) fun z_1 =>
    letv (f9_put 16 (A0 2) (f0 9) l2) fun z_2 =>
    letv (updA A0 2 z_2) fun A0_3 =>
    letv (f9_put 16 (A0_3 3) (f0 9) (f0 7)) fun z_4 =>
    letv (updA A0_3 3 z_4) fun A0_5 =>
    if l2 = 115 then
      f2_rule_b87 A1 A0_5 f0 z_1
    else
      (f2_anyOf_rec 64 3 f0 A0_5 z_1 A1 0).bind fun q_14 =>
      f2_rule_b87 A1 q_14.1 q_14.2.1 q_14.2.2
  else
    letv (f7_fail f1 A1 4) fun z_15 =>
    some (A0, f0, z_15)
noncomputable def f2_rule (f0 : Nat → Int32) (A0 : Nat → Nat → Int32) (f1 : Nat → Int32) (A1 : Nat → Nat → Int32) : Option ((Nat → Nat → Int32) × (Nat → Int32) × (Nat → Int32)) :=
  if (f7_look f1 A1) = 119 then
    f2_rule_b29 A1 A0 f0 f1 (f7_look f1 A1)
  else
    if (f7_look f1 A1) = 114 then
      f2_rule_b29 A1 A0 f0 f1 (f7_look f1 A1)
    else
      if (f7_look f1 A1) = 115 then
        f2_rule_b29 A1 A0 f0 f1 (f7_look f1 A1)
      else
        letv (f7_fail f1 A1 1) fun z_16 =>
        some (A0, f0, z_16)
noncomputable def f7_goesOn (f0 : Nat → Int32) (A0 : Nat → Nat → Int32) : Option (Int32 × (Nat → Int32)) :=
  if (f7_look f0 A0) = (-1) then
    some (0, f0)
  else
    (f7_take f0 A0 59).bind fun q_1 =>
    if q_1.1 = 0 then
      some (0, q_1.2)
    else
      some (1, q_1.2)
noncomputable def f2_read_b14 (A1 : Nat → Nat → Int32) (k14 : (Nat → Nat → Int32) → (Nat → Int32) → (Nat → Int32) → Int32 → Int32 → Option ((Nat → Nat → Int32) × (Nat → Int32) × (Nat → Int32))) (A0 : Nat → Nat → Int32) (f0 : Nat → Int32) (f1 : Nat → Int32) (l2 : Int32) (l3 : Int32) : Option ((Nat → Nat → Int32) × (Nat → Int32) × (Nat → Int32)) :=
  if l2 = 0 then
    some (A0, f0, f1)
  else
    if 240 ≤ l3 then
      some (A0, f0, f1)
    else
      (f2_rule f0 A0 f1 A1).bind fun q_3 =>
      (f7_goesOn q_3.2.2 A1).bind fun q_4 =>
      k14 q_3.1 q_3.2.1 q_4.2 q_4.1 (l3 + 1)
noncomputable def f2_read_l14 (A1 : Nat → Nat → Int32) : Nat → (Nat → Nat → Int32) → (Nat → Int32) → (Nat → Int32) → Int32 → Int32 → Option ((Nat → Nat → Int32) × (Nat → Int32) × (Nat → Int32))
  | 0 => fun _ _ _ _ _ => none
  | n + 1 => fun A0 f0 f1 l2 l3 => f2_read_b14 A1  (f2_read_l14 A1  n) A0 f0 f1 l2 l3
noncomputable def f2_read (f0 : Nat → Int32) (A0 : Nat → Nat → Int32) (f1 : Nat → Int32) (A1 : Nat → Nat → Int32) : Option ((Nat → Nat → Int32) × (Nat → Int32) × (Nat → Int32)) :=
  letv (upd f0 7 0) fun f0_1 =>
  letv (upd f0_1 9 0) fun f0_2 =>
  f2_read_l14 A1 NF A0 f0_2 f1 1 0
noncomputable def f2_joined_b23 (A0 : Nat → Nat → Int32) (p1 : Int32) (p2 : Int32) (p3 : Int32) (f0 : Nat → Int32) : Option (Int32 × (Nat → Int32)) :=
  if p1 = 37 then
    if p3 = 0 then
      some (0, f0)
    else
      if p3 = 0 then none else
      some (irm p2 p3, f0)
  else
  if p1 = 42 then
    some (p2 * p3, f0)
  else
  if p1 = 43 then
    some (p2 + p3, f0)
  else
  if p1 = 45 then
    some (p2 - p3, f0)
  else
  if p1 = 47 then
    if p3 = 0 then
      some (0, f0)
    else
      if p3 = 0 then none else
      some (p2 / p3, f0)
  else
  if p1 = 60 then
    if p3 ≤ p2 then
      some (0, f0)
    else
      some (1, f0)
  else
  if p1 = 61 then
    if p2 = p3 then
      some (1, f0)
    else
      some (0, f0)
  else
  if p1 = 62 then
    if p2 ≤ p3 then
      some (0, f0)
    else
      some (1, f0)
  else
  some (p2, f0)
noncomputable def f2_joined (f0 : Nat → Int32) (A0 : Nat → Nat → Int32) (p1 : Int32) (p2 : Int32) (p3 : Int32) : Option (Int32 × (Nat → Int32)) :=
  if p3 = 0 then
    if p1 = 47 then
      letv (upd f0 8 1) fun f0_1 =>
      some (0, f0_1)
    else
      if p1 = 37 then
        letv (upd f0 8 1) fun f0_2 =>
        some (0, f0_2)
      else
        f2_joined_b23 A0 p1 p2 p3 f0
  else
    f2_joined_b23 A0 p1 p2 p3 f0
noncomputable def f2_reckoned_b261 (n1 : Nat) (xs1 : Nat → Int32) (p1 : Int32) (p2 : Int32) (A0 : Nat → Nat → Int32) (f0 : Nat → Int32) (l4 : Int32) : Option (Int32 × (Nat → Nat → Int32) × (Nat → Int32)) :=
  if (f0 8) = 0 then
    some ((f9_at 240 (A0 6) (l4 - 1)), A0, f0)
  else
    some (0, A0, f0)
noncomputable def f2_reckoned_b108 (n1 : Nat) (xs1 : Nat → Int32) (p1 : Int32) (p2 : Int32) (k14 : (Nat → Nat → Int32) → (Nat → Int32) → Int32 → Int32 → Int32 → Option (Int32 × (Nat → Nat → Int32) × (Nat → Int32))) (A0 : Nat → Nat → Int32) (f0 : Nat → Int32) (l4 : Int32) (l5 : Int32) (l6 : Int32) (s0 : Int32) (s1 : Int32) : Option (Int32 × (Nat → Nat → Int32) × (Nat → Int32)) :=
  letv (f9_put 240 (A0 6) s1 s0) fun z_2 =>
  letv (updA A0 6 z_2) fun A0_3 =>
  k14 A0_3 f0 (l4 + 1) l5 (l6 + 1)
noncomputable def f2_reckoned_b85 (n1 : Nat) (xs1 : Nat → Int32) (p1 : Int32) (p2 : Int32) (k14 : (Nat → Nat → Int32) → (Nat → Int32) → Int32 → Int32 → Int32 → Option (Int32 × (Nat → Nat → Int32) × (Nat → Int32))) (A0 : Nat → Nat → Int32) (f0 : Nat → Int32) (l4 : Int32) (l5 : Int32) (l6 : Int32) (l7 : Int32) (l8 : Int32) : Option (Int32 × (Nat → Nat → Int32) × (Nat → Int32)) :=
  if l7 = 1 then
    f2_reckoned_b108 n1 xs1 p1 p2 k14 A0 f0 l4 l5 l6 l8 l4
  else
    f2_reckoned_b108 n1 xs1 p1 p2 k14 A0 f0 l4 l5 l6 (f9_at n1 xs1 l8) l4
noncomputable def f2_reckoned_b202 (n1 : Nat) (xs1 : Nat → Int32) (p1 : Int32) (p2 : Int32) (k14 : (Nat → Nat → Int32) → (Nat → Int32) → Int32 → Int32 → Int32 → Option (Int32 × (Nat → Nat → Int32) × (Nat → Int32))) (A0 : Nat → Nat → Int32) (f0 : Nat → Int32) (l5 : Int32) (l6 : Int32) (l8 : Int32) (l10 : Int32) (s0 : Int32) (s1 : Int32) : Option (Int32 × (Nat → Nat → Int32) × (Nat → Int32)) :=
  if l10 = 0 then
    k14 A0 f0 (s1 - s0) l8 (l6 + 1)
  else
    k14 A0 f0 (s1 - s0) l5 (l6 + 1)
noncomputable def f2_reckoned_b180 (n1 : Nat) (xs1 : Nat → Int32) (p1 : Int32) (p2 : Int32) (k14 : (Nat → Nat → Int32) → (Nat → Int32) → Int32 → Int32 → Int32 → Option (Int32 × (Nat → Nat → Int32) × (Nat → Int32))) (A0 : Nat → Nat → Int32) (f0 : Nat → Int32) (l4 : Int32) (l5 : Int32) (l6 : Int32) (l8 : Int32) (s0 : Int32) (s1 : Int32) : Option (Int32 × (Nat → Nat → Int32) × (Nat → Int32)) :=
  if s1 = s0 then
    if (1 : Int32) = 0 then
      f2_reckoned_b202 n1 xs1 p1 p2 k14 A0 f0 l5 l6 l8 1 0 l4
    else
      f2_reckoned_b202 n1 xs1 p1 p2 k14 A0 f0 l5 l6 l8 1 1 l4
  else
    if (0 : Int32) = 0 then
      f2_reckoned_b202 n1 xs1 p1 p2 k14 A0 f0 l5 l6 l8 0 0 l4
    else
      f2_reckoned_b202 n1 xs1 p1 p2 k14 A0 f0 l5 l6 l8 0 1 l4
noncomputable def f2_reckoned_b159 (n1 : Nat) (xs1 : Nat → Int32) (p1 : Int32) (p2 : Int32) (k14 : (Nat → Nat → Int32) → (Nat → Int32) → Int32 → Int32 → Int32 → Option (Int32 × (Nat → Nat → Int32) × (Nat → Int32))) (A0 : Nat → Nat → Int32) (f0 : Nat → Int32) (l4 : Int32) (l5 : Int32) (l6 : Int32) (l7 : Int32) (l8 : Int32) (l9 : Int32) : Option (Int32 × (Nat → Nat → Int32) × (Nat → Int32)) :=
  if l7 = 4 then
    if l9 = 0 then
      f2_reckoned_b180 n1 xs1 p1 p2 k14 A0 f0 l4 l5 l6 l8 0 1
    else
      f2_reckoned_b180 n1 xs1 p1 p2 k14 A0 f0 l4 l5 l6 l8 1 1
  else
    if l9 = 0 then
      f2_reckoned_b180 n1 xs1 p1 p2 k14 A0 f0 l4 l5 l6 l8 0 0
    else
      f2_reckoned_b180 n1 xs1 p1 p2 k14 A0 f0 l4 l5 l6 l8 1 0
noncomputable def f2_reckoned_b14 (n1 : Nat) (xs1 : Nat → Int32) (p1 : Int32) (p2 : Int32) (k14 : (Nat → Nat → Int32) → (Nat → Int32) → Int32 → Int32 → Int32 → Option (Int32 × (Nat → Nat → Int32) × (Nat → Int32))) (A0 : Nat → Nat → Int32) (f0 : Nat → Int32) (l4 : Int32) (l5 : Int32) (l6 : Int32) : Option (Int32 × (Nat → Nat → Int32) × (Nat → Int32)) :=
  if 240 ≤ l6 then
    f2_reckoned_b261 n1 xs1 p1 p2 A0 f0 l4
  else
    if p2 ≤ l5 then
      f2_reckoned_b261 n1 xs1 p1 p2 A0 f0 l4
    else
      if (f0 8) = 0 then
        if (f9_at 240 (A0 0) l5) = 1 then
          f2_reckoned_b85 n1 xs1 p1 p2 k14 A0 f0 l4 (l5 + 1) l6 (f9_at 240 (A0 0) l5) (f9_at 240 (A0 1) l5)
        else
          if (f9_at 240 (A0 0) l5) = 2 then
            f2_reckoned_b85 n1 xs1 p1 p2 k14 A0 f0 l4 (l5 + 1) l6 (f9_at 240 (A0 0) l5) (f9_at 240 (A0 1) l5)
          else
            if (f9_at 240 (A0 0) l5) = 3 then
              if (f9_at 240 (A0 6) (l4 - 1)) = 0 then
                letv (f9_put 240 (A0 6) (l4 - 1) 1) fun z_9 =>
                letv (updA A0 6 z_9) fun A0_10 =>
                k14 A0_10 f0 l4 (l5 + 1) (l6 + 1)
              else
                letv (f9_put 240 (A0 6) (l4 - 1) 0) fun z_7 =>
                letv (updA A0 6 z_7) fun A0_8 =>
                k14 A0_8 f0 l4 (l5 + 1) (l6 + 1)
            else
              if (f9_at 240 (A0 0) l5) = 4 then
                f2_reckoned_b159 n1 xs1 p1 p2 k14 A0 f0 l4 (l5 + 1) l6 (f9_at 240 (A0 0) l5) (f9_at 240 (A0 1) l5) (f9_at 240 (A0 6) (l4 - 1))
              else
                if (f9_at 240 (A0 0) l5) = 5 then
                  f2_reckoned_b159 n1 xs1 p1 p2 k14 A0 f0 l4 (l5 + 1) l6 (f9_at 240 (A0 0) l5) (f9_at 240 (A0 1) l5) (f9_at 240 (A0 6) (l4 - 1))
                else
                  (f2_joined f0 A0 (f9_at 240 (A0 0) l5) (f9_at 240 (A0 6) ((l4 + (-1)) - 1)) (f9_at 240 (A0 6) (l4 - 1))).bind fun q_4 =>
                  letv (f9_put 240 (A0 6) ((l4 + (-1)) - 1) q_4.1) fun z_5 =>
                  letv (updA A0 6 z_5) fun A0_6 =>
                  k14 A0_6 q_4.2 (l4 + (-1)) (l5 + 1) (l6 + 1)
      else
        f2_reckoned_b261 n1 xs1 p1 p2 A0 f0 l4
noncomputable def f2_reckoned_l14 (n1 : Nat) (xs1 : Nat → Int32) (p1 : Int32) (p2 : Int32) : Nat → (Nat → Nat → Int32) → (Nat → Int32) → Int32 → Int32 → Int32 → Option (Int32 × (Nat → Nat → Int32) × (Nat → Int32))
  | 0 => fun _ _ _ _ _ => none
  | n + 1 => fun A0 f0 l4 l5 l6 => f2_reckoned_b14 n1 xs1 p1 p2  (f2_reckoned_l14 n1 xs1 p1 p2  n) A0 f0 l4 l5 l6
noncomputable def f2_reckoned (f0 : Nat → Int32) (A0 : Nat → Nat → Int32) (n1 : Nat) (xs1 : Nat → Int32) (p1 : Int32) (p2 : Int32) : Option (Int32 × (Nat → Nat → Int32) × (Nat → Int32)) :=
  letv (upd f0 8 0) fun f0_1 =>
  f2_reckoned_l14 n1 xs1 p1 p2 NF A0 f0_1 0 p1 0
noncomputable def f2_isSafe_b2 (n1 : Nat) (xs1 : Nat → Int32) (k2 : (Nat → Nat → Int32) → (Nat → Int32) → Int32 → Option (Int32 × (Nat → Nat → Int32) × (Nat → Int32))) (A0 : Nat → Nat → Int32) (f0 : Nat → Int32) (l2 : Int32) : Option (Int32 × (Nat → Nat → Int32) × (Nat → Int32)) :=
  if (f0 9) ≤ l2 then
    some (0, A0, f0)
  else
    if (f9_at 16 (A0 2) l2) = 115 then
      (f2_reckoned f0 A0 n1 xs1 (f9_at 16 (A0 4) l2) (f9_at 16 (A0 5) l2)).bind fun q_1 =>
      if q_1.1 = 0 then
        k2 q_1.2.1 q_1.2.2 (l2 + 1)
      else
        some (1, q_1.2.1, q_1.2.2)
    else
      k2 A0 f0 (l2 + 1)
noncomputable def f2_isSafe_l2 (n1 : Nat) (xs1 : Nat → Int32) : Nat → (Nat → Nat → Int32) → (Nat → Int32) → Int32 → Option (Int32 × (Nat → Nat → Int32) × (Nat → Int32))
  | 0 => fun _ _ _ => none
  | n + 1 => fun A0 f0 l2 => f2_isSafe_b2 n1 xs1  (f2_isSafe_l2 n1 xs1  n) A0 f0 l2
noncomputable def f2_isSafe (f0 : Nat → Int32) (A0 : Nat → Nat → Int32) (n1 : Nat) (xs1 : Nat → Int32) : Option (Int32 × (Nat → Nat → Int32) × (Nat → Int32)) :=
  f2_isSafe_l2 n1 xs1 NF A0 f0 0
noncomputable def f9_clamp (p0 : Int32) (p1 : Int32) (p2 : Int32) : Int32 :=
  imax p1 (imin p0 p2)
noncomputable def f2_rate_b3 (n1 : Nat) (xs1 : Nat → Int32) (p1 : Int32) (p2 : Int32) (k3 : (Nat → Nat → Int32) → (Nat → Int32) → Int32 → Option (Int32 × (Nat → Nat → Int32) × (Nat → Int32))) (A0 : Nat → Nat → Int32) (f0 : Nat → Int32) (l4 : Int32) : Option (Int32 × (Nat → Nat → Int32) × (Nat → Int32)) :=
  if (f0 9) ≤ l4 then
    some (0, A0, f0)
  else
    if (f9_at 16 (A0 2) l4) = p1 then
      (f2_reckoned f0 A0 n1 xs1 (f9_at 16 (A0 4) l4) (f9_at 16 (A0 5) l4)).bind fun q_1 =>
      if q_1.1 = 0 then
        k3 q_1.2.1 q_1.2.2 (l4 + 1)
      else
        (f2_reckoned q_1.2.2 q_1.2.1 n1 xs1 (f9_at 16 (q_1.2.1 3) l4) (f9_at 16 (q_1.2.1 4) l4)).bind fun q_2 =>
        some ((f9_clamp q_2.1 0 p2), q_2.2.1, q_2.2.2)
    else
      k3 A0 f0 (l4 + 1)
noncomputable def f2_rate_l3 (n1 : Nat) (xs1 : Nat → Int32) (p1 : Int32) (p2 : Int32) : Nat → (Nat → Nat → Int32) → (Nat → Int32) → Int32 → Option (Int32 × (Nat → Nat → Int32) × (Nat → Int32))
  | 0 => fun _ _ _ => none
  | n + 1 => fun A0 f0 l4 => f2_rate_b3 n1 xs1 p1 p2  (f2_rate_l3 n1 xs1 p1 p2  n) A0 f0 l4
noncomputable def f2_rate (f0 : Nat → Int32) (A0 : Nat → Nat → Int32) (n1 : Nat) (xs1 : Nat → Int32) (p1 : Int32) (p2 : Int32) : Option (Int32 × (Nat → Nat → Int32) × (Nat → Int32)) :=
  f2_rate_l3 n1 xs1 p1 p2 NF A0 f0 0
noncomputable def f3_isSign (p0 : Int32) : Int32 :=
  if p0 = 43 then
    1
  else
    if p0 = 45 then
      1
    else
      if p0 = 61 then
        1
      else
        if p0 = 38 then
          1
        else
          if p0 = 47 then
            1
          else
            0
theorem f3_isSign_b (p0 : Int32) : f3_isSign p0 = 0 ∨ f3_isSign p0 = 1 := by
  unfold f3_isSign
  try simp only [letv]
  repeat' split
  all_goals first | exact Or.inl rfl | exact Or.inr rfl | (simp; done)
noncomputable def f3_other (f0 : Nat → Int32) (A0 : Nat → Nat → Int32) (f1 : Nat → Int32) (A1 : Nat → Nat → Int32) (p2 : Int32) : Option (Int32 × (Nat → Int32)) :=
  if (f7_placeOf (f7_look f0 A0)) = (-1) then
    letv (f7_fail f0 A0 1) fun z_4 =>
    some ((f7_placeOf (f7_look f0 A0)), z_4)
  else
    if (f7_placeOf (f7_look f0 A0)) = p2 then
      letv (f7_fail f0 A0 6) fun z_3 =>
      some ((f7_placeOf (f7_look f0 A0)), z_3)
    else
      if (f1_isTold f1 A1 (f7_placeOf (f7_look f0 A0))) = 0 then
        letv (f7_fail f0 A0 7) fun z_2 =>
        some ((f7_placeOf (f7_look f0 A0)), z_2)
      else
        letv (f7_step f0 A0) fun z_1 =>
        some ((f7_placeOf (f7_look f0 A0)), z_1)
noncomputable def f3_line_b127 (A1 : Nat → Nat → Int32) (f2 : Nat → Int32) (A2 : Nat → Nat → Int32) (A0 : Nat → Nat → Int32) (f0 : Nat → Int32) (f1 : Nat → Int32) (l3 : Int32) (l4 : Int32) (s0 : Int32) : Option ((Nat → Nat → Int32) × (Nat → Int32) × (Nat → Int32)) :=
  letv (f9_put 20 (A0 0) (f0 3) l3) fun z_4 =>
  letv (updA A0 0 z_4) fun A0_5 =>
  letv (f9_put 20 (A0_5 1) (f0 3) l4) fun z_6 =>
  letv (updA A0_5 1 z_6) fun A0_7 =>
  letv (f9_put 20 (A0_7 2) (f0 3) s0) fun z_8 =>
  letv (updA A0_7 2 z_8) fun A0_9 =>
  letv (upd f0 3 ((f0 3) + 1)) fun f0_10 =>
  some (A0_9, f0_10, f1)
noncomputable def f3_line_b102 (A1 : Nat → Nat → Int32) (f2 : Nat → Int32) (A2 : Nat → Nat → Int32) (A0 : Nat → Nat → Int32) (f0 : Nat → Int32) (f1 : Nat → Int32) (l3 : Int32) (l4 : Int32) : Option ((Nat → Nat → Int32) × (Nat → Int32) × (Nat → Int32)) :=
  (f3_other f1 A1 f2 A2 l3).bind fun q_3 =>
  f3_line_b127 A1 f2 A2 A0 f0 q_3.2 l3 l4 q_3.1
noncomputable def f3_line_b52 (A1 : Nat → Nat → Int32) (f2 : Nat → Int32) (A2 : Nat → Nat → Int32) (A0 : Nat → Nat → Int32) (f0 : Nat → Int32) (f1 : Nat → Int32) (l3 : Int32) : Option ((Nat → Nat → Int32) × (Nat → Int32) × (Nat → Int32)) :=
  if (f7_isFine f1 A1) = 0 then
    some (A0, f0, f1)
  else
    letv (f7_step f1 A1) fun z_1 =>
    if (f3_isSign (f7_look z_1 A1)) = 0 then
      letv (f7_fail z_1 A1 1) fun z_13 =>
      some (A0, f0, z_13)
    else
      letv (f7_step z_1 A1) fun z_2 =>
      if (f7_look z_1 A1) = 38 then
        f3_line_b102 A1 f2 A2 A0 f0 z_2 l3 (f7_look z_1 A1)
      else
        if (f7_look z_1 A1) = 47 then
          f3_line_b102 A1 f2 A2 A0 f0 z_2 l3 (f7_look z_1 A1)
        else
          if (f7_look z_1 A1) = 61 then
            (f7_number z_2 A1 3).bind fun q_12 =>
            f3_line_b127 A1 f2 A2 A0 f0 q_12.2 l3 (f7_look z_1 A1) q_12.1
          else
            (f7_number z_2 A1 2).bind fun q_11 =>
            f3_line_b127 A1 f2 A2 A0 f0 q_11.2 l3 (f7_look z_1 A1) q_11.1
noncomputable def f3_line (f0 : Nat → Int32) (A0 : Nat → Nat → Int32) (f1 : Nat → Int32) (A1 : Nat → Nat → Int32) (f2 : Nat → Int32) (A2 : Nat → Nat → Int32) : Option ((Nat → Nat → Int32) × (Nat → Int32) × (Nat → Int32)) :=
  if (f7_placeOf (f7_look f1 A1)) = (-1) then
    letv (f7_fail f1 A1 1) fun z_16 =>
    f3_line_b52 A1 f2 A2 A0 f0 z_16 (f7_placeOf (f7_look f1 A1))
  else
    if (f0 3) < 20 then
      if (f1_isTold f2 A2 (f7_placeOf (f7_look f1 A1))) = 0 then
        letv (f7_fail f1 A1 7) fun z_14 =>
        f3_line_b52 A1 f2 A2 A0 f0 z_14 (f7_placeOf (f7_look f1 A1))
      else
        f3_line_b52 A1 f2 A2 A0 f0 f1 (f7_placeOf (f7_look f1 A1))
    else
      letv (f7_fail f1 A1 4) fun z_15 =>
      f3_line_b52 A1 f2 A2 A0 f0 z_15 (f7_placeOf (f7_look f1 A1))
noncomputable def f3_read_b10 (A1 : Nat → Nat → Int32) (f2 : Nat → Int32) (A2 : Nat → Nat → Int32) (k10 : (Nat → Nat → Int32) → (Nat → Int32) → (Nat → Int32) → Int32 → Int32 → Option ((Nat → Nat → Int32) × (Nat → Int32) × (Nat → Int32))) (A0 : Nat → Nat → Int32) (f0 : Nat → Int32) (f1 : Nat → Int32) (l3 : Int32) (l4 : Int32) : Option ((Nat → Nat → Int32) × (Nat → Int32) × (Nat → Int32)) :=
  if l3 = 0 then
    some (A0, f0, f1)
  else
    if 120 ≤ l4 then
      some (A0, f0, f1)
    else
      (f3_line f0 A0 f1 A1 f2 A2).bind fun q_2 =>
      (f7_goesOn q_2.2.2 A1).bind fun q_3 =>
      k10 q_2.1 q_2.2.1 q_3.2 q_3.1 (l4 + 1)
noncomputable def f3_read_l10 (A1 : Nat → Nat → Int32) (f2 : Nat → Int32) (A2 : Nat → Nat → Int32) : Nat → (Nat → Nat → Int32) → (Nat → Int32) → (Nat → Int32) → Int32 → Int32 → Option ((Nat → Nat → Int32) × (Nat → Int32) × (Nat → Int32))
  | 0 => fun _ _ _ _ _ => none
  | n + 1 => fun A0 f0 f1 l3 l4 => f3_read_b10 A1 f2 A2  (f3_read_l10 A1 f2 A2  n) A0 f0 f1 l3 l4
noncomputable def f3_read (f0 : Nat → Int32) (A0 : Nat → Nat → Int32) (f1 : Nat → Int32) (A1 : Nat → Nat → Int32) (f2 : Nat → Int32) (A2 : Nat → Nat → Int32) : Option ((Nat → Nat → Int32) × (Nat → Int32) × (Nat → Int32)) :=
  letv (upd f0 3 0) fun f0_1 =>
  f3_read_l10 A1 f2 A2 NF A0 f0_1 f1 1 0
noncomputable def f3_grant_b2 (f0 : Nat → Int32) (A0 : Nat → Nat → Int32) (f1 : Nat → Int32) (f2 : Nat → Int32) (k2 : (Nat → Nat → Int32) → (Nat → Nat → Int32) → Int32 → Option ((Nat → Nat → Int32) × (Nat → Nat → Int32))) (A1 : Nat → Nat → Int32) (A2 : Nat → Nat → Int32) (l3 : Int32) : Option ((Nat → Nat → Int32) × (Nat → Nat → Int32)) :=
  if (f0 3) ≤ l3 then
    some (A1, A2)
  else
    if (f9_at 20 (A0 1) l3) = 38 then
      letv (f1_join f2 A2 (f9_at 20 (A0 0) l3) (f9_at 20 (A0 2) l3)) fun z_1 =>
      k2 A1 z_1 (l3 + 1)
    else
    if (f9_at 20 (A0 1) l3) = 43 then
      letv (f9_put 16 (A1 0) (f9_at 20 (A0 0) l3) (f9_clamp ((f9_at 16 (A1 0) (f9_at 20 (A0 0) l3)) + (f9_at 20 (A0 2) l3)) 0 99)) fun z_2 =>
      letv (updA A1 0 z_2) fun A1_3 =>
      k2 A1_3 A2 (l3 + 1)
    else
    if (f9_at 20 (A0 1) l3) = 45 then
      letv (f9_put 16 (A1 0) (f9_at 20 (A0 0) l3) (f9_clamp ((f9_at 16 (A1 0) (f9_at 20 (A0 0) l3)) - (f9_at 20 (A0 2) l3)) 0 99)) fun z_4 =>
      letv (updA A1 0 z_4) fun A1_5 =>
      k2 A1_5 A2 (l3 + 1)
    else
    if (f9_at 20 (A0 1) l3) = 61 then
      letv (f9_put 16 (A1 1) (f9_at 20 (A0 0) l3) (f9_at 20 (A0 2) l3)) fun z_6 =>
      letv (updA A1 1 z_6) fun A1_7 =>
      k2 A1_7 A2 (l3 + 1)
    else
    letv (f1_part f2 A2 (f9_at 20 (A0 0) l3) (f9_at 20 (A0 2) l3)) fun z_8 =>
    k2 A1 z_8 (l3 + 1)
noncomputable def f3_grant_l2 (f0 : Nat → Int32) (A0 : Nat → Nat → Int32) (f1 : Nat → Int32) (f2 : Nat → Int32) : Nat → (Nat → Nat → Int32) → (Nat → Nat → Int32) → Int32 → Option ((Nat → Nat → Int32) × (Nat → Nat → Int32))
  | 0 => fun _ _ _ => none
  | n + 1 => fun A1 A2 l3 => f3_grant_b2 f0 A0 f1 f2  (f3_grant_l2 f0 A0 f1 f2  n) A1 A2 l3
noncomputable def f3_grant (f0 : Nat → Int32) (A0 : Nat → Nat → Int32) (f1 : Nat → Int32) (A1 : Nat → Nat → Int32) (f2 : Nat → Int32) (A2 : Nat → Nat → Int32) : Option ((Nat → Nat → Int32) × (Nat → Nat → Int32)) :=
  f3_grant_l2 f0 A0 f1 f2 NF A1 A2 0
noncomputable def f4_freeWatches_b5 (n0 : Nat) (xs0 : Nat → Int32) (p1 : Int32) (p2 : Int32) (k5 : Int32 → Int32 → Option (Int32)) (l3 : Int32) (l4 : Int32) : Option (Int32) :=
  if p2 ≤ l4 then
    some l3
  else
    if ((f9_at n0 xs0 l4) &&& p1) = 0 then
      k5 (l3 + 1) (l4 + 1)
    else
      k5 l3 (l4 + 1)
noncomputable def f4_freeWatches_l5 (n0 : Nat) (xs0 : Nat → Int32) (p1 : Int32) (p2 : Int32) : Nat → Int32 → Int32 → Option (Int32)
  | 0 => fun _ _ => none
  | n + 1 => fun l3 l4 => f4_freeWatches_b5 n0 xs0 p1 p2  (f4_freeWatches_l5 n0 xs0 p1 p2  n) l3 l4
noncomputable def f4_freeWatches (n0 : Nat) (xs0 : Nat → Int32) (p1 : Int32) (p2 : Int32) : Option (Int32) :=
  f4_freeWatches_l5 n0 xs0 p1 p2 NF 0 0
noncomputable def f4_tightest_b13 (n0 : Nat) (xs0 : Nat → Int32) (n1 : Nat) (xs1 : Nat → Int32) (p2 : Int32) (p3 : Int32) (k13 : Int32 → Int32 → Int32 → Option (Int32)) (l4 : Int32) (l5 : Int32) (l6 : Int32) : Option (Int32) :=
  if 16 ≤ l6 then
    some l4
  else
    if (f9_has p2 l6) = 0 then
      k13 l4 l5 (l6 + 1)
    else
      (f4_freeWatches n0 xs0 (f9_at n1 xs1 l6) p3).bind fun q_2 =>
      if l5 ≤ q_2 then
        k13 l4 l5 (l6 + 1)
      else
        k13 l6 q_2 (l6 + 1)
noncomputable def f4_tightest_l13 (n0 : Nat) (xs0 : Nat → Int32) (n1 : Nat) (xs1 : Nat → Int32) (p2 : Int32) (p3 : Int32) : Nat → Int32 → Int32 → Int32 → Option (Int32)
  | 0 => fun _ _ _ => none
  | n + 1 => fun l4 l5 l6 => f4_tightest_b13 n0 xs0 n1 xs1 p2 p3  (f4_tightest_l13 n0 xs0 n1 xs1 p2 p3  n) l4 l5 l6
noncomputable def f4_tightest (n0 : Nat) (xs0 : Nat → Int32) (n1 : Nat) (xs1 : Nat → Int32) (p2 : Int32) (p3 : Int32) : Option (Int32) :=
  (f9_lowestOf p2).bind fun q_1 =>
  f4_tightest_l13 n0 xs0 n1 xs1 p2 p3 NF q_1 17 0
noncomputable def f4_canFill_b18 (rec : Nat → (Nat → Int32) → Nat → (Nat → Int32) → Int32 → Int32 → Option (Int32 × (Nat → Int32))) (n0 : Nat) (n1 : Nat) (xs1 : Nat → Int32) (p2 : Int32) (p3 : Int32) (k18 : (Nat → Int32) → Int32 → Int32 → Option (Int32 × (Nat → Int32))) (xs0 : Nat → Int32) (l4 : Int32) (l5 : Int32) : Option (Int32 × (Nat → Int32)) :=
  if p3 ≤ l5 then
    some (0, xs0)
  else
    if ((f9_at n0 xs0 l5) &&& (f9_at n1 xs1 l4)) = 0 then
      letv (f9_put n0 xs0 l5 ((f9_at n0 xs0 l5) ||| (shl 1 l4))) fun z_2 =>
      letv z_2 fun y0_3 =>
      (rec n0 y0_3 n1 xs1 (p2 &&& ((shl 1 l4) ^^^ (-1))) p3).bind fun q_4 =>
      letv q_4.2 fun y0_5 =>
      letv (f9_put n0 y0_5 l5 (f9_at n0 xs0 l5)) fun z_6 =>
      letv z_6 fun y0_7 =>
      if q_4.1 = 0 then
        if (f9_at n0 xs0 l5) = 0 then
          if ¬ (q_4.1 = 0 ∨ q_4.1 = 1) then none else
          some (q_4.1, y0_7)
        else
          k18 y0_7 l4 (l5 + 1)
      else
        if ¬ (q_4.1 = 0 ∨ q_4.1 = 1) then none else
        some (q_4.1, y0_7)
    else
      k18 xs0 l4 (l5 + 1)
noncomputable def f4_canFill_l18 (rec : Nat → (Nat → Int32) → Nat → (Nat → Int32) → Int32 → Int32 → Option (Int32 × (Nat → Int32))) (n0 : Nat) (n1 : Nat) (xs1 : Nat → Int32) (p2 : Int32) (p3 : Int32) : Nat → (Nat → Int32) → Int32 → Int32 → Option (Int32 × (Nat → Int32))
  | 0 => fun _ _ _ => none
  | n + 1 => fun xs0 l4 l5 => f4_canFill_b18 rec n0 n1 xs1 p2 p3  (f4_canFill_l18 rec n0 n1 xs1 p2 p3  n) xs0 l4 l5
noncomputable def f4_canFill (rec : Nat → (Nat → Int32) → Nat → (Nat → Int32) → Int32 → Int32 → Option (Int32 × (Nat → Int32))) (n0 : Nat) (xs0 : Nat → Int32) (n1 : Nat) (xs1 : Nat → Int32) (p2 : Int32) (p3 : Int32) : Option (Int32 × (Nat → Int32)) :=
  if p2 = 0 then
    some (1, xs0)
  else
    (f4_tightest n0 xs0 n1 xs1 p2 p3).bind fun q_1 =>
    f4_canFill_l18 rec n0 n1 xs1 p2 p3 NF xs0 q_1 0
noncomputable def f4_canFill_rec : Nat → Nat → (Nat → Int32) → Nat → (Nat → Int32) → Int32 → Int32 → Option (Int32 × (Nat → Int32))
  | 0 => fun _ _ _ _ _ _ => none
  | d + 1 => fun x0 x1 x2 x3 x4 x5 => f4_canFill (f4_canFill_rec d) x0 x1 x2 x3 x4 x5
noncomputable def f4_fewest_b26 (f0 : Nat → Int32) (f1 : Nat → Int32) (A1 : Nat → Nat → Int32) (k26 : (Nat → Nat → Int32) → Int32 → Option (Int32 × (Nat → Nat → Int32))) (A0 : Nat → Nat → Int32) (l2 : Int32) : Option (Int32 × (Nat → Nat → Int32)) :=
  if 16 ≤ l2 then
    some (l2, A0)
  else
    (f4_canFill_rec 64 16 (A0 0) 16 (A1 1) (f1 0) l2).bind fun q_1 =>
    letv (updA A0 0 q_1.2) fun A0_2 =>
    if q_1.1 = 0 then
      k26 A0_2 (l2 + 1)
    else
      some (l2, A0_2)
noncomputable def f4_fewest_l26 (f0 : Nat → Int32) (f1 : Nat → Int32) (A1 : Nat → Nat → Int32) : Nat → (Nat → Nat → Int32) → Int32 → Option (Int32 × (Nat → Nat → Int32))
  | 0 => fun _ _ => none
  | n + 1 => fun A0 l2 => f4_fewest_b26 f0 f1 A1  (f4_fewest_l26 f0 f1 A1  n) A0 l2
noncomputable def f4_fewest_b2 (f0 : Nat → Int32) (f1 : Nat → Int32) (A1 : Nat → Nat → Int32) (k2 : (Nat → Nat → Int32) → Int32 → Option (Int32 × (Nat → Nat → Int32))) (A0 : Nat → Nat → Int32) (l2 : Int32) : Option (Int32 × (Nat → Nat → Int32)) :=
  if 16 ≤ l2 then
    f4_fewest_l26 f0 f1 A1 NF A0 0
  else
    if l2 < 0 ∨ 16 ≤ (l2).toNatClampNeg then none else
    letv (updA A0 0 (ux (A0 0) l2 0)) fun A0_4 =>
    k2 A0_4 (l2 + 1)
noncomputable def f4_fewest_l2 (f0 : Nat → Int32) (f1 : Nat → Int32) (A1 : Nat → Nat → Int32) : Nat → (Nat → Nat → Int32) → Int32 → Option (Int32 × (Nat → Nat → Int32))
  | 0 => fun _ _ => none
  | n + 1 => fun A0 l2 => f4_fewest_b2 f0 f1 A1  (f4_fewest_l2 f0 f1 A1  n) A0 l2
noncomputable def f4_fewest (f0 : Nat → Int32) (A0 : Nat → Nat → Int32) (f1 : Nat → Int32) (A1 : Nat → Nat → Int32) : Option (Int32 × (Nat → Nat → Int32)) :=
  f4_fewest_l2 f0 f1 A1 NF A0 0
noncomputable def f4_leastWatch_b3 (f0 : Nat → Int32) (n1 : Nat) (xs1 : Nat → Int32) (p1 : Int32) (p2 : Int32) (p3 : Int32) (k3 : (Nat → Nat → Int32) → Int32 → Option (Int32 × (Nat → Nat → Int32))) (A0 : Nat → Nat → Int32) (l5 : Int32) : Option (Int32 × (Nat → Nat → Int32)) :=
  if p3 ≤ l5 then
    some ((-1), A0)
  else
    if ((f9_at 16 (A0 0) l5) &&& (f9_at n1 xs1 p1)) = 0 then
      letv (f9_put 16 (A0 0) l5 ((f9_at 16 (A0 0) l5) ||| (shl 1 p1))) fun z_1 =>
      letv (updA A0 0 z_1) fun A0_2 =>
      (f4_canFill_rec 64 16 (A0_2 0) n1 xs1 p2 p3).bind fun q_3 =>
      letv (updA A0_2 0 q_3.2) fun A0_4 =>
      letv (f9_put 16 (A0_4 0) l5 (f9_at 16 (A0 0) l5)) fun z_5 =>
      letv (updA A0_4 0 z_5) fun A0_6 =>
      if q_3.1 = 0 then
        k3 A0_6 (l5 + 1)
      else
        some (l5, A0_6)
    else
      k3 A0 (l5 + 1)
noncomputable def f4_leastWatch_l3 (f0 : Nat → Int32) (n1 : Nat) (xs1 : Nat → Int32) (p1 : Int32) (p2 : Int32) (p3 : Int32) : Nat → (Nat → Nat → Int32) → Int32 → Option (Int32 × (Nat → Nat → Int32))
  | 0 => fun _ _ => none
  | n + 1 => fun A0 l5 => f4_leastWatch_b3 f0 n1 xs1 p1 p2 p3  (f4_leastWatch_l3 f0 n1 xs1 p1 p2 p3  n) A0 l5
noncomputable def f4_leastWatch (f0 : Nat → Int32) (A0 : Nat → Nat → Int32) (n1 : Nat) (xs1 : Nat → Int32) (p1 : Int32) (p2 : Int32) (p3 : Int32) : Option (Int32 × (Nat → Nat → Int32)) :=
  f4_leastWatch_l3 f0 n1 xs1 p1 p2 p3 NF A0 0
noncomputable def f4_watchOf_b12 (f0 : Nat → Int32) (f1 : Nat → Int32) (A1 : Nat → Nat → Int32) (p1 : Int32) (p2 : Int32) (k12 : (Nat → Nat → Int32) → Int32 → Int32 → Int32 → Option (Int32 × (Nat → Nat → Int32))) (A0 : Nat → Nat → Int32) (l4 : Int32) (l5 : Int32) (l6 : Int32) : Option (Int32 × (Nat → Nat → Int32)) :=
  if p1 < l6 then
    some (l5, A0)
  else
    if 16 ≤ l6 then
      some (l5, A0)
    else
      if (f9_has l4 l6) = 0 then
        k12 A0 l4 l5 (l6 + 1)
      else
        (f4_leastWatch f0 A0 16 (A1 1) l6 (l4 &&& ((shl 1 l6) ^^^ (-1))) p2).bind fun q_1 =>
        letv (f9_put 16 (q_1.2 0) q_1.1 ((f9_at 16 (q_1.2 0) q_1.1) ||| (shl 1 l6))) fun z_2 =>
        letv (updA q_1.2 0 z_2) fun A0_3 =>
        k12 A0_3 (l4 &&& ((shl 1 l6) ^^^ (-1))) q_1.1 (l6 + 1)
noncomputable def f4_watchOf_l12 (f0 : Nat → Int32) (f1 : Nat → Int32) (A1 : Nat → Nat → Int32) (p1 : Int32) (p2 : Int32) : Nat → (Nat → Nat → Int32) → Int32 → Int32 → Int32 → Option (Int32 × (Nat → Nat → Int32))
  | 0 => fun _ _ _ _ => none
  | n + 1 => fun A0 l4 l5 l6 => f4_watchOf_b12 f0 f1 A1 p1 p2  (f4_watchOf_l12 f0 f1 A1 p1 p2  n) A0 l4 l5 l6
noncomputable def f4_watchOf (f0 : Nat → Int32) (A0 : Nat → Nat → Int32) (f1 : Nat → Int32) (A1 : Nat → Nat → Int32) (p1 : Int32) (p2 : Int32) : Option (Int32 × (Nat → Nat → Int32)) :=
  f4_watchOf_l12 f0 f1 A1 p1 p2 NF A0 (f1 0) (-1) 0
noncomputable def f6_isTold (f0 : Nat → Int32) (A0 : Nat → Nat → Int32) (p1 : Int32) : Int32 :=
  if (f9_within p1 0 7) = 0 then
    0
  else
    if (f9_has (f0 5) p1) = 0 then
      0
    else
      1
theorem f6_isTold_b (f0 : Nat → Int32) (A0 : Nat → Nat → Int32) (p1 : Int32) : f6_isTold f0 A0 p1 = 0 ∨ f6_isTold f0 A0 p1 = 1 := by
  unfold f6_isTold
  try simp only [letv]
  repeat' split
  all_goals first | exact Or.inl rfl | exact Or.inr rfl | (simp; done)
noncomputable def f5_walk_b2 (f0 : Nat → Int32) (f1 : Nat → Int32) (A1 : Nat → Nat → Int32) (fB2 : Nat → Nat → Int32) (AB2 : Nat → Nat → Nat → Int32) (k2 : (Nat → Nat → Int32) → Int32 → Option ((Nat → Nat → Int32))) (A0 : Nat → Nat → Int32) (l3 : Int32) : Option ((Nat → Nat → Int32)) :=
  if 8 ≤ l3 then
    some A0
  else
    if l3 < 0 ∨ 8 ≤ (l3).toNatClampNeg then none else
    letv (l3).toNatClampNeg fun b_2 =>
    if (f6_isTold f0 A0 l3) = 0 then
      k2 A0 (l3 + 1)
    else
      (f0_stepAt (fB2 b_2) (AB2 b_2) (f0 8)).bind fun q_4 =>
      if (f1_isTold f1 A1 q_4) = 0 then
        k2 A0 (l3 + 1)
      else
        if (f9_has (f9_at 16 (A1 1) (f9_at 8 (A0 3) l3)) q_4) = 0 then
          k2 A0 (l3 + 1)
        else
          letv (f9_put 8 (A0 3) l3 q_4) fun z_5 =>
          letv (updA A0 3 z_5) fun A0_6 =>
          k2 A0_6 (l3 + 1)
noncomputable def f5_walk_l2 (f0 : Nat → Int32) (f1 : Nat → Int32) (A1 : Nat → Nat → Int32) (fB2 : Nat → Nat → Int32) (AB2 : Nat → Nat → Nat → Int32) : Nat → (Nat → Nat → Int32) → Int32 → Option ((Nat → Nat → Int32))
  | 0 => fun _ _ => none
  | n + 1 => fun A0 l3 => f5_walk_b2 f0 f1 A1 fB2 AB2  (f5_walk_l2 f0 f1 A1 fB2 AB2  n) A0 l3
noncomputable def f5_walk (f0 : Nat → Int32) (A0 : Nat → Nat → Int32) (f1 : Nat → Int32) (A1 : Nat → Nat → Int32) (fB2 : Nat → Nat → Int32) (AB2 : Nat → Nat → Nat → Int32) : Option ((Nat → Nat → Int32)) :=
  f5_walk_l2 f0 f1 A1 fB2 AB2 NF A0 0
noncomputable def f5_lookAround_b78 (f0 : Nat → Int32) (f1 : Nat → Int32) (f2 : Nat → Int32) (A2 : Nat → Nat → Int32) (k78 : (Nat → Nat → Int32) → (Nat → Nat → Int32) → Int32 → Option ((Nat → Nat → Int32) × (Nat → Nat → Int32))) (A0 : Nat → Nat → Int32) (A1 : Nat → Nat → Int32) (l3 : Int32) : Option ((Nat → Nat → Int32) × (Nat → Nat → Int32)) :=
  if 16 ≤ l3 then
    some (A0, A1)
  else
    if (f1_isTold f2 A2 l3) = 0 then
      k78 A0 A1 (l3 + 1)
    else
      if (f9_at 16 (A0 0) l3) ≤ 0 then
        letv (f9_put 16 (A1 2) l3 (imin ((f9_at 16 (A1 2) l3) + 1) 99)) fun z_1 =>
        letv (updA A1 2 z_1) fun A1_2 =>
        k78 A0 A1_2 (l3 + 1)
      else
        letv (f9_put 16 (A1 2) l3 0) fun z_3 =>
        letv (updA A1 2 z_3) fun A1_4 =>
        k78 A0 A1_4 (l3 + 1)
noncomputable def f5_lookAround_l78 (f0 : Nat → Int32) (f1 : Nat → Int32) (f2 : Nat → Int32) (A2 : Nat → Nat → Int32) : Nat → (Nat → Nat → Int32) → (Nat → Nat → Int32) → Int32 → Option ((Nat → Nat → Int32) × (Nat → Nat → Int32))
  | 0 => fun _ _ _ => none
  | n + 1 => fun A0 A1 l3 => f5_lookAround_b78 f0 f1 f2 A2  (f5_lookAround_l78 f0 f1 f2 A2  n) A0 A1 l3
noncomputable def f5_lookAround_b26 (f0 : Nat → Int32) (f1 : Nat → Int32) (f2 : Nat → Int32) (A2 : Nat → Nat → Int32) (k26 : (Nat → Nat → Int32) → (Nat → Nat → Int32) → Int32 → Option ((Nat → Nat → Int32) × (Nat → Nat → Int32))) (A0 : Nat → Nat → Int32) (A1 : Nat → Nat → Int32) (l3 : Int32) : Option ((Nat → Nat → Int32) × (Nat → Nat → Int32)) :=
  if 8 ≤ l3 then
    f5_lookAround_l78 f0 f1 f2 A2 NF A0 A1 0
  else
    if (f6_isTold f1 A1 l3) = 0 then
      k26 A0 A1 (l3 + 1)
    else
      letv (f9_put 16 (A0 0) (f9_at 8 (A1 3) l3) ((f9_at 16 (A0 0) (f9_at 8 (A1 3) l3)) + 1)) fun z_5 =>
      letv (updA A0 0 z_5) fun A0_6 =>
      k26 A0_6 A1 (l3 + 1)
noncomputable def f5_lookAround_l26 (f0 : Nat → Int32) (f1 : Nat → Int32) (f2 : Nat → Int32) (A2 : Nat → Nat → Int32) : Nat → (Nat → Nat → Int32) → (Nat → Nat → Int32) → Int32 → Option ((Nat → Nat → Int32) × (Nat → Nat → Int32))
  | 0 => fun _ _ _ => none
  | n + 1 => fun A0 A1 l3 => f5_lookAround_b26 f0 f1 f2 A2  (f5_lookAround_l26 f0 f1 f2 A2  n) A0 A1 l3
noncomputable def f5_lookAround_b2 (f0 : Nat → Int32) (f1 : Nat → Int32) (f2 : Nat → Int32) (A2 : Nat → Nat → Int32) (k2 : (Nat → Nat → Int32) → (Nat → Nat → Int32) → Int32 → Option ((Nat → Nat → Int32) × (Nat → Nat → Int32))) (A0 : Nat → Nat → Int32) (A1 : Nat → Nat → Int32) (l3 : Int32) : Option ((Nat → Nat → Int32) × (Nat → Nat → Int32)) :=
  if 16 ≤ l3 then
    f5_lookAround_l26 f0 f1 f2 A2 NF A0 A1 0
  else
    if l3 < 0 ∨ 16 ≤ (l3).toNatClampNeg then none else
    letv (updA A0 0 (ux (A0 0) l3 0)) fun A0_8 =>
    k2 A0_8 A1 (l3 + 1)
noncomputable def f5_lookAround_l2 (f0 : Nat → Int32) (f1 : Nat → Int32) (f2 : Nat → Int32) (A2 : Nat → Nat → Int32) : Nat → (Nat → Nat → Int32) → (Nat → Nat → Int32) → Int32 → Option ((Nat → Nat → Int32) × (Nat → Nat → Int32))
  | 0 => fun _ _ _ => none
  | n + 1 => fun A0 A1 l3 => f5_lookAround_b2 f0 f1 f2 A2  (f5_lookAround_l2 f0 f1 f2 A2  n) A0 A1 l3
noncomputable def f5_lookAround (f0 : Nat → Int32) (A0 : Nat → Nat → Int32) (f1 : Nat → Int32) (A1 : Nat → Nat → Int32) (f2 : Nat → Int32) (A2 : Nat → Nat → Int32) : Option ((Nat → Nat → Int32) × (Nat → Nat → Int32)) :=
  f5_lookAround_l2 f0 f1 f2 A2 NF A0 A1 0
noncomputable def f9_sumOf_b4 (n0 : Nat) (xs0 : Nat → Int32) (p1 : Int32) (k4 : Int32 → Int32 → Option (Int32)) (l2 : Int32) (l3 : Int32) : Option (Int32) :=
  if (nI n0) ≤ l3 then
    some l2
  else
    if (f9_has p1 l3) = 0 then
      k4 l2 (l3 + 1)
    else
      if l3 < 0 ∨ n0 ≤ (l3).toNatClampNeg then none else
      k4 (l2 + (gx xs0 l3)) (l3 + 1)
noncomputable def f9_sumOf_l4 (n0 : Nat) (xs0 : Nat → Int32) (p1 : Int32) : Nat → Int32 → Int32 → Option (Int32)
  | 0 => fun _ _ => none
  | n + 1 => fun l2 l3 => f9_sumOf_b4 n0 xs0 p1  (f9_sumOf_l4 n0 xs0 p1  n) l2 l3
noncomputable def f9_sumOf (n0 : Nat) (xs0 : Nat → Int32) (p1 : Int32) : Option (Int32) :=
  f9_sumOf_l4 n0 xs0 p1 NF 0 0
noncomputable def f5_know (f0 : Nat → Int32) (A0 : Nat → Nat → Int32) (f1 : Nat → Int32) (A1 : Nat → Nat → Int32) (p2 : Int32) (p3 : Int32) : Option ((Nat → Nat → Int32)) :=
  letv (f9_put 8 (A0 1) 0 p2) fun z_1 =>
  letv (updA A0 1 z_1) fun A0_2 =>
  letv (f9_put 8 (A0_2 1) 1 (f9_at 16 (A1 0) p2)) fun z_3 =>
  letv (updA A0_2 1 z_3) fun A0_4 =>
  letv (f9_put 8 (A0_4 1) 2 (f9_at 16 (A1 1) p2)) fun z_5 =>
  letv (updA A0_4 1 z_5) fun A0_6 =>
  letv (f9_put 8 (A0_6 1) 3 (f9_at 16 (A0_6 0) p2)) fun z_7 =>
  letv (updA A0_6 1 z_7) fun A0_8 =>
  (f9_sumOf 16 (A0_8 0) p3).bind fun q_9 =>
  letv (f9_put 8 (A0_8 1) 4 q_9) fun z_10 =>
  letv (updA A0_8 1 z_10) fun A0_11 =>
  letv (f9_put 8 (A0_11 1) 5 (f9_at 16 (A1 2) p2)) fun z_12 =>
  letv (updA A0_11 1 z_12) fun A0_13 =>
  letv (f9_put 8 (A0_13 1) 6 (irm (f1 8) 24)) fun z_14 =>
  letv (updA A0_13 1 z_14) fun A0_15 =>
  letv (f9_put 8 (A0_15 1) 7 (f1 7)) fun z_16 =>
  letv (updA A0_15 1 z_16) fun A0_17 =>
  some A0_17
noncomputable def f6_draw (f0 : Nat → Int32) (A0 : Nat → Nat → Int32) : Option (Int32 × (Nat → Int32)) :=
  letv (upd f0 9 (((25173 * (f0 9)) + 13849) &&& 65535)) fun f0_1 =>
  some (irm (f0_1 9) 10, f0_1)
noncomputable def f5_pay_b3 (A0 : Nat → Nat → Int32) (f1 : Nat → Int32) (p2 : Int32) (p3 : Int32) (k3 : (Nat → Int32) → (Nat → Nat → Int32) → Int32 → Option ((Nat → Int32) × (Nat → Nat → Int32))) (f0 : Nat → Int32) (A1 : Nat → Nat → Int32) (l4 : Int32) : Option ((Nat → Int32) × (Nat → Nat → Int32)) :=
  if 8 ≤ l4 then
    some (f0, A1)
  else
    if (f6_isTold f1 A1 l4) = 0 then
      k3 f0 A1 (l4 + 1)
    else
      if (f9_at 8 (A1 3) l4) = p2 then
        letv (f9_put 8 (A1 4) l4 (imin ((f9_at 8 (A1 4) l4) + p3) 999999)) fun z_1 =>
        letv (updA A1 4 z_1) fun A1_2 =>
        letv (upd f0 3 ((f0 3) + p3)) fun f0_3 =>
        k3 f0_3 A1_2 (l4 + 1)
      else
        k3 f0 A1 (l4 + 1)
noncomputable def f5_pay_l3 (A0 : Nat → Nat → Int32) (f1 : Nat → Int32) (p2 : Int32) (p3 : Int32) : Nat → (Nat → Int32) → (Nat → Nat → Int32) → Int32 → Option ((Nat → Int32) × (Nat → Nat → Int32))
  | 0 => fun _ _ _ => none
  | n + 1 => fun f0 A1 l4 => f5_pay_b3 A0 f1 p2 p3  (f5_pay_l3 A0 f1 p2 p3  n) f0 A1 l4
noncomputable def f5_pay (f0 : Nat → Int32) (A0 : Nat → Nat → Int32) (f1 : Nat → Int32) (A1 : Nat → Nat → Int32) (p2 : Int32) (p3 : Int32) : Option ((Nat → Int32) × (Nat → Nat → Int32)) :=
  f5_pay_l3 A0 f1 p2 p3 NF f0 A1 0
noncomputable def f5_tempt_b40 (A0 : Nat → Nat → Int32) (p3 : Int32) (f0 : Nat → Int32) (A1 : Nat → Nat → Int32) (f1 : Nat → Int32) (A2 : Nat → Nat → Int32) (f2 : Nat → Int32) (s0 : Int32) : Option ((Nat → Int32) × (Nat → Nat → Int32) × (Nat → Int32) × (Nat → Nat → Int32) × (Nat → Int32)) :=
  if (f9_at 16 (A0 0) p3) ≤ 0 then
    if s0 = 0 then
      some (f0, A1, f1, A2, f2)
    else
      letv (upd f0 2 ((f0 2) + 1)) fun f0_4 =>
      letv (upd f1 7 (imin ((f1 7) + 1) 9999)) fun f1_5 =>
      letv (upd f1_5 6 (imin ((f1_5 6) + (f9_at 16 (A1 1) p3)) 999999)) fun f1_6 =>
      some (f0_4, A1, f1_6, A2, f2)
  else
    (f2_rate f2 A2 8 (A0 1) 119 99).bind fun q_7 =>
    (f5_pay f0 A0 f1 A1 p3 q_7.1).bind fun q_8 =>
    some (q_8.1, q_8.2, f1, q_7.2.1, q_7.2.2)
noncomputable def f5_tempt (f0 : Nat → Int32) (A0 : Nat → Nat → Int32) (f1 : Nat → Int32) (A1 : Nat → Nat → Int32) (f2 : Nat → Int32) (A2 : Nat → Nat → Int32) (p3 : Int32) : Option ((Nat → Int32) × (Nat → Nat → Int32) × (Nat → Int32) × (Nat → Nat → Int32) × (Nat → Int32)) :=
  (f2_isSafe f2 A2 8 (A0 1)).bind fun q_1 =>
  if q_1.1 = 0 then
    (f2_rate q_1.2.2 q_1.2.1 8 (A0 1) 114 10).bind fun q_2 =>
    (f6_draw f1 A1).bind fun q_3 =>
    if q_2.1 ≤ q_3.1 then
      f5_tempt_b40 A0 p3 f0 A1 q_3.2 q_2.2.1 q_2.2.2 0
    else
      f5_tempt_b40 A0 p3 f0 A1 q_3.2 q_2.2.1 q_2.2.2 1
  else
    some (f0, A1, f1, q_1.2.1, q_1.2.2)
noncomputable def f5_passes_b38 (f3 : Nat → Int32) (A3 : Nat → Nat → Int32) (fB4 : Nat → Nat → Int32) (AB4 : Nat → Nat → Nat → Int32) (k38 : (Nat → Nat → Int32) → (Nat → Int32) → (Nat → Nat → Int32) → (Nat → Int32) → (Nat → Nat → Int32) → (Nat → Int32) → Int32 → Option (Int32 × (Nat → Nat → Int32) × (Nat → Int32) × (Nat → Nat → Int32) × (Nat → Int32) × (Nat → Nat → Int32) × (Nat → Int32))) (A0 : Nat → Nat → Int32) (f0 : Nat → Int32) (A1 : Nat → Nat → Int32) (f1 : Nat → Int32) (A2 : Nat → Nat → Int32) (f2 : Nat → Int32) (l5 : Int32) : Option (Int32 × (Nat → Nat → Int32) × (Nat → Int32) × (Nat → Nat → Int32) × (Nat → Int32) × (Nat → Nat → Int32) × (Nat → Int32)) :=
  if 16 ≤ l5 then
    letv (upd f1 8 ((f1 8) + 1)) fun f1_5 =>
    some (1, A0, f0, A1, f1_5, A2, f2)
  else
    if (f1_isTold f3 A3 l5) = 0 then
      k38 A0 f0 A1 f1 A2 f2 (l5 + 1)
    else
      (f5_know f0 A0 f1 A1 l5 (f9_at 16 (A3 1) l5)).bind fun q_6 =>
      (f5_tempt f0 q_6 f1 A1 f2 A2 l5).bind fun q_7 =>
      k38 q_6 q_7.1 q_7.2.1 q_7.2.2.1 q_7.2.2.2.1 q_7.2.2.2.2 (l5 + 1)
noncomputable def f5_passes_l38 (f3 : Nat → Int32) (A3 : Nat → Nat → Int32) (fB4 : Nat → Nat → Int32) (AB4 : Nat → Nat → Nat → Int32) : Nat → (Nat → Nat → Int32) → (Nat → Int32) → (Nat → Nat → Int32) → (Nat → Int32) → (Nat → Nat → Int32) → (Nat → Int32) → Int32 → Option (Int32 × (Nat → Nat → Int32) × (Nat → Int32) × (Nat → Nat → Int32) × (Nat → Int32) × (Nat → Nat → Int32) × (Nat → Int32))
  | 0 => fun _ _ _ _ _ _ _ => none
  | n + 1 => fun A0 f0 A1 f1 A2 f2 l5 => f5_passes_b38 f3 A3 fB4 AB4  (f5_passes_l38 f3 A3 fB4 AB4  n) A0 f0 A1 f1 A2 f2 l5
noncomputable def f5_passes (f0 : Nat → Int32) (A0 : Nat → Nat → Int32) (f1 : Nat → Int32) (A1 : Nat → Nat → Int32) (f2 : Nat → Int32) (A2 : Nat → Nat → Int32) (f3 : Nat → Int32) (A3 : Nat → Nat → Int32) (fB4 : Nat → Nat → Int32) (AB4 : Nat → Nat → Nat → Int32) : Option (Int32 × (Nat → Nat → Int32) × (Nat → Int32) × (Nat → Nat → Int32) × (Nat → Int32) × (Nat → Nat → Int32) × (Nat → Int32)) :=
  letv (upd f0 2 0) fun f0_1 =>
  letv (upd f0_1 3 0) fun f0_2 =>
  if (f1 8) < 9999 then
    (f5_walk f1 A1 f3 A3 fB4 AB4).bind fun q_3 =>
    (f5_lookAround f0_2 A0 f1 q_3 f3 A3).bind fun q_4 =>
    f5_passes_l38 f3 A3 fB4 AB4 NF q_4.1 f0_2 q_4.2 f1 A2 f2 0
  else
    some (0, A0, f0_2, A1, f1, A2, f2)
noncomputable def f6_copy_b64 (f1 : Nat → Int32) (A1 : Nat → Nat → Int32) (k64 : (Nat → Nat → Int32) → (Nat → Int32) → Int32 → Option ((Nat → Nat → Int32) × (Nat → Int32))) (A0 : Nat → Nat → Int32) (f0 : Nat → Int32) (l2 : Int32) : Option ((Nat → Nat → Int32) × (Nat → Int32)) :=
  if 8 ≤ l2 then
    letv (upd f0 5 (f1 5)) fun f0_1 =>
    letv (upd f0_1 6 (f1 6)) fun f0_2 =>
    letv (upd f0_2 7 (f1 7)) fun f0_3 =>
    letv (upd f0_3 8 (f1 8)) fun f0_4 =>
    letv (upd f0_4 9 (f1 9)) fun f0_5 =>
    some (A0, f0_5)
  else
    letv (f9_put 8 (A0 3) l2 (f9_at 8 (A1 3) l2)) fun z_6 =>
    letv (updA A0 3 z_6) fun A0_7 =>
    letv (f9_put 8 (A0_7 4) l2 (f9_at 8 (A1 4) l2)) fun z_8 =>
    letv (updA A0_7 4 z_8) fun A0_9 =>
    k64 A0_9 f0 (l2 + 1)
noncomputable def f6_copy_l64 (f1 : Nat → Int32) (A1 : Nat → Nat → Int32) : Nat → (Nat → Nat → Int32) → (Nat → Int32) → Int32 → Option ((Nat → Nat → Int32) × (Nat → Int32))
  | 0 => fun _ _ _ => none
  | n + 1 => fun A0 f0 l2 => f6_copy_b64 f1 A1  (f6_copy_l64 f1 A1  n) A0 f0 l2
noncomputable def f6_copy_b2 (f1 : Nat → Int32) (A1 : Nat → Nat → Int32) (k2 : (Nat → Nat → Int32) → (Nat → Int32) → Int32 → Option ((Nat → Nat → Int32) × (Nat → Int32))) (A0 : Nat → Nat → Int32) (f0 : Nat → Int32) (l2 : Int32) : Option ((Nat → Nat → Int32) × (Nat → Int32)) :=
  if 16 ≤ l2 then
    f6_copy_l64 f1 A1 NF A0 f0 0
  else
    letv (f9_put 16 (A0 0) l2 (f9_at 16 (A1 0) l2)) fun z_10 =>
    letv (updA A0 0 z_10) fun A0_11 =>
    letv (f9_put 16 (A0_11 1) l2 (f9_at 16 (A1 1) l2)) fun z_12 =>
    letv (updA A0_11 1 z_12) fun A0_13 =>
    letv (f9_put 16 (A0_13 2) l2 (f9_at 16 (A1 2) l2)) fun z_14 =>
    letv (updA A0_13 2 z_14) fun A0_15 =>
    k2 A0_15 f0 (l2 + 1)
noncomputable def f6_copy_l2 (f1 : Nat → Int32) (A1 : Nat → Nat → Int32) : Nat → (Nat → Nat → Int32) → (Nat → Int32) → Int32 → Option ((Nat → Nat → Int32) × (Nat → Int32))
  | 0 => fun _ _ _ => none
  | n + 1 => fun A0 f0 l2 => f6_copy_b2 f1 A1  (f6_copy_l2 f1 A1  n) A0 f0 l2
noncomputable def f6_copy (f0 : Nat → Int32) (A0 : Nat → Nat → Int32) (f1 : Nat → Int32) (A1 : Nat → Nat → Int32) : Option ((Nat → Nat → Int32) × (Nat → Int32)) :=
  f6_copy_l2 f1 A1 NF A0 f0 0
noncomputable def f6_standAt_b4 (f0 : Nat → Int32) (A0 : Nat → Nat → Int32) (p1 : Int32) (k4 : Int32 → Int32 → Option (Int32)) (l2 : Int32) (l3 : Int32) : Option (Int32) :=
  if 8 ≤ l3 then
    some l2
  else
    if (f6_isTold f0 A0 l3) = 0 then
      k4 l2 (l3 + 1)
    else
      if (f9_at 8 (A0 3) l3) = p1 then
        k4 (l2 ||| (shl 1 l3)) (l3 + 1)
      else
        k4 l2 (l3 + 1)
noncomputable def f6_standAt_l4 (f0 : Nat → Int32) (A0 : Nat → Nat → Int32) (p1 : Int32) : Nat → Int32 → Int32 → Option (Int32)
  | 0 => fun _ _ => none
  | n + 1 => fun l2 l3 => f6_standAt_b4 f0 A0 p1  (f6_standAt_l4 f0 A0 p1  n) l2 l3
noncomputable def f6_standAt (f0 : Nat → Int32) (A0 : Nat → Nat → Int32) (p1 : Int32) : Option (Int32) :=
  f6_standAt_l4 f0 A0 p1 NF 0 0
noncomputable def f6_stoodAt_b4 (f0 : Nat → Int32) (A0 : Nat → Nat → Int32) (k4 : Int32 → Int32 → Option (Int32)) (l1 : Int32) (l2 : Int32) : Option (Int32) :=
  if 8 ≤ l2 then
    some l1
  else
    if (f6_isTold f0 A0 l2) = 0 then
      k4 l1 (l2 + 1)
    else
      k4 (l1 ||| (shl 1 (f9_at 8 (A0 3) l2))) (l2 + 1)
noncomputable def f6_stoodAt_l4 (f0 : Nat → Int32) (A0 : Nat → Nat → Int32) : Nat → Int32 → Int32 → Option (Int32)
  | 0 => fun _ _ => none
  | n + 1 => fun l1 l2 => f6_stoodAt_b4 f0 A0  (f6_stoodAt_l4 f0 A0  n) l1 l2
noncomputable def f6_stoodAt (f0 : Nat → Int32) (A0 : Nat → Nat → Int32) : Option (Int32) :=
  f6_stoodAt_l4 f0 A0 NF 0 0
noncomputable def f6_wages (f0 : Nat → Int32) (A0 : Nat → Nat → Int32) : Option (Int32) :=
  (f9_sumOf 8 (A0 4) (f0 5)).bind fun q_1 =>
  some q_1
noncomputable def f7_append_b3 (p1 : Int32) (k3 : (Nat → Nat → Int32) → (Nat → Int32) → Int32 → Option ((Nat → Nat → Int32) × (Nat → Int32))) (A0 : Nat → Nat → Int32) (f0 : Nat → Int32) (l2 : Int32) : Option ((Nat → Nat → Int32) × (Nat → Int32)) :=
  if l2 < 0 then
    some (A0, f0)
  else
    letv (f9_put 260 (A0 0) (f0 1) ((ushr p1 l2) &&& 255)) fun z_1 =>
    letv (updA A0 0 z_1) fun A0_2 =>
    letv (upd f0 1 ((f0 1) + 1)) fun f0_3 =>
    k3 A0_2 f0_3 (l2 + (-8))
noncomputable def f7_append_l3 (p1 : Int32) : Nat → (Nat → Nat → Int32) → (Nat → Int32) → Int32 → Option ((Nat → Nat → Int32) × (Nat → Int32))
  | 0 => fun _ _ _ => none
  | n + 1 => fun A0 f0 l2 => f7_append_b3 p1  (f7_append_l3 p1  n) A0 f0 l2
noncomputable def f7_append (f0 : Nat → Int32) (A0 : Nat → Nat → Int32) (p1 : Int32) : Option ((Nat → Nat → Int32) × (Nat → Int32)) :=
  f7_append_l3 p1 NF A0 f0 24
noncomputable def f7_holds (f0 : Nat → Int32) (A0 : Nat → Nat → Int32) (p1 : Int32) : Int32 :=
  if (f0 1) < p1 then
    0
  else
    1
theorem f7_holds_b (f0 : Nat → Int32) (A0 : Nat → Nat → Int32) (p1 : Int32) : f7_holds f0 A0 p1 = 0 ∨ f7_holds f0 A0 p1 = 1 := by
  unfold f7_holds
  try simp only [letv]
  repeat' split
  all_goals first | exact Or.inl rfl | exact Or.inr rfl | (simp; done)
noncomputable def f7_open (f0 : Nat → Int32) (A0 : Nat → Nat → Int32) (p1 : Int32) : (Nat → Int32) :=
  letv (upd f0 1 0) fun f0_1 =>
  letv (upd f0_1 2 p1) fun f0_2 =>
  letv (upd f0_2 3 0) fun f0_3 =>
  letv (upd f0_3 4 0) fun f0_4 =>
  letv (upd f0_4 5 0) fun f0_5 =>
  f0_5
noncomputable def f7_byteAt (f0 : Nat → Int32) (A0 : Nat → Nat → Int32) (p1 : Int32) : Int32 :=
  if (f0 2) ≤ p1 then
    0
  else
    (f9_at 260 (A0 0) p1)
noncomputable def f7_answer (f0 : Nat → Int32) (A0 : Nat → Nat → Int32) (p1 : Int32) : Int32 :=
  if (f0 4) = 0 then
    p1
  else
    ((-1000) * (f0 4)) - (f0 5)
noncomputable def f8_add_b35 (p1 : Int32) (p2 : Int32) (A0 : Nat → Nat → Int32) (f0 : Nat → Int32) (l3 : Int32) : Option ((Nat → Nat → Int32) × (Nat → Int32)) :=
  letv (f9_put 65536 (A0 0) p1 (l3 ||| (shl p2 16))) fun z_1 =>
  letv (updA A0 0 z_1) fun A0_2 =>
  some (A0_2, f0)
noncomputable def f8_add (f0 : Nat → Int32) (A0 : Nat → Nat → Int32) (p1 : Int32) (p2 : Int32) : Option ((Nat → Nat → Int32) × (Nat → Int32)) :=
  if (f9_at 65536 (A0 0) p1) = 0 then
    letv (f9_put 16384 (A0 1) (f0 2) p1) fun z_3 =>
    letv (updA A0 1 z_3) fun A0_4 =>
    letv (upd f0 2 ((f0 2) + 1)) fun f0_5 =>
    f8_add_b35 p1 p2 A0_4 f0_5 (f9_at 65536 (A0 0) p1)
  else
    f8_add_b35 p1 p2 A0 f0 (f9_at 65536 (A0 0) p1)
noncomputable def f8_settle_b2 (f0 : Nat → Int32) (k2 : (Nat → Nat → Int32) → Int32 → Option ((Nat → Nat → Int32))) (A0 : Nat → Nat → Int32) (l1 : Int32) : Option ((Nat → Nat → Int32)) :=
  if (f0 2) ≤ l1 then
    some A0
  else
    letv (f9_put 65536 (A0 0) (f9_at 16384 (A0 1) l1) (((f9_at 65536 (A0 0) (f9_at 16384 (A0 1) l1)) ||| (ushr (f9_at 65536 (A0 0) (f9_at 16384 (A0 1) l1)) 16)) &&& 65535)) fun z_1 =>
    letv (updA A0 0 z_1) fun A0_2 =>
    k2 A0_2 (l1 + 1)
noncomputable def f8_settle_l2 (f0 : Nat → Int32) : Nat → (Nat → Nat → Int32) → Int32 → Option ((Nat → Nat → Int32))
  | 0 => fun _ _ => none
  | n + 1 => fun A0 l1 => f8_settle_b2 f0  (f8_settle_l2 f0  n) A0 l1
noncomputable def f8_settle (f0 : Nat → Int32) (A0 : Nat → Nat → Int32) : Option ((Nat → Nat → Int32)) :=
  f8_settle_l2 f0 NF A0 0
noncomputable def f8_goOn_b43 (f1 : Nat → Int32) (A1 : Nat → Nat → Int32) (k7 : (Nat → Nat → Int32) → (Nat → Int32) → Int32 → Int32 → Option ((Nat → Nat → Int32) × (Nat → Int32))) (k43 : (Nat → Nat → Int32) → (Nat → Int32) → Int32 → Int32 → Int32 → Int32 → Int32 → Option ((Nat → Nat → Int32) × (Nat → Int32))) (A0 : Nat → Nat → Int32) (f0 : Nat → Int32) (l2 : Int32) (l3 : Int32) (l4 : Int32) (l5 : Int32) (l6 : Int32) : Option ((Nat → Nat → Int32) × (Nat → Int32)) :=
  if 16 ≤ l6 then
    k7 A0 f0 l2 (l3 + 1)
  else
    if (f9_has l5 l6) = 0 then
      k43 A0 f0 l2 l3 l4 l5 (l6 + 1)
    else
      (f8_add f0 A0 (l4 ||| (shl 1 l6)) (shl 1 l6)).bind fun q_2 =>
      k43 q_2.1 q_2.2 l2 l3 l4 l5 (l6 + 1)
noncomputable def f8_goOn_l43 (f1 : Nat → Int32) (A1 : Nat → Nat → Int32) (k7 : (Nat → Nat → Int32) → (Nat → Int32) → Int32 → Int32 → Option ((Nat → Nat → Int32) × (Nat → Int32))) : Nat → (Nat → Nat → Int32) → (Nat → Int32) → Int32 → Int32 → Int32 → Int32 → Int32 → Option ((Nat → Nat → Int32) × (Nat → Int32))
  | 0 => fun _ _ _ _ _ _ _ => none
  | n + 1 => fun A0 f0 l2 l3 l4 l5 l6 => f8_goOn_b43 f1 A1 k7 (f8_goOn_l43 f1 A1 k7 n) A0 f0 l2 l3 l4 l5 l6
noncomputable def f8_goOn_b7 (f1 : Nat → Int32) (A1 : Nat → Nat → Int32) (k7 : (Nat → Nat → Int32) → (Nat → Int32) → Int32 → Int32 → Option ((Nat → Nat → Int32) × (Nat → Int32))) (A0 : Nat → Nat → Int32) (f0 : Nat → Int32) (l2 : Int32) (l3 : Int32) : Option ((Nat → Nat → Int32) × (Nat → Int32)) :=
  if l2 ≤ l3 then
    some (A0, f0)
  else
    (f1_aroundAny f1 A1 ((f9_at 65536 (A0 0) (f9_at 16384 (A0 1) l3)) &&& 65535)).bind fun q_1 =>
    f8_goOn_l43 f1 A1 k7 NF A0 f0 l2 l3 (f9_at 16384 (A0 1) l3) q_1 0
noncomputable def f8_goOn_l7 (f1 : Nat → Int32) (A1 : Nat → Nat → Int32) : Nat → (Nat → Nat → Int32) → (Nat → Int32) → Int32 → Int32 → Option ((Nat → Nat → Int32) × (Nat → Int32))
  | 0 => fun _ _ _ _ => none
  | n + 1 => fun A0 f0 l2 l3 => f8_goOn_b7 f1 A1  (f8_goOn_l7 f1 A1  n) A0 f0 l2 l3
noncomputable def f8_goOn (f0 : Nat → Int32) (A0 : Nat → Nat → Int32) (f1 : Nat → Int32) (A1 : Nat → Nat → Int32) : Option ((Nat → Nat → Int32) × (Nat → Int32)) :=
  f8_goOn_l7 f1 A1 NF A0 f0 (f0 2) 0
noncomputable def f8_best_b157 (n1 : Nat) (xs1 : Nat → Int32) (f2 : Nat → Int32) (A2 : Nat → Nat → Int32) (p1 : Int32) (p2 : Int32) (k60 : (Nat → Nat → Int32) → (Nat → Int32) → Int32 → Int32 → Int32 → Option (Int32 × (Nat → Nat → Int32) × (Nat → Int32))) (A0 : Nat → Nat → Int32) (f0 : Nat → Int32) (l5 : Int32) (l6 : Int32) (l7 : Int32) (l8 : Int32) : Option (Int32 × (Nat → Nat → Int32) × (Nat → Int32)) :=
  letv (f9_put 65536 (A0 0) l8 0) fun z_4 =>
  letv (updA A0 0 z_4) fun A0_5 =>
  k60 A0_5 f0 l5 l6 (l7 + 1)
noncomputable def f8_best_b121 (n1 : Nat) (xs1 : Nat → Int32) (f2 : Nat → Int32) (A2 : Nat → Nat → Int32) (p1 : Int32) (p2 : Int32) (k60 : (Nat → Nat → Int32) → (Nat → Int32) → Int32 → Int32 → Int32 → Option (Int32 × (Nat → Nat → Int32) × (Nat → Int32))) (A0 : Nat → Nat → Int32) (f0 : Nat → Int32) (l5 : Int32) (l6 : Int32) (l7 : Int32) (l8 : Int32) (l9 : Int32) (s0 : Int32) : Option (Int32 × (Nat → Nat → Int32) × (Nat → Int32)) :=
  if l9 = 0 then
    f8_best_b157 n1 xs1 f2 A2 p1 p2 k60 A0 f0 l5 l6 l7 l8
  else
    if l6 < s0 then
      f8_best_b157 n1 xs1 f2 A2 p1 p2 k60 A0 f0 l8 s0 l7 l8
    else
      if s0 = l6 then
        if l5 ≤ l8 then
          f8_best_b157 n1 xs1 f2 A2 p1 p2 k60 A0 f0 l5 l6 l7 l8
        else
          f8_best_b157 n1 xs1 f2 A2 p1 p2 k60 A0 f0 l8 s0 l7 l8
      else
        f8_best_b157 n1 xs1 f2 A2 p1 p2 k60 A0 f0 l5 l6 l7 l8
noncomputable def f8_best_b104 (n1 : Nat) (xs1 : Nat → Int32) (f2 : Nat → Int32) (A2 : Nat → Nat → Int32) (p1 : Int32) (p2 : Int32) (k60 : (Nat → Nat → Int32) → (Nat → Int32) → Int32 → Int32 → Int32 → Option (Int32 × (Nat → Nat → Int32) × (Nat → Int32))) (A0 : Nat → Nat → Int32) (f0 : Nat → Int32) (l5 : Int32) (l6 : Int32) (l7 : Int32) (l8 : Int32) (s0 : Int32) : Option (Int32 × (Nat → Nat → Int32) × (Nat → Int32)) :=
  if s0 = 0 then
    f8_best_b121 n1 xs1 f2 A2 p1 p2 k60 A0 f0 l5 l6 l7 l8 s0 (-1)
  else
    (f9_sumOf n1 xs1 l8).bind fun q_6 =>
    f8_best_b121 n1 xs1 f2 A2 p1 p2 k60 A0 f0 l5 l6 l7 l8 s0 q_6
noncomputable def f8_best_b60 (n1 : Nat) (xs1 : Nat → Int32) (f2 : Nat → Int32) (A2 : Nat → Nat → Int32) (p1 : Int32) (p2 : Int32) (k60 : (Nat → Nat → Int32) → (Nat → Int32) → Int32 → Int32 → Int32 → Option (Int32 × (Nat → Nat → Int32) × (Nat → Int32))) (A0 : Nat → Nat → Int32) (f0 : Nat → Int32) (l5 : Int32) (l6 : Int32) (l7 : Int32) : Option (Int32 × (Nat → Nat → Int32) × (Nat → Int32)) :=
  if (f0 2) ≤ l7 then
    some (l5, A0, f0)
  else
    if ((f9_at 65536 (A0 0) (f9_at 16384 (A0 1) l7)) &&& (f1_around f2 A2 p1)) = 0 then
      f8_best_b104 n1 xs1 f2 A2 p1 p2 k60 A0 f0 l5 l6 l7 (f9_at 16384 (A0 1) l7) 0
    else
      f8_best_b104 n1 xs1 f2 A2 p1 p2 k60 A0 f0 l5 l6 l7 (f9_at 16384 (A0 1) l7) 1
noncomputable def f8_best_l60 (n1 : Nat) (xs1 : Nat → Int32) (f2 : Nat → Int32) (A2 : Nat → Nat → Int32) (p1 : Int32) (p2 : Int32) : Nat → (Nat → Nat → Int32) → (Nat → Int32) → Int32 → Int32 → Int32 → Option (Int32 × (Nat → Nat → Int32) × (Nat → Int32))
  | 0 => fun _ _ _ _ _ => none
  | n + 1 => fun A0 f0 l5 l6 l7 => f8_best_b60 n1 xs1 f2 A2 p1 p2  (f8_best_l60 n1 xs1 f2 A2 p1 p2  n) A0 f0 l5 l6 l7
noncomputable def f8_best_b22 (n1 : Nat) (xs1 : Nat → Int32) (f2 : Nat → Int32) (A2 : Nat → Nat → Int32) (p1 : Int32) (p2 : Int32) (k22 : (Nat → Nat → Int32) → (Nat → Int32) → Int32 → Option (Int32 × (Nat → Nat → Int32) × (Nat → Int32))) (A0 : Nat → Nat → Int32) (f0 : Nat → Int32) (l5 : Int32) : Option (Int32 × (Nat → Nat → Int32) × (Nat → Int32)) :=
  if p2 ≤ l5 then
    f8_best_l60 n1 xs1 f2 A2 p1 p2 NF A0 f0 (-1) (-1) 0
  else
    if 8 ≤ l5 then
      f8_best_l60 n1 xs1 f2 A2 p1 p2 NF A0 f0 (-1) (-1) 0
    else
      (f8_goOn f0 A0 f2 A2).bind fun q_7 =>
      (f8_settle q_7.2 q_7.1).bind fun q_8 =>
      k22 q_8 q_7.2 (l5 + 1)
noncomputable def f8_best_l22 (n1 : Nat) (xs1 : Nat → Int32) (f2 : Nat → Int32) (A2 : Nat → Nat → Int32) (p1 : Int32) (p2 : Int32) : Nat → (Nat → Nat → Int32) → (Nat → Int32) → Int32 → Option (Int32 × (Nat → Nat → Int32) × (Nat → Int32))
  | 0 => fun _ _ _ => none
  | n + 1 => fun A0 f0 l5 => f8_best_b22 n1 xs1 f2 A2 p1 p2  (f8_best_l22 n1 xs1 f2 A2 p1 p2  n) A0 f0 l5
noncomputable def f8_best (f0 : Nat → Int32) (A0 : Nat → Nat → Int32) (n1 : Nat) (xs1 : Nat → Int32) (f2 : Nat → Int32) (A2 : Nat → Nat → Int32) (p1 : Int32) (p2 : Int32) : Option (Int32 × (Nat → Nat → Int32) × (Nat → Int32)) :=
  letv (upd f0 2 0) fun f0_1 =>
  (f8_add f0_1 A0 (shl 1 p1) (shl 1 p1)).bind fun q_2 =>
  (f8_settle q_2.2 q_2.1).bind fun q_3 =>
  f8_best_l22 n1 xs1 f2 A2 p1 p2 NF q_3 q_2.2 1
noncomputable def f9_place (f0 : Nat → Int32) (A0 : Nat → Nat → Int32) (f1 : Nat → Int32) (A1 : Nat → Nat → Int32) (f2 : Nat → Int32) (A2 : Nat → Nat → Int32) (p1 : Int32) (p2 : Int32) (p3 : Int32) : Option (Int32 × (Nat → Int32) × (Nat → Nat → Int32)) :=
  if (f9_within p1 0 15) = 0 then
    some (0, f1, A2)
  else
    if (f9_within p2 0 99) = 0 then
      some (0, f1, A2)
    else
      if (f9_within p3 0 999) = 0 then
        some (0, f1, A2)
      else
        letv (upd f1 0 ((f1 0) ||| (shl 1 p1))) fun f1_1 =>
        letv (f9_put 16 (A2 0) p1 p2) fun z_2 =>
        letv (updA A2 0 z_2) fun A2_3 =>
        letv (f9_put 16 (A2_3 1) p1 p3) fun z_4 =>
        letv (updA A2_3 1 z_4) fun A2_5 =>
        some (1, f1_1, A2_5)
noncomputable def f9_constable (f0 : Nat → Int32) (A0 : Nat → Nat → Int32) (f1 : Nat → Int32) (A1 : Nat → Nat → Int32) (f2 : Nat → Int32) (A2 : Nat → Nat → Int32) (p1 : Int32) (p2 : Int32) : Option (Int32 × (Nat → Nat → Int32) × (Nat → Int32)) :=
  if (f9_within p1 0 7) = 0 then
    some (0, A2, f2)
  else
    if (f1_isTold f1 A1 p2) = 0 then
      some (0, A2, f2)
    else
      letv (upd f2 5 ((f2 5) ||| (shl 1 p1))) fun f2_1 =>
      letv (f9_put 8 (A2 3) p1 p2) fun z_2 =>
      letv (updA A2 3 z_2) fun A2_3 =>
      letv (f9_put 8 (A2_3 4) p1 0) fun z_4 =>
      letv (updA A2_3 4 z_4) fun A2_5 =>
      some (1, A2_5, f2_1)
noncomputable def f9_seed (f0 : Nat → Int32) (A0 : Nat → Nat → Int32) (f1 : Nat → Int32) (A1 : Nat → Nat → Int32) (p1 : Int32) : Option (Int32 × (Nat → Int32)) :=
  if (f9_within p1 0 65535) = 0 then
    some (0, f1)
  else
    letv (upd f1 9 p1) fun f1_1 =>
    some (1, f1_1)
noncomputable def f9_feed (f0 : Nat → Int32) (A0 : Nat → Nat → Int32) (f1 : Nat → Int32) (A1 : Nat → Nat → Int32) (p1 : Int32) (p2 : Int32) (p3 : Int32) (p4 : Int32) (p5 : Int32) : Option (Int32 × (Nat → Nat → Int32) × (Nat → Int32)) :=
  if ((f1 1) + 20) ≤ 260 then
    (f7_append f1 A1 p1).bind fun q_1 =>
    (f7_append q_1.2 q_1.1 p2).bind fun q_2 =>
    (f7_append q_2.2 q_2.1 p3).bind fun q_3 =>
    (f7_append q_3.2 q_3.1 p4).bind fun q_4 =>
    (f7_append q_4.2 q_4.1 p5).bind fun q_5 =>
    some (q_5.2 1, q_5.1, q_5.2)
  else
    some ((-1), A1, f1)
noncomputable def f9_law (f0 : Nat → Int32) (A0 : Nat → Nat → Int32) (f1 : Nat → Int32) (A1 : Nat → Nat → Int32) (f2 : Nat → Int32) (A2 : Nat → Nat → Int32) (f3 : Nat → Int32) (A3 : Nat → Nat → Int32) (p1 : Int32) : Option (Int32 × (Nat → Int32) × (Nat → Nat → Int32) × (Nat → Int32) × (Nat → Nat → Int32) × (Nat → Int32)) :=
  if (f9_within p1 1 240) = 0 then
    some ((-1), f1, A2, f2, A3, f3)
  else
    if (f7_holds f1 A1 p1) = 0 then
      some ((-1), f1, A2, f2, A3, f3)
    else
      letv (f7_open f1 A1 p1) fun z_1 =>
      (f2_read f3 A3 z_1 A1).bind fun q_2 =>
      if (f7_isFine q_2.2.2 A1) = 0 then
        some ((f7_answer q_2.2.2 A1 (f2 9)), q_2.2.2, A2, f2, q_2.1, q_2.2.1)
      else
        some ((f7_answer q_2.2.2 A1 (q_2.2.1 9)), q_2.2.2, q_2.1, q_2.2.1, A2, f2)
noncomputable def f9_beat (f0 : Nat → Int32) (A0 : Nat → Nat → Int32) (f1 : Nat → Int32) (A1 : Nat → Nat → Int32) (fB2 : Nat → Nat → Int32) (AB2 : Nat → Nat → Nat → Int32) (f3 : Nat → Int32) (A3 : Nat → Nat → Int32) (p1 : Int32) (p2 : Int32) : Option (Int32 × (Nat → Int32) × (Nat → Nat → Nat → Int32) × (Nat → Nat → Int32) × (Nat → Nat → Int32) × (Nat → Int32)) :=
  if (f9_within p1 0 (8 - 1)) = 0 then
    some ((-1), f1, AB2, fB2, A3, f3)
  else
    if (f9_within p2 1 60) = 0 then
      some ((-1), f1, AB2, fB2, A3, f3)
    else
      if (f7_holds f1 A1 p2) = 0 then
        some ((-1), f1, AB2, fB2, A3, f3)
      else
        letv (f7_open f1 A1 p2) fun z_1 =>
        (f0_read f3 A3 z_1 A1).bind fun q_2 =>
        if (f7_isFine q_2.2.2 A1) = 0 then
          some ((f7_answer q_2.2.2 A1 (q_2.2.1 1)), q_2.2.2, AB2, fB2, q_2.1, q_2.2.1)
        else
          if p1 < 0 ∨ 8 ≤ (p1).toNatClampNeg then none else
          letv (p1).toNatClampNeg fun b_4 =>
          some ((f7_answer q_2.2.2 A1 (q_2.2.1 1)), q_2.2.2, va_up AB2 b_4 q_2.1, va_up fB2 b_4 q_2.2.1, AB2 b_4, fB2 b_4)
noncomputable def f9_pleas_b71 (f0 : Nat → Int32) (A0 : Nat → Nat → Int32) (A1 : Nat → Nat → Int32) (f2 : Nat → Int32) (f3 : Nat → Int32) (p1 : Int32) (f1 : Nat → Int32) (A2 : Nat → Nat → Int32) (A3 : Nat → Nat → Int32) (A4 : Nat → Nat → Int32) (f4 : Nat → Int32) : Option (Int32 × (Nat → Int32) × (Nat → Nat → Int32) × (Nat → Nat → Int32) × (Nat → Nat → Int32) × (Nat → Int32)) :=
  some ((f7_answer f1 A1 (f4 3)), f1, A2, A3, A4, f4)
noncomputable def f9_pleas (f0 : Nat → Int32) (A0 : Nat → Nat → Int32) (f1 : Nat → Int32) (A1 : Nat → Nat → Int32) (f2 : Nat → Int32) (A2 : Nat → Nat → Int32) (f3 : Nat → Int32) (A3 : Nat → Nat → Int32) (f4 : Nat → Int32) (A4 : Nat → Nat → Int32) (p1 : Int32) : Option (Int32 × (Nat → Int32) × (Nat → Nat → Int32) × (Nat → Nat → Int32) × (Nat → Nat → Int32) × (Nat → Int32)) :=
  if (f9_within p1 1 120) = 0 then
    some ((-1), f1, A2, A3, A4, f4)
  else
    if (f7_holds f1 A1 p1) = 0 then
      some ((-1), f1, A2, A3, A4, f4)
    else
      letv (f7_open f1 A1 p1) fun z_1 =>
      (f3_read f4 A4 z_1 A1 f2 A2).bind fun q_2 =>
      if (f7_isFine q_2.2.2 A1) = 0 then
        f9_pleas_b71 f0 A0 A1 f2 f3 p1 q_2.2.2 A2 A3 q_2.1 q_2.2.1
      else
        (f3_grant q_2.2.1 q_2.1 f3 A3 f2 A2).bind fun q_3 =>
        f9_pleas_b71 f0 A0 A1 f2 f3 p1 q_2.2.2 q_3.2 q_3.1 q_2.1 q_2.2.1
noncomputable def f9_isHours (p0 : Int32) : Option (Int32) :=
  if ¬ ((f9_within p0 1 240) = 0 ∨ (f9_within p0 1 240) = 1) then none else
  some (f9_within p0 1 240)
noncomputable def f9_passes (f0 : Nat → Int32) (A0 : Nat → Nat → Int32) (f1 : Nat → Int32) (A1 : Nat → Nat → Int32) (fB2 : Nat → Nat → Int32) (AB2 : Nat → Nat → Nat → Int32) (f3 : Nat → Int32) (A3 : Nat → Nat → Int32) (f4 : Nat → Int32) (A4 : Nat → Nat → Int32) (f5 : Nat → Int32) (A5 : Nat → Nat → Int32) : Option (Int32 × (Nat → Nat → Int32) × (Nat → Int32) × (Nat → Nat → Int32) × (Nat → Int32) × (Nat → Nat → Int32) × (Nat → Int32)) :=
  (f5_passes f3 A3 f5 A5 f4 A4 f1 A1 fB2 AB2).bind fun q_1 =>
  if ¬ (q_1.1 = 0 ∨ q_1.1 = 1) then none else
  some (q_1.1, q_1.2.1, q_1.2.2.1, q_1.2.2.2.2.2.1, q_1.2.2.2.2.2.2, q_1.2.2.2.1, q_1.2.2.2.2.1)
noncomputable def f9_hours_b13 (f0 : Nat → Int32) (A0 : Nat → Nat → Int32) (f1 : Nat → Int32) (A1 : Nat → Nat → Int32) (fB3 : Nat → Nat → Int32) (AB3 : Nat → Nat → Nat → Int32) (p1 : Int32) (k13 : (Nat → Nat → Int32) → (Nat → Int32) → (Nat → Nat → Int32) → (Nat → Int32) → (Nat → Nat → Int32) → (Nat → Int32) → Int32 → Int32 → Option (Int32 × (Nat → Nat → Int32) × (Nat → Int32) × (Nat → Nat → Int32) × (Nat → Int32) × (Nat → Nat → Int32) × (Nat → Int32))) (A2 : Nat → Nat → Int32) (f2 : Nat → Int32) (A4 : Nat → Nat → Int32) (f4 : Nat → Int32) (A5 : Nat → Nat → Int32) (f5 : Nat → Int32) (l2 : Int32) (l3 : Int32) : Option (Int32 × (Nat → Nat → Int32) × (Nat → Int32) × (Nat → Nat → Int32) × (Nat → Int32) × (Nat → Nat → Int32) × (Nat → Int32)) :=
  if p1 ≤ l3 then
    some (l2, A2, f2, A4, f4, A5, f5)
  else
    (f9_passes f0 A0 f1 A1 fB3 AB3 f4 A4 f5 A5 f2 A2).bind fun q_2 =>
    if q_2.1 = 0 then
      some (l2, q_2.2.2.2.2.2.1, q_2.2.2.2.2.2.2, q_2.2.1, q_2.2.2.1, q_2.2.2.2.1, q_2.2.2.2.2.1)
    else
      k13 q_2.2.2.2.2.2.1 q_2.2.2.2.2.2.2 q_2.2.1 q_2.2.2.1 q_2.2.2.2.1 q_2.2.2.2.2.1 (l2 + (q_2.2.2.1 2)) (l3 + 1)
noncomputable def f9_hours_l13 (f0 : Nat → Int32) (A0 : Nat → Nat → Int32) (f1 : Nat → Int32) (A1 : Nat → Nat → Int32) (fB3 : Nat → Nat → Int32) (AB3 : Nat → Nat → Nat → Int32) (p1 : Int32) : Nat → (Nat → Nat → Int32) → (Nat → Int32) → (Nat → Nat → Int32) → (Nat → Int32) → (Nat → Nat → Int32) → (Nat → Int32) → Int32 → Int32 → Option (Int32 × (Nat → Nat → Int32) × (Nat → Int32) × (Nat → Nat → Int32) × (Nat → Int32) × (Nat → Nat → Int32) × (Nat → Int32))
  | 0 => fun _ _ _ _ _ _ _ _ => none
  | n + 1 => fun A2 f2 A4 f4 A5 f5 l2 l3 => f9_hours_b13 f0 A0 f1 A1 fB3 AB3 p1  (f9_hours_l13 f0 A0 f1 A1 fB3 AB3 p1  n) A2 f2 A4 f4 A5 f5 l2 l3
noncomputable def f9_hours (f0 : Nat → Int32) (A0 : Nat → Nat → Int32) (f1 : Nat → Int32) (A1 : Nat → Nat → Int32) (f2 : Nat → Int32) (A2 : Nat → Nat → Int32) (fB3 : Nat → Nat → Int32) (AB3 : Nat → Nat → Nat → Int32) (f4 : Nat → Int32) (A4 : Nat → Nat → Int32) (f5 : Nat → Int32) (A5 : Nat → Nat → Int32) (p1 : Int32) : Option (Int32 × (Nat → Nat → Int32) × (Nat → Int32) × (Nat → Nat → Int32) × (Nat → Int32) × (Nat → Nat → Int32) × (Nat → Int32)) :=
  (f9_isHours p1).bind fun q_1 =>
  if q_1 = 0 then
    some ((-1), A2, f2, A4, f4, A5, f5)
  else
    f9_hours_l13 f0 A0 f1 A1 fB3 AB3 p1 NF A2 f2 A4 f4 A5 f5 0 0
noncomputable def f9_canBeTried (f0 : Nat → Int32) (A0 : Nat → Nat → Int32) (f1 : Nat → Int32) (A1 : Nat → Nat → Int32) (f2 : Nat → Int32) (A2 : Nat → Nat → Int32) (p1 : Int32) : Option (Int32) :=
  if (f9_within p1 30 45) = 0 then
    if (f9_within p1 20 27) = 0 then
      if (f9_within p1 0 2) = 0 then
        if (f9_within p1 10 17) = 0 then
          some 0
        else
          if (f6_isTold f2 A2 (p1 - 10)) = 0 then
            some 0
          else
            some 1
      else
        some 1
    else
      if ¬ ((f6_isTold f2 A2 (p1 - 20)) = 0 ∨ (f6_isTold f2 A2 (p1 - 20)) = 1) then none else
      some (f6_isTold f2 A2 (p1 - 20))
  else
    if ¬ ((f1_isTold f1 A1 (p1 - 30)) = 0 ∨ (f1_isTold f1 A1 (p1 - 30)) = 1) then none else
    some (f1_isTold f1 A1 (p1 - 30))
noncomputable def f9_tried_b81 (f0 : Nat → Int32) (A0 : Nat → Nat → Int32) (f1 : Nat → Int32) (A1 : Nat → Nat → Int32) (f2 : Nat → Int32) (A2 : Nat → Nat → Int32) (fB4 : Nat → Nat → Int32) (AB4 : Nat → Nat → Nat → Int32) (p1 : Int32) (p2 : Int32) (A3 : Nat → Nat → Int32) (f3 : Nat → Int32) (A5 : Nat → Nat → Int32) (f5 : Nat → Int32) (A6 : Nat → Nat → Int32) (f6 : Nat → Int32) (l3 : Int32) (l4 : Int32) : Option (Int32 × (Nat → Nat → Int32) × (Nat → Int32) × (Nat → Nat → Int32) × (Nat → Int32) × (Nat → Nat → Int32) × (Nat → Int32)) :=
  if p2 = 0 then
    some (l3, A3, f3, A5, f5, A6, f6)
  else
    if p2 = 1 then
      some (l4, A3, f3, A5, f5, A6, f6)
    else
      if p2 = 2 then
        some ((f3 6) - (f2 6), A3, f3, A5, f5, A6, f6)
      else
        if 20 ≤ p2 then
          if 30 ≤ p2 then
            some ((f9_at 16 (A3 2) (p2 - 30)), A3, f3, A5, f5, A6, f6)
          else
            some ((f9_at 8 (A3 4) (p2 - 20)), A3, f3, A5, f5, A6, f6)
        else
          some ((f9_at 8 (A3 3) (p2 - 10)), A3, f3, A5, f5, A6, f6)
noncomputable def f9_tried_b36 (f0 : Nat → Int32) (A0 : Nat → Nat → Int32) (f1 : Nat → Int32) (A1 : Nat → Nat → Int32) (f2 : Nat → Int32) (A2 : Nat → Nat → Int32) (fB4 : Nat → Nat → Int32) (AB4 : Nat → Nat → Nat → Int32) (p1 : Int32) (p2 : Int32) (k36 : (Nat → Nat → Int32) → (Nat → Int32) → (Nat → Nat → Int32) → (Nat → Int32) → (Nat → Nat → Int32) → (Nat → Int32) → Int32 → Int32 → Int32 → Option (Int32 × (Nat → Nat → Int32) × (Nat → Int32) × (Nat → Nat → Int32) × (Nat → Int32) × (Nat → Nat → Int32) × (Nat → Int32))) (A3 : Nat → Nat → Int32) (f3 : Nat → Int32) (A5 : Nat → Nat → Int32) (f5 : Nat → Int32) (A6 : Nat → Nat → Int32) (f6 : Nat → Int32) (l3 : Int32) (l4 : Int32) (l5 : Int32) : Option (Int32 × (Nat → Nat → Int32) × (Nat → Int32) × (Nat → Nat → Int32) × (Nat → Int32) × (Nat → Nat → Int32) × (Nat → Int32)) :=
  if p1 ≤ l5 then
    f9_tried_b81 f0 A0 f1 A1 f2 A2 fB4 AB4 p1 p2 A3 f3 A5 f5 A6 f6 l3 l4
  else
    (f9_passes f0 A0 f1 A1 fB4 AB4 f5 A5 f6 A6 f3 A3).bind fun q_4 =>
    if q_4.1 = 0 then
      f9_tried_b81 f0 A0 f1 A1 f2 A2 fB4 AB4 p1 p2 q_4.2.2.2.2.2.1 q_4.2.2.2.2.2.2 q_4.2.1 q_4.2.2.1 q_4.2.2.2.1 q_4.2.2.2.2.1 l3 l4
    else
      k36 q_4.2.2.2.2.2.1 q_4.2.2.2.2.2.2 q_4.2.1 q_4.2.2.1 q_4.2.2.2.1 q_4.2.2.2.2.1 (l3 + (q_4.2.2.1 2)) (l4 + (q_4.2.2.1 3)) (l5 + 1)
noncomputable def f9_tried_l36 (f0 : Nat → Int32) (A0 : Nat → Nat → Int32) (f1 : Nat → Int32) (A1 : Nat → Nat → Int32) (f2 : Nat → Int32) (A2 : Nat → Nat → Int32) (fB4 : Nat → Nat → Int32) (AB4 : Nat → Nat → Nat → Int32) (p1 : Int32) (p2 : Int32) : Nat → (Nat → Nat → Int32) → (Nat → Int32) → (Nat → Nat → Int32) → (Nat → Int32) → (Nat → Nat → Int32) → (Nat → Int32) → Int32 → Int32 → Int32 → Option (Int32 × (Nat → Nat → Int32) × (Nat → Int32) × (Nat → Nat → Int32) × (Nat → Int32) × (Nat → Nat → Int32) × (Nat → Int32))
  | 0 => fun _ _ _ _ _ _ _ _ _ => none
  | n + 1 => fun A3 f3 A5 f5 A6 f6 l3 l4 l5 => f9_tried_b36 f0 A0 f1 A1 f2 A2 fB4 AB4 p1 p2  (f9_tried_l36 f0 A0 f1 A1 f2 A2 fB4 AB4 p1 p2  n) A3 f3 A5 f5 A6 f6 l3 l4 l5
noncomputable def f9_tried (f0 : Nat → Int32) (A0 : Nat → Nat → Int32) (f1 : Nat → Int32) (A1 : Nat → Nat → Int32) (f2 : Nat → Int32) (A2 : Nat → Nat → Int32) (f3 : Nat → Int32) (A3 : Nat → Nat → Int32) (fB4 : Nat → Nat → Int32) (AB4 : Nat → Nat → Nat → Int32) (f5 : Nat → Int32) (A5 : Nat → Nat → Int32) (f6 : Nat → Int32) (A6 : Nat → Nat → Int32) (p1 : Int32) (p2 : Int32) : Option (Int32 × (Nat → Nat → Int32) × (Nat → Int32) × (Nat → Nat → Int32) × (Nat → Int32) × (Nat → Nat → Int32) × (Nat → Int32)) :=
  (f9_isHours p1).bind fun q_1 =>
  if q_1 = 0 then
    some ((-1), A3, f3, A5, f5, A6, f6)
  else
    (f9_canBeTried f0 A0 f1 A1 f2 A2 p2).bind fun q_2 =>
    if q_2 = 0 then
      some ((-1), A3, f3, A5, f5, A6, f6)
    else
      (f6_copy f3 A3 f2 A2).bind fun q_3 =>
      f9_tried_l36 f0 A0 f1 A1 f2 A2 fB4 AB4 p1 p2 NF q_3.1 q_3.2 A5 f5 A6 f6 0 0 0
noncomputable def f9_alone_b75 (f0 : Nat → Int32) (A0 : Nat → Nat → Int32) (f1 : Nat → Int32) (A1 : Nat → Nat → Int32) (f2 : Nat → Int32) (A2 : Nat → Nat → Int32) (fB4 : Nat → Nat → Int32) (AB4 : Nat → Nat → Nat → Int32) (p1 : Int32) (p2 : Int32) (k39 : (Nat → Nat → Int32) → (Nat → Int32) → (Nat → Nat → Int32) → (Nat → Int32) → (Nat → Nat → Int32) → (Nat → Int32) → Int32 → Int32 → Int32 → Option (Int32 × (Nat → Nat → Int32) × (Nat → Int32) × (Nat → Nat → Int32) × (Nat → Int32) × (Nat → Nat → Int32) × (Nat → Int32))) (A3 : Nat → Nat → Int32) (f3 : Nat → Int32) (A5 : Nat → Nat → Int32) (f5 : Nat → Int32) (A6 : Nat → Nat → Int32) (f6 : Nat → Int32) (l3 : Int32) (l5 : Int32) (s0 : Int32) : Option (Int32 × (Nat → Nat → Int32) × (Nat → Int32) × (Nat → Nat → Int32) × (Nat → Int32) × (Nat → Nat → Int32) × (Nat → Int32)) :=
  k39 A3 f3 A5 f5 A6 f6 (imax l3 s0) s0 (l5 + 1)
noncomputable def f9_alone_b39 (f0 : Nat → Int32) (A0 : Nat → Nat → Int32) (f1 : Nat → Int32) (A1 : Nat → Nat → Int32) (f2 : Nat → Int32) (A2 : Nat → Nat → Int32) (fB4 : Nat → Nat → Int32) (AB4 : Nat → Nat → Nat → Int32) (p1 : Int32) (p2 : Int32) (k39 : (Nat → Nat → Int32) → (Nat → Int32) → (Nat → Nat → Int32) → (Nat → Int32) → (Nat → Nat → Int32) → (Nat → Int32) → Int32 → Int32 → Int32 → Option (Int32 × (Nat → Nat → Int32) × (Nat → Int32) × (Nat → Nat → Int32) × (Nat → Int32) × (Nat → Nat → Int32) × (Nat → Int32))) (A3 : Nat → Nat → Int32) (f3 : Nat → Int32) (A5 : Nat → Nat → Int32) (f5 : Nat → Int32) (A6 : Nat → Nat → Int32) (f6 : Nat → Int32) (l3 : Int32) (l4 : Int32) (l5 : Int32) : Option (Int32 × (Nat → Nat → Int32) × (Nat → Int32) × (Nat → Nat → Int32) × (Nat → Int32) × (Nat → Nat → Int32) × (Nat → Int32)) :=
  if p2 ≤ l5 then
    some (l3, A3, f3, A5, f5, A6, f6)
  else
    (f9_passes f0 A0 f1 A1 fB4 AB4 f5 A5 f6 A6 f3 A3).bind fun q_3 =>
    if q_3.1 = 0 then
      some (l3, q_3.2.2.2.2.2.1, q_3.2.2.2.2.2.2, q_3.2.1, q_3.2.2.1, q_3.2.2.2.1, q_3.2.2.2.2.1)
    else
      (f6_standAt q_3.2.2.2.2.2.2 q_3.2.2.2.2.2.1 p1).bind fun q_4 =>
      if q_4 = 0 then
        f9_alone_b75 f0 A0 f1 A1 f2 A2 fB4 AB4 p1 p2 k39 q_3.2.2.2.2.2.1 q_3.2.2.2.2.2.2 q_3.2.1 q_3.2.2.1 q_3.2.2.2.1 q_3.2.2.2.2.1 l3 l5 (l4 + 1)
      else
        f9_alone_b75 f0 A0 f1 A1 f2 A2 fB4 AB4 p1 p2 k39 q_3.2.2.2.2.2.1 q_3.2.2.2.2.2.2 q_3.2.1 q_3.2.2.1 q_3.2.2.2.1 q_3.2.2.2.2.1 l3 l5 0
noncomputable def f9_alone_l39 (f0 : Nat → Int32) (A0 : Nat → Nat → Int32) (f1 : Nat → Int32) (A1 : Nat → Nat → Int32) (f2 : Nat → Int32) (A2 : Nat → Nat → Int32) (fB4 : Nat → Nat → Int32) (AB4 : Nat → Nat → Nat → Int32) (p1 : Int32) (p2 : Int32) : Nat → (Nat → Nat → Int32) → (Nat → Int32) → (Nat → Nat → Int32) → (Nat → Int32) → (Nat → Nat → Int32) → (Nat → Int32) → Int32 → Int32 → Int32 → Option (Int32 × (Nat → Nat → Int32) × (Nat → Int32) × (Nat → Nat → Int32) × (Nat → Int32) × (Nat → Nat → Int32) × (Nat → Int32))
  | 0 => fun _ _ _ _ _ _ _ _ _ => none
  | n + 1 => fun A3 f3 A5 f5 A6 f6 l3 l4 l5 => f9_alone_b39 f0 A0 f1 A1 f2 A2 fB4 AB4 p1 p2  (f9_alone_l39 f0 A0 f1 A1 f2 A2 fB4 AB4 p1 p2  n) A3 f3 A5 f5 A6 f6 l3 l4 l5
noncomputable def f9_alone (f0 : Nat → Int32) (A0 : Nat → Nat → Int32) (f1 : Nat → Int32) (A1 : Nat → Nat → Int32) (f2 : Nat → Int32) (A2 : Nat → Nat → Int32) (f3 : Nat → Int32) (A3 : Nat → Nat → Int32) (fB4 : Nat → Nat → Int32) (AB4 : Nat → Nat → Nat → Int32) (f5 : Nat → Int32) (A5 : Nat → Nat → Int32) (f6 : Nat → Int32) (A6 : Nat → Nat → Int32) (p1 : Int32) (p2 : Int32) : Option (Int32 × (Nat → Nat → Int32) × (Nat → Int32) × (Nat → Nat → Int32) × (Nat → Int32) × (Nat → Nat → Int32) × (Nat → Int32)) :=
  if (f1_isTold f1 A1 p1) = 0 then
    some ((-1), A3, f3, A5, f5, A6, f6)
  else
    (f9_isHours p2).bind fun q_1 =>
    if q_1 = 0 then
      some ((-1), A3, f3, A5, f5, A6, f6)
    else
      (f6_copy f3 A3 f2 A2).bind fun q_2 =>
      f9_alone_l39 f0 A0 f1 A1 f2 A2 fB4 AB4 p1 p2 NF q_2.1 q_2.2 A5 f5 A6 f6 0 0 0
noncomputable def f9_together_b77 (f0 : Nat → Int32) (A0 : Nat → Nat → Int32) (f1 : Nat → Int32) (A1 : Nat → Nat → Int32) (f2 : Nat → Int32) (A2 : Nat → Nat → Int32) (fB4 : Nat → Nat → Int32) (AB4 : Nat → Nat → Nat → Int32) (p1 : Int32) (p2 : Int32) (p3 : Int32) (k77 : (Nat → Nat → Int32) → (Nat → Int32) → (Nat → Nat → Int32) → (Nat → Int32) → (Nat → Nat → Int32) → (Nat → Int32) → Int32 → Option (Int32 × (Nat → Nat → Int32) × (Nat → Int32) × (Nat → Nat → Int32) × (Nat → Int32) × (Nat → Nat → Int32) × (Nat → Int32))) (A3 : Nat → Nat → Int32) (f3 : Nat → Int32) (A5 : Nat → Nat → Int32) (f5 : Nat → Int32) (A6 : Nat → Nat → Int32) (f6 : Nat → Int32) (l4 : Int32) : Option (Int32 × (Nat → Nat → Int32) × (Nat → Int32) × (Nat → Nat → Int32) × (Nat → Int32) × (Nat → Nat → Int32) × (Nat → Int32)) :=
  if p3 < l4 then
    some ((-2), A3, f3, A5, f5, A6, f6)
  else
    (f9_passes f0 A0 f1 A1 fB4 AB4 f5 A5 f6 A6 f3 A3).bind fun q_3 =>
    if q_3.1 = 0 then
      some ((-2), q_3.2.2.2.2.2.1, q_3.2.2.2.2.2.2, q_3.2.1, q_3.2.2.1, q_3.2.2.2.1, q_3.2.2.2.2.1)
    else
      if (f9_at 8 (q_3.2.2.2.2.2.1 3) p1) = (f9_at 8 (q_3.2.2.2.2.2.1 3) p2) then
        some (l4, q_3.2.2.2.2.2.1, q_3.2.2.2.2.2.2, q_3.2.1, q_3.2.2.1, q_3.2.2.2.1, q_3.2.2.2.2.1)
      else
        k77 q_3.2.2.2.2.2.1 q_3.2.2.2.2.2.2 q_3.2.1 q_3.2.2.1 q_3.2.2.2.1 q_3.2.2.2.2.1 (l4 + 1)
noncomputable def f9_together_l77 (f0 : Nat → Int32) (A0 : Nat → Nat → Int32) (f1 : Nat → Int32) (A1 : Nat → Nat → Int32) (f2 : Nat → Int32) (A2 : Nat → Nat → Int32) (fB4 : Nat → Nat → Int32) (AB4 : Nat → Nat → Nat → Int32) (p1 : Int32) (p2 : Int32) (p3 : Int32) : Nat → (Nat → Nat → Int32) → (Nat → Int32) → (Nat → Nat → Int32) → (Nat → Int32) → (Nat → Nat → Int32) → (Nat → Int32) → Int32 → Option (Int32 × (Nat → Nat → Int32) × (Nat → Int32) × (Nat → Nat → Int32) × (Nat → Int32) × (Nat → Nat → Int32) × (Nat → Int32))
  | 0 => fun _ _ _ _ _ _ _ => none
  | n + 1 => fun A3 f3 A5 f5 A6 f6 l4 => f9_together_b77 f0 A0 f1 A1 f2 A2 fB4 AB4 p1 p2 p3  (f9_together_l77 f0 A0 f1 A1 f2 A2 fB4 AB4 p1 p2 p3  n) A3 f3 A5 f5 A6 f6 l4
noncomputable def f9_together (f0 : Nat → Int32) (A0 : Nat → Nat → Int32) (f1 : Nat → Int32) (A1 : Nat → Nat → Int32) (f2 : Nat → Int32) (A2 : Nat → Nat → Int32) (f3 : Nat → Int32) (A3 : Nat → Nat → Int32) (fB4 : Nat → Nat → Int32) (AB4 : Nat → Nat → Nat → Int32) (f5 : Nat → Int32) (A5 : Nat → Nat → Int32) (f6 : Nat → Int32) (A6 : Nat → Nat → Int32) (p1 : Int32) (p2 : Int32) (p3 : Int32) : Option (Int32 × (Nat → Nat → Int32) × (Nat → Int32) × (Nat → Nat → Int32) × (Nat → Int32) × (Nat → Nat → Int32) × (Nat → Int32)) :=
  if (f6_isTold f2 A2 p1) = 0 then
    some ((-1), A3, f3, A5, f5, A6, f6)
  else
    if (f6_isTold f2 A2 p2) = 0 then
      some ((-1), A3, f3, A5, f5, A6, f6)
    else
      if p1 = p2 then
        some ((-1), A3, f3, A5, f5, A6, f6)
      else
        (f9_isHours p3).bind fun q_1 =>
        if q_1 = 0 then
          some ((-1), A3, f3, A5, f5, A6, f6)
        else
          if (f9_at 8 (A2 3) p1) = (f9_at 8 (A2 3) p2) then
            some (0, A3, f3, A5, f5, A6, f6)
          else
            (f6_copy f3 A3 f2 A2).bind fun q_2 =>
            f9_together_l77 f0 A0 f1 A1 f2 A2 fB4 AB4 p1 p2 p3 NF q_2.1 q_2.2 A5 f5 A6 f6 1
noncomputable def f9_seen_b24 (f0 : Nat → Int32) (A0 : Nat → Nat → Int32) (f1 : Nat → Int32) (A1 : Nat → Nat → Int32) (f2 : Nat → Int32) (A2 : Nat → Nat → Int32) (fB4 : Nat → Nat → Int32) (AB4 : Nat → Nat → Nat → Int32) (p1 : Int32) (k24 : (Nat → Nat → Int32) → (Nat → Int32) → (Nat → Nat → Int32) → (Nat → Int32) → (Nat → Nat → Int32) → (Nat → Int32) → Int32 → Int32 → Option (Int32 × (Nat → Nat → Int32) × (Nat → Int32) × (Nat → Nat → Int32) × (Nat → Int32) × (Nat → Nat → Int32) × (Nat → Int32))) (A3 : Nat → Nat → Int32) (f3 : Nat → Int32) (A5 : Nat → Nat → Int32) (f5 : Nat → Int32) (A6 : Nat → Nat → Int32) (f6 : Nat → Int32) (l2 : Int32) (l3 : Int32) : Option (Int32 × (Nat → Nat → Int32) × (Nat → Int32) × (Nat → Nat → Int32) × (Nat → Int32) × (Nat → Nat → Int32) × (Nat → Int32)) :=
  if p1 ≤ l3 then
    some (l2, A3, f3, A5, f5, A6, f6)
  else
    (f9_passes f0 A0 f1 A1 fB4 AB4 f5 A5 f6 A6 f3 A3).bind fun q_3 =>
    if q_3.1 = 0 then
      some (l2, q_3.2.2.2.2.2.1, q_3.2.2.2.2.2.2, q_3.2.1, q_3.2.2.1, q_3.2.2.2.1, q_3.2.2.2.2.1)
    else
      (f6_stoodAt q_3.2.2.2.2.2.2 q_3.2.2.2.2.2.1).bind fun q_4 =>
      k24 q_3.2.2.2.2.2.1 q_3.2.2.2.2.2.2 q_3.2.1 q_3.2.2.1 q_3.2.2.2.1 q_3.2.2.2.2.1 (l2 ||| q_4) (l3 + 1)
noncomputable def f9_seen_l24 (f0 : Nat → Int32) (A0 : Nat → Nat → Int32) (f1 : Nat → Int32) (A1 : Nat → Nat → Int32) (f2 : Nat → Int32) (A2 : Nat → Nat → Int32) (fB4 : Nat → Nat → Int32) (AB4 : Nat → Nat → Nat → Int32) (p1 : Int32) : Nat → (Nat → Nat → Int32) → (Nat → Int32) → (Nat → Nat → Int32) → (Nat → Int32) → (Nat → Nat → Int32) → (Nat → Int32) → Int32 → Int32 → Option (Int32 × (Nat → Nat → Int32) × (Nat → Int32) × (Nat → Nat → Int32) × (Nat → Int32) × (Nat → Nat → Int32) × (Nat → Int32))
  | 0 => fun _ _ _ _ _ _ _ _ => none
  | n + 1 => fun A3 f3 A5 f5 A6 f6 l2 l3 => f9_seen_b24 f0 A0 f1 A1 f2 A2 fB4 AB4 p1  (f9_seen_l24 f0 A0 f1 A1 f2 A2 fB4 AB4 p1  n) A3 f3 A5 f5 A6 f6 l2 l3
noncomputable def f9_seen (f0 : Nat → Int32) (A0 : Nat → Nat → Int32) (f1 : Nat → Int32) (A1 : Nat → Nat → Int32) (f2 : Nat → Int32) (A2 : Nat → Nat → Int32) (f3 : Nat → Int32) (A3 : Nat → Nat → Int32) (fB4 : Nat → Nat → Int32) (AB4 : Nat → Nat → Nat → Int32) (f5 : Nat → Int32) (A5 : Nat → Nat → Int32) (f6 : Nat → Int32) (A6 : Nat → Nat → Int32) (p1 : Int32) : Option (Int32 × (Nat → Nat → Int32) × (Nat → Int32) × (Nat → Nat → Int32) × (Nat → Int32) × (Nat → Nat → Int32) × (Nat → Int32)) :=
  (f9_isHours p1).bind fun q_1 =>
  if q_1 = 0 then
    some ((-1), A3, f3, A5, f5, A6, f6)
  else
    (f6_copy f3 A3 f2 A2).bind fun q_2 =>
    f9_seen_l24 f0 A0 f1 A1 f2 A2 fB4 AB4 p1 NF q_2.1 q_2.2 A5 f5 A6 f6 0 0
noncomputable def f9_quiet_b61 (f0 : Nat → Int32) (A0 : Nat → Nat → Int32) (f1 : Nat → Int32) (A1 : Nat → Nat → Int32) (f2 : Nat → Int32) (A2 : Nat → Nat → Int32) (fB4 : Nat → Nat → Int32) (AB4 : Nat → Nat → Nat → Int32) (p1 : Int32) (k27 : (Nat → Nat → Int32) → (Nat → Int32) → (Nat → Nat → Int32) → (Nat → Int32) → (Nat → Nat → Int32) → (Nat → Int32) → Int32 → Int32 → Int32 → Option (Int32 × (Nat → Nat → Int32) × (Nat → Int32) × (Nat → Nat → Int32) × (Nat → Int32) × (Nat → Nat → Int32) × (Nat → Int32))) (A3 : Nat → Nat → Int32) (f3 : Nat → Int32) (A5 : Nat → Nat → Int32) (f5 : Nat → Int32) (A6 : Nat → Nat → Int32) (f6 : Nat → Int32) (l2 : Int32) (l4 : Int32) (s0 : Int32) : Option (Int32 × (Nat → Nat → Int32) × (Nat → Int32) × (Nat → Nat → Int32) × (Nat → Int32) × (Nat → Nat → Int32) × (Nat → Int32)) :=
  k27 A3 f3 A5 f5 A6 f6 (imax l2 s0) s0 (l4 + 1)
noncomputable def f9_quiet_b27 (f0 : Nat → Int32) (A0 : Nat → Nat → Int32) (f1 : Nat → Int32) (A1 : Nat → Nat → Int32) (f2 : Nat → Int32) (A2 : Nat → Nat → Int32) (fB4 : Nat → Nat → Int32) (AB4 : Nat → Nat → Nat → Int32) (p1 : Int32) (k27 : (Nat → Nat → Int32) → (Nat → Int32) → (Nat → Nat → Int32) → (Nat → Int32) → (Nat → Nat → Int32) → (Nat → Int32) → Int32 → Int32 → Int32 → Option (Int32 × (Nat → Nat → Int32) × (Nat → Int32) × (Nat → Nat → Int32) × (Nat → Int32) × (Nat → Nat → Int32) × (Nat → Int32))) (A3 : Nat → Nat → Int32) (f3 : Nat → Int32) (A5 : Nat → Nat → Int32) (f5 : Nat → Int32) (A6 : Nat → Nat → Int32) (f6 : Nat → Int32) (l2 : Int32) (l3 : Int32) (l4 : Int32) : Option (Int32 × (Nat → Nat → Int32) × (Nat → Int32) × (Nat → Nat → Int32) × (Nat → Int32) × (Nat → Nat → Int32) × (Nat → Int32)) :=
  if p1 ≤ l4 then
    some (l2, A3, f3, A5, f5, A6, f6)
  else
    (f9_passes f0 A0 f1 A1 fB4 AB4 f5 A5 f6 A6 f3 A3).bind fun q_3 =>
    if q_3.1 = 0 then
      some (l2, q_3.2.2.2.2.2.1, q_3.2.2.2.2.2.2, q_3.2.1, q_3.2.2.1, q_3.2.2.2.1, q_3.2.2.2.2.1)
    else
      if (q_3.2.2.1 2) = 0 then
        f9_quiet_b61 f0 A0 f1 A1 f2 A2 fB4 AB4 p1 k27 q_3.2.2.2.2.2.1 q_3.2.2.2.2.2.2 q_3.2.1 q_3.2.2.1 q_3.2.2.2.1 q_3.2.2.2.2.1 l2 l4 (l3 + 1)
      else
        f9_quiet_b61 f0 A0 f1 A1 f2 A2 fB4 AB4 p1 k27 q_3.2.2.2.2.2.1 q_3.2.2.2.2.2.2 q_3.2.1 q_3.2.2.1 q_3.2.2.2.1 q_3.2.2.2.2.1 l2 l4 0
noncomputable def f9_quiet_l27 (f0 : Nat → Int32) (A0 : Nat → Nat → Int32) (f1 : Nat → Int32) (A1 : Nat → Nat → Int32) (f2 : Nat → Int32) (A2 : Nat → Nat → Int32) (fB4 : Nat → Nat → Int32) (AB4 : Nat → Nat → Nat → Int32) (p1 : Int32) : Nat → (Nat → Nat → Int32) → (Nat → Int32) → (Nat → Nat → Int32) → (Nat → Int32) → (Nat → Nat → Int32) → (Nat → Int32) → Int32 → Int32 → Int32 → Option (Int32 × (Nat → Nat → Int32) × (Nat → Int32) × (Nat → Nat → Int32) × (Nat → Int32) × (Nat → Nat → Int32) × (Nat → Int32))
  | 0 => fun _ _ _ _ _ _ _ _ _ => none
  | n + 1 => fun A3 f3 A5 f5 A6 f6 l2 l3 l4 => f9_quiet_b27 f0 A0 f1 A1 f2 A2 fB4 AB4 p1  (f9_quiet_l27 f0 A0 f1 A1 f2 A2 fB4 AB4 p1  n) A3 f3 A5 f5 A6 f6 l2 l3 l4
noncomputable def f9_quiet (f0 : Nat → Int32) (A0 : Nat → Nat → Int32) (f1 : Nat → Int32) (A1 : Nat → Nat → Int32) (f2 : Nat → Int32) (A2 : Nat → Nat → Int32) (f3 : Nat → Int32) (A3 : Nat → Nat → Int32) (fB4 : Nat → Nat → Int32) (AB4 : Nat → Nat → Nat → Int32) (f5 : Nat → Int32) (A5 : Nat → Nat → Int32) (f6 : Nat → Int32) (A6 : Nat → Nat → Int32) (p1 : Int32) : Option (Int32 × (Nat → Nat → Int32) × (Nat → Int32) × (Nat → Nat → Int32) × (Nat → Int32) × (Nat → Nat → Int32) × (Nat → Int32)) :=
  (f9_isHours p1).bind fun q_1 =>
  if q_1 = 0 then
    some ((-1), A3, f3, A5, f5, A6, f6)
  else
    (f6_copy f3 A3 f2 A2).bind fun q_2 =>
    f9_quiet_l27 f0 A0 f1 A1 f2 A2 fB4 AB4 p1 NF q_2.1 q_2.2 A5 f5 A6 f6 0 0 0
noncomputable def f9_placeIs (f0 : Nat → Int32) (A0 : Nat → Nat → Int32) (f1 : Nat → Int32) (A1 : Nat → Nat → Int32) (f2 : Nat → Int32) (A2 : Nat → Nat → Int32) (p1 : Int32) (p2 : Int32) : Option (Int32) :=
  if (f1_isTold f1 A1 p1) = 0 then
    some (-1)
  else
    if p2 = 0 then
      some (f9_at 16 (A2 0) p1)
    else
    if p2 = 1 then
      some (f9_at 16 (A2 1) p1)
    else
    if p2 = 2 then
      some (f9_at 16 (A2 2) p1)
    else
    if p2 = 3 then
      (f6_standAt f2 A2 p1).bind fun q_1 =>
      some q_1
    else
    if p2 = 4 then
      some (f9_at 16 (A1 1) p1)
    else
    some (-1)
noncomputable def f9_constableIs (f0 : Nat → Int32) (A0 : Nat → Nat → Int32) (f1 : Nat → Int32) (A1 : Nat → Nat → Int32) (fB2 : Nat → Nat → Int32) (AB2 : Nat → Nat → Nat → Int32) (p1 : Int32) (p2 : Int32) : Option (Int32) :=
  if (f6_isTold f1 A1 p1) = 0 then
    some (-1)
  else
    if (f9_within p1 0 (8 - 1)) = 0 then
      some (-1)
    else
      if p2 = 0 then
        some (f9_at 8 (A1 3) p1)
      else
      if p2 = 1 then
        some (f9_at 8 (A1 4) p1)
      else
      if p2 = 2 then
        if p1 < 0 ∨ 8 ≤ (p1).toNatClampNeg then none else
        letv (p1).toNatClampNeg fun b_2 =>
        if p1 < 0 ∨ 8 ≤ (p1).toNatClampNeg then none else
        letv (p1).toNatClampNeg fun b_5 =>
        some (fB2 b_5 1)
      else
      some (-1)
noncomputable def f9_count (f0 : Nat → Int32) (A0 : Nat → Nat → Int32) (f1 : Nat → Int32) (A1 : Nat → Nat → Int32) (f2 : Nat → Int32) (A2 : Nat → Nat → Int32) (f3 : Nat → Int32) (A3 : Nat → Nat → Int32) (f4 : Nat → Int32) (A4 : Nat → Nat → Int32) (p1 : Int32) : Option (Int32) :=
  if p1 = 0 then
    some (f3 8)
  else
  if p1 = 1 then
    some (f3 7)
  else
  if p1 = 2 then
    some (f3 6)
  else
  if p1 = 3 then
    some (f2 0)
  else
  if p1 = 4 then
    some (f3 5)
  else
  if p1 = 5 then
    (f6_wages f3 A3).bind fun q_1 =>
    some q_1
  else
  if p1 = 6 then
    some (f4 9)
  else
  if p1 = 7 then
    some (f1 1)
  else
  if p1 = 8 then
    some (f3 9)
  else
  some (-1)
noncomputable def f9_check_b67 (f0 : Nat → Int32) (A0 : Nat → Nat → Int32) (A1 : Nat → Nat → Int32) (f2 : Nat → Int32) (A2 : Nat → Nat → Int32) (f3 : Nat → Int32) (A3 : Nat → Nat → Int32) (p1 : Int32) (k34 : (Nat → Int32) → Int32 → Option (Int32 × (Nat → Int32))) (f1 : Nat → Int32) (l2 : Int32) (s0 : Int32) : Option (Int32 × (Nat → Int32)) :=
  if (f7_byteAt f1 A1 l2) = s0 then
    k34 f1 (l2 + 1)
  else
    some (l2, f1)
noncomputable def f9_check_b34 (f0 : Nat → Int32) (A0 : Nat → Nat → Int32) (A1 : Nat → Nat → Int32) (f2 : Nat → Int32) (A2 : Nat → Nat → Int32) (f3 : Nat → Int32) (A3 : Nat → Nat → Int32) (p1 : Int32) (k34 : (Nat → Int32) → Int32 → Option (Int32 × (Nat → Int32))) (f1 : Nat → Int32) (l2 : Int32) : Option (Int32 × (Nat → Int32)) :=
  if p1 ≤ l2 then
    some ((-1), f1)
  else
    if (f1_isTold f2 A2 l2) = 0 then
      f9_check_b67 f0 A0 A1 f2 A2 f3 A3 p1 k34 f1 l2 255
    else
      f9_check_b67 f0 A0 A1 f2 A2 f3 A3 p1 k34 f1 l2 (f9_at 16 (A3 0) l2)
noncomputable def f9_check_l34 (f0 : Nat → Int32) (A0 : Nat → Nat → Int32) (A1 : Nat → Nat → Int32) (f2 : Nat → Int32) (A2 : Nat → Nat → Int32) (f3 : Nat → Int32) (A3 : Nat → Nat → Int32) (p1 : Int32) : Nat → (Nat → Int32) → Int32 → Option (Int32 × (Nat → Int32))
  | 0 => fun _ _ => none
  | n + 1 => fun f1 l2 => f9_check_b34 f0 A0 A1 f2 A2 f3 A3 p1  (f9_check_l34 f0 A0 A1 f2 A2 f3 A3 p1  n) f1 l2
noncomputable def f9_check (f0 : Nat → Int32) (A0 : Nat → Nat → Int32) (f1 : Nat → Int32) (A1 : Nat → Nat → Int32) (f2 : Nat → Int32) (A2 : Nat → Nat → Int32) (f3 : Nat → Int32) (A3 : Nat → Nat → Int32) (p1 : Int32) : Option (Int32 × (Nat → Int32)) :=
  if (f9_within p1 0 16) = 0 then
    some ((-2), f1)
  else
    if (f7_holds f1 A1 p1) = 0 then
      some ((-2), f1)
    else
      letv (f7_open f1 A1 p1) fun z_1 =>
      f9_check_l34 f0 A0 A1 f2 A2 f3 A3 p1 NF z_1 0
noncomputable def f9_keep (f0 : Nat → Int32) (A0 : Nat → Nat → Int32) (f1 : Nat → Int32) (A1 : Nat → Nat → Int32) (f2 : Nat → Int32) (A2 : Nat → Nat → Int32) : Option (Int32 × (Nat → Int32) × (Nat → Nat → Int32) × (Nat → Int32)) :=
  (f6_copy f2 A2 f1 A1).bind fun q_1 =>
  letv (upd f0 14 1) fun f0_2 =>
  some (f1 8, f0_2, q_1.1, q_1.2)
noncomputable def f9_undo (f0 : Nat → Int32) (A0 : Nat → Nat → Int32) (f1 : Nat → Int32) (A1 : Nat → Nat → Int32) (f2 : Nat → Int32) (A2 : Nat → Nat → Int32) : Option (Int32 × (Nat → Nat → Int32) × (Nat → Int32)) :=
  if (f0 14) = 0 then
    if ¬ (f0 14 = 0 ∨ f0 14 = 1) then none else
    some (f0 14, A1, f1)
  else
    (f6_copy f1 A1 f2 A2).bind fun q_1 =>
    if ¬ (f0 14 = 0 ∨ f0 14 = 1) then none else
    some (f0 14, q_1.1, q_1.2)
noncomputable def f9_worst_b7 (f0 : Nat → Int32) (A0 : Nat → Nat → Int32) (f1 : Nat → Int32) (A1 : Nat → Nat → Int32) (f2 : Nat → Int32) (A2 : Nat → Nat → Int32) (k7 : Int32 → Int32 → Int32 → Option (Int32)) (l1 : Int32) (l2 : Int32) (l3 : Int32) : Option (Int32) :=
  if 16 ≤ l3 then
    some l2
  else
    if (f1_isTold f1 A1 l3) = 0 then
      k7 l1 l2 (l3 + 1)
    else
      if ((f9_at 16 (A2 0) l3) * (f9_at 16 (A2 1) l3)) ≤ l1 then
        k7 l1 l2 (l3 + 1)
      else
        k7 ((f9_at 16 (A2 0) l3) * (f9_at 16 (A2 1) l3)) l3 (l3 + 1)
noncomputable def f9_worst_l7 (f0 : Nat → Int32) (A0 : Nat → Nat → Int32) (f1 : Nat → Int32) (A1 : Nat → Nat → Int32) (f2 : Nat → Int32) (A2 : Nat → Nat → Int32) : Nat → Int32 → Int32 → Int32 → Option (Int32)
  | 0 => fun _ _ _ => none
  | n + 1 => fun l1 l2 l3 => f9_worst_b7 f0 A0 f1 A1 f2 A2  (f9_worst_l7 f0 A0 f1 A1 f2 A2  n) l1 l2 l3
noncomputable def f9_worst (f0 : Nat → Int32) (A0 : Nat → Nat → Int32) (f1 : Nat → Int32) (A1 : Nat → Nat → Int32) (f2 : Nat → Int32) (A2 : Nat → Nat → Int32) : Option (Int32) :=
  f9_worst_l7 f0 A0 f1 A1 f2 A2 NF (-1) (-2) 0
noncomputable def f9_ways (f0 : Nat → Int32) (A0 : Nat → Nat → Int32) (f1 : Nat → Int32) (A1 : Nat → Nat → Int32) (p1 : Int32) (p2 : Int32) : Option (Int32 × (Nat → Nat → Int32)) :=
  if (f1_isTold f1 A1 p1) = 0 then
    some ((-1), A1)
  else
    if (f1_isTold f1 A1 p2) = 0 then
      some ((-1), A1)
    else
      (f1_shortestWays f1 A1 p1 p2).bind fun q_1 =>
      some (q_1.1, q_1.2)
noncomputable def f9_way_b40 (f0 : Nat → Int32) (A0 : Nat → Nat → Int32) (f1 : Nat → Int32) (p1 : Int32) (p2 : Int32) (p3 : Int32) (A1 : Nat → Nat → Int32) : Option (Int32 × (Nat → Nat → Int32)) :=
  (f1_measure f1 A1 p2).bind fun q_1 =>
  if 0 ≤ (f1_stepsTo f1 q_1 p1) then
    if p3 = 100 then
      some ((f1_stepsTo f1 q_1 p1), q_1)
    else
      if p3 ≤ (f1_stepsTo f1 q_1 p1) then
        (f1_stepTowards f1 q_1 p1 p3).bind fun q_2 =>
        some (q_2, q_1)
      else
        some ((-4), q_1)
  else
    some ((-2), q_1)
noncomputable def f9_way (f0 : Nat → Int32) (A0 : Nat → Nat → Int32) (f1 : Nat → Int32) (A1 : Nat → Nat → Int32) (p1 : Int32) (p2 : Int32) (p3 : Int32) : Option (Int32 × (Nat → Nat → Int32)) :=
  if (f1_isTold f1 A1 p1) = 0 then
    some ((-1), A1)
  else
    if (f1_isTold f1 A1 p2) = 0 then
      some ((-1), A1)
    else
      if p3 = 100 then
        f9_way_b40 f0 A0 f1 p1 p2 p3 A1
      else
        if (f9_within p3 0 15) = 0 then
          some ((-1), A1)
        else
          f9_way_b40 f0 A0 f1 p1 p2 p3 A1
noncomputable def f9_nearest_b82 (f0 : Nat → Int32) (A0 : Nat → Nat → Int32) (f1 : Nat → Int32) (f2 : Nat → Int32) (A2 : Nat → Nat → Int32) (p1 : Int32) (p2 : Int32) (k40 : (Nat → Nat → Int32) → Int32 → Int32 → Int32 → Option (Int32 × (Nat → Nat → Int32))) (A1 : Nat → Nat → Int32) (l3 : Int32) (l4 : Int32) (l5 : Int32) (s0 : Int32) : Option (Int32 × (Nat → Nat → Int32)) :=
  if s0 < 0 then
    k40 A1 l3 l4 (l5 + 1)
  else
    if l4 < 0 then
      k40 A1 l5 s0 (l5 + 1)
    else
      if l4 ≤ s0 then
        k40 A1 l3 l4 (l5 + 1)
      else
        k40 A1 l5 s0 (l5 + 1)
noncomputable def f9_nearest_b40 (f0 : Nat → Int32) (A0 : Nat → Nat → Int32) (f1 : Nat → Int32) (f2 : Nat → Int32) (A2 : Nat → Nat → Int32) (p1 : Int32) (p2 : Int32) (k40 : (Nat → Nat → Int32) → Int32 → Int32 → Int32 → Option (Int32 × (Nat → Nat → Int32))) (A1 : Nat → Nat → Int32) (l3 : Int32) (l4 : Int32) (l5 : Int32) : Option (Int32 × (Nat → Nat → Int32)) :=
  if 8 ≤ l5 then
    if p2 = 0 then
      some (l3, A1)
    else
      some (l4, A1)
  else
    if (f6_isTold f2 A2 l5) = 0 then
      f9_nearest_b82 f0 A0 f1 f2 A2 p1 p2 k40 A1 l3 l4 l5 (-1)
    else
      f9_nearest_b82 f0 A0 f1 f2 A2 p1 p2 k40 A1 l3 l4 l5 (f1_stepsTo f1 A1 (f9_at 8 (A2 3) l5))
noncomputable def f9_nearest_l40 (f0 : Nat → Int32) (A0 : Nat → Nat → Int32) (f1 : Nat → Int32) (f2 : Nat → Int32) (A2 : Nat → Nat → Int32) (p1 : Int32) (p2 : Int32) : Nat → (Nat → Nat → Int32) → Int32 → Int32 → Int32 → Option (Int32 × (Nat → Nat → Int32))
  | 0 => fun _ _ _ _ => none
  | n + 1 => fun A1 l3 l4 l5 => f9_nearest_b40 f0 A0 f1 f2 A2 p1 p2  (f9_nearest_l40 f0 A0 f1 f2 A2 p1 p2  n) A1 l3 l4 l5
noncomputable def f9_nearest (f0 : Nat → Int32) (A0 : Nat → Nat → Int32) (f1 : Nat → Int32) (A1 : Nat → Nat → Int32) (f2 : Nat → Int32) (A2 : Nat → Nat → Int32) (p1 : Int32) (p2 : Int32) : Option (Int32 × (Nat → Nat → Int32)) :=
  if (f1_isTold f1 A1 p1) = 0 then
    some ((-1), A1)
  else
    if (f9_within p2 0 1) = 0 then
      some ((-1), A1)
    else
      (f1_measure f1 A1 p1).bind fun q_1 =>
      f9_nearest_l40 f0 A0 f1 f2 A2 p1 p2 NF q_1 (-2) (-2) 0
noncomputable def f9_posts (f0 : Nat → Int32) (A0 : Nat → Nat → Int32) (f1 : Nat → Int32) (A1 : Nat → Nat → Int32) (p1 : Int32) : Option (Int32) :=
  if (f9_within p1 0 1) = 0 then
    some (-1)
  else
    (f1_fewestPosts f1 A1).bind fun q_1 =>
    if p1 = 0 then
      some (fJ6_bitCount_0f7a4 q_1)
    else
      some q_1
noncomputable def f9_round_b50 (f0 : Nat → Int32) (A0 : Nat → Nat → Int32) (f1 : Nat → Int32) (A1 : Nat → Nat → Int32) (f2 : Nat → Int32) (A2 : Nat → Nat → Int32) (p1 : Int32) (p2 : Int32) (p3 : Int32) (A3 : Nat → Nat → Int32) (f3 : Nat → Int32) : Option (Int32 × (Nat → Nat → Int32) × (Nat → Int32)) :=
  (f8_best f3 A3 16 (A2 0) f1 A1 p1 p2).bind fun q_1 =>
  if p3 = 0 then
    (f9_sumOf 16 (A2 0) q_1.1).bind fun q_2 =>
    some (q_2, q_1.2.1, q_1.2.2)
  else
    some (q_1.1, q_1.2.1, q_1.2.2)
noncomputable def f9_round (f0 : Nat → Int32) (A0 : Nat → Nat → Int32) (f1 : Nat → Int32) (A1 : Nat → Nat → Int32) (f2 : Nat → Int32) (A2 : Nat → Nat → Int32) (f3 : Nat → Int32) (A3 : Nat → Nat → Int32) (p1 : Int32) (p2 : Int32) (p3 : Int32) : Option (Int32 × (Nat → Nat → Int32) × (Nat → Int32)) :=
  if (f1_isTold f1 A1 p1) = 0 then
    some ((-1), A3, f3)
  else
    if (f9_within p2 1 8) = 0 then
      some ((-1), A3, f3)
    else
      if (f9_within p3 0 1) = 0 then
        some ((-1), A3, f3)
      else
        f9_round_b50 f0 A0 f1 A1 f2 A2 p1 p2 p3 A3 f3
noncomputable def f9_lanes (f0 : Nat → Int32) (A0 : Nat → Nat → Int32) (f1 : Nat → Int32) (A1 : Nat → Nat → Int32) (p1 : Int32) : Option (Int32 × (Nat → Nat → Int32)) :=
  if (f9_within p1 0 3) = 0 then
    some ((-1), A1)
  else
    if p1 = 0 then
      (f1_lanesInAll f1 A1).bind fun q_3 =>
      some (q_3, A1)
    else
      if p1 = 1 then
        (f1_bridgesInAll f1 A1).bind fun q_2 =>
        some (q_2.1, q_2.2)
      else
        (f1_firstBridge f1 A1).bind fun q_1 =>
        if 0 ≤ q_1.1 then
          if p1 = 2 then
            some (q_1.1 / 16, q_1.2)
          else
            some (irm q_1.1 16, q_1.2)
        else
          some ((-2), q_1.2)
noncomputable def f9_watches_b19 (f0 : Nat → Int32) (A0 : Nat → Nat → Int32) (f1 : Nat → Int32) (A1 : Nat → Nat → Int32) (f2 : Nat → Int32) (p1 : Int32) (A2 : Nat → Nat → Int32) : Option (Int32 × (Nat → Nat → Int32)) :=
  (f4_fewest f2 A2 f1 A1).bind fun q_1 =>
  if p1 = 100 then
    some (q_1.1, q_1.2)
  else
    (f4_watchOf f2 q_1.2 f1 A1 p1 q_1.1).bind fun q_2 =>
    some (q_2.1, q_2.2)
noncomputable def f9_watches (f0 : Nat → Int32) (A0 : Nat → Nat → Int32) (f1 : Nat → Int32) (A1 : Nat → Nat → Int32) (f2 : Nat → Int32) (A2 : Nat → Nat → Int32) (p1 : Int32) : Option (Int32 × (Nat → Nat → Int32)) :=
  if p1 = 100 then
    f9_watches_b19 f0 A0 f1 A1 f2 p1 A2
  else
    if (f1_isTold f1 A1 p1) = 0 then
      some ((-1), A2)
    else
      f9_watches_b19 f0 A0 f1 A1 f2 p1 A2
noncomputable def f9_reaches (f0 : Nat → Int32) (A0 : Nat → Nat → Int32) (f1 : Nat → Int32) (A1 : Nat → Nat → Int32) (p1 : Int32) (p2 : Int32) : Int32 :=
  if (f1_stepsTo f1 A1 p1) < 0 then
    0
  else
    if p2 < (f1_stepsTo f1 A1 p1) then
      0
    else
      1
theorem f9_reaches_b (f0 : Nat → Int32) (A0 : Nat → Nat → Int32) (f1 : Nat → Int32) (A1 : Nat → Nat → Int32) (p1 : Int32) (p2 : Int32) : f9_reaches f0 A0 f1 A1 p1 p2 = 0 ∨ f9_reaches f0 A0 f1 A1 p1 p2 = 1 := by
  unfold f9_reaches
  try simp only [letv]
  repeat' split
  all_goals first | exact Or.inl rfl | exact Or.inr rfl | (simp; done)
noncomputable def f9_alibis_b133 (f0 : Nat → Int32) (A0 : Nat → Nat → Int32) (A1 : Nat → Nat → Int32) (f2 : Nat → Int32) (p1 : Int32) (p2 : Int32) (p3 : Int32) (k133 : (Nat → Int32) → (Nat → Nat → Int32) → Int32 → Int32 → Option (Int32 × (Nat → Int32) × (Nat → Nat → Int32))) (f1 : Nat → Int32) (A2 : Nat → Nat → Int32) (l4 : Int32) (l5 : Int32) : Option (Int32 × (Nat → Int32) × (Nat → Nat → Int32)) :=
  if p1 ≤ l5 then
    some (l4, f1, A2)
  else
    letv (f9_reaches f0 A0 f2 A2 (f7_byteAt f1 A1 (4 * l5)) (p3 - (f7_byteAt f1 A1 ((4 * l5) + 1)))) fun x_3 =>
    letv (f9_reaches f0 A0 f2 A2 (f7_byteAt f1 A1 ((4 * l5) + 2)) ((f7_byteAt f1 A1 ((4 * l5) + 3)) - p3)) fun x_4 =>
    if x_3 = 0 then
      k133 f1 A2 l4 (l5 + 1)
    else
      if x_4 = 0 then
        k133 f1 A2 l4 (l5 + 1)
      else
        k133 f1 A2 (l4 ||| (shl 1 l5)) (l5 + 1)
noncomputable def f9_alibis_l133 (f0 : Nat → Int32) (A0 : Nat → Nat → Int32) (A1 : Nat → Nat → Int32) (f2 : Nat → Int32) (p1 : Int32) (p2 : Int32) (p3 : Int32) : Nat → (Nat → Int32) → (Nat → Nat → Int32) → Int32 → Int32 → Option (Int32 × (Nat → Int32) × (Nat → Nat → Int32))
  | 0 => fun _ _ _ _ => none
  | n + 1 => fun f1 A2 l4 l5 => f9_alibis_b133 f0 A0 A1 f2 p1 p2 p3  (f9_alibis_l133 f0 A0 A1 f2 p1 p2 p3  n) f1 A2 l4 l5
noncomputable def f9_alibis_b60 (f0 : Nat → Int32) (A0 : Nat → Nat → Int32) (A1 : Nat → Nat → Int32) (f2 : Nat → Int32) (p1 : Int32) (p2 : Int32) (p3 : Int32) (k60 : (Nat → Int32) → (Nat → Nat → Int32) → Int32 → Option (Int32 × (Nat → Int32) × (Nat → Nat → Int32))) (f1 : Nat → Int32) (A2 : Nat → Nat → Int32) (l4 : Int32) : Option (Int32 × (Nat → Int32) × (Nat → Nat → Int32)) :=
  if p1 ≤ l4 then
    (f1_measure f2 A2 p2).bind fun q_2 =>
    f9_alibis_l133 f0 A0 A1 f2 p1 p2 p3 NF f1 q_2 0 0
  else
    if (f1_isTold f2 A2 (f7_byteAt f1 A1 (4 * l4))) = 0 then
      some ((-2), f1, A2)
    else
      if (f1_isTold f2 A2 (f7_byteAt f1 A1 ((4 * l4) + 2))) = 0 then
        some ((-2), f1, A2)
      else
        k60 f1 A2 (l4 + 1)
noncomputable def f9_alibis_l60 (f0 : Nat → Int32) (A0 : Nat → Nat → Int32) (A1 : Nat → Nat → Int32) (f2 : Nat → Int32) (p1 : Int32) (p2 : Int32) (p3 : Int32) : Nat → (Nat → Int32) → (Nat → Nat → Int32) → Int32 → Option (Int32 × (Nat → Int32) × (Nat → Nat → Int32))
  | 0 => fun _ _ _ => none
  | n + 1 => fun f1 A2 l4 => f9_alibis_b60 f0 A0 A1 f2 p1 p2 p3  (f9_alibis_l60 f0 A0 A1 f2 p1 p2 p3  n) f1 A2 l4
noncomputable def f9_alibis (f0 : Nat → Int32) (A0 : Nat → Nat → Int32) (f1 : Nat → Int32) (A1 : Nat → Nat → Int32) (f2 : Nat → Int32) (A2 : Nat → Nat → Int32) (p1 : Int32) (p2 : Int32) (p3 : Int32) : Option (Int32 × (Nat → Int32) × (Nat → Nat → Int32)) :=
  if (f9_within p1 1 10) = 0 then
    some ((-1), f1, A2)
  else
    if (f1_isTold f2 A2 p2) = 0 then
      some ((-1), f1, A2)
    else
      if (f9_within p3 0 255) = 0 then
        some ((-1), f1, A2)
      else
        if (f7_holds f1 A1 (4 * p1)) = 0 then
          some ((-1), f1, A2)
        else
          letv (f7_open f1 A1 (4 * p1)) fun z_1 =>
          f9_alibis_l60 f0 A0 A1 f2 p1 p2 p3 NF z_1 A2 0
noncomputable def f9_takesRanking_b5 (f0 : Nat → Int32) (f1 : Nat → Int32) (A1 : Nat → Nat → Int32) (p1 : Int32) (p2 : Int32) (k5 : (Nat → Nat → Int32) → Int32 → Int32 → Option (Int32 × (Nat → Nat → Int32))) (A0 : Nat → Nat → Int32) (l3 : Int32) (l4 : Int32) : Option (Int32 × (Nat → Nat → Int32)) :=
  if p1 ≤ l4 then
    some (1, A0)
  else
    if p1 ≤ (f7_byteAt f1 A1 ((p2 * p1) + l4)) then
      some (0, A0)
    else
      if (f9_has l3 (f7_byteAt f1 A1 ((p2 * p1) + l4))) = 0 then
        letv (l3 ||| (shl 1 (f7_byteAt f1 A1 ((p2 * p1) + l4)))) fun x_1 =>
        letv (f9_put 54 (A0 9) ((p2 * 6) + (f7_byteAt f1 A1 ((p2 * p1) + l4))) l4) fun z_2 =>
        letv (updA A0 9 z_2) fun A0_3 =>
        k5 A0_3 x_1 (l4 + 1)
      else
        some (0, A0)
noncomputable def f9_takesRanking_l5 (f0 : Nat → Int32) (f1 : Nat → Int32) (A1 : Nat → Nat → Int32) (p1 : Int32) (p2 : Int32) : Nat → (Nat → Nat → Int32) → Int32 → Int32 → Option (Int32 × (Nat → Nat → Int32))
  | 0 => fun _ _ _ => none
  | n + 1 => fun A0 l3 l4 => f9_takesRanking_b5 f0 f1 A1 p1 p2  (f9_takesRanking_l5 f0 f1 A1 p1 p2  n) A0 l3 l4
noncomputable def f9_takesRanking (f0 : Nat → Int32) (A0 : Nat → Nat → Int32) (f1 : Nat → Int32) (A1 : Nat → Nat → Int32) (p1 : Int32) (p2 : Int32) : Option (Int32 × (Nat → Nat → Int32)) :=
  f9_takesRanking_l5 f0 f1 A1 p1 p2 NF A0 0 0
noncomputable def f9_judgesFor_b6 (f0 : Nat → Int32) (A0 : Nat → Nat → Int32) (p1 : Int32) (p2 : Int32) (p3 : Int32) (k6 : Int32 → Int32 → Option (Int32)) (l4 : Int32) (l5 : Int32) : Option (Int32) :=
  if p3 ≤ l5 then
    some l4
  else
    if (f9_at 54 (A0 9) ((l5 * 6) + p2)) ≤ (f9_at 54 (A0 9) ((l5 * 6) + p1)) then
      k6 l4 (l5 + 1)
    else
      k6 (l4 + 1) (l5 + 1)
noncomputable def f9_judgesFor_l6 (f0 : Nat → Int32) (A0 : Nat → Nat → Int32) (p1 : Int32) (p2 : Int32) (p3 : Int32) : Nat → Int32 → Int32 → Option (Int32)
  | 0 => fun _ _ => none
  | n + 1 => fun l4 l5 => f9_judgesFor_b6 f0 A0 p1 p2 p3  (f9_judgesFor_l6 f0 A0 p1 p2 p3  n) l4 l5
noncomputable def f9_judgesFor (f0 : Nat → Int32) (A0 : Nat → Nat → Int32) (p1 : Int32) (p2 : Int32) (p3 : Int32) : Option (Int32) :=
  f9_judgesFor_l6 f0 A0 p1 p2 p3 NF 0 0
noncomputable def f9_beatsAllOthers_b13 (f0 : Nat → Int32) (A0 : Nat → Nat → Int32) (p1 : Int32) (p2 : Int32) (k2 : Int32 → Option (Int32)) (k13 : Int32 → Int32 → Int32 → Option (Int32)) (l3 : Int32) (l4 : Int32) (l5 : Int32) : Option (Int32) :=
  if p1 ≤ l5 then
    if l4 = (p1 - 1) then
      some l3
    else
      k2 (l3 + 1)
  else
    if l3 = l5 then
      k13 l3 l4 (l5 + 1)
    else
      (f9_judgesFor f0 A0 l3 l5 p2).bind fun q_1 =>
      if (2 * q_1) ≤ p2 then
        k13 l3 l4 (l5 + 1)
      else
        k13 l3 (l4 + 1) (l5 + 1)
noncomputable def f9_beatsAllOthers_l13 (f0 : Nat → Int32) (A0 : Nat → Nat → Int32) (p1 : Int32) (p2 : Int32) (k2 : Int32 → Option (Int32)) : Nat → Int32 → Int32 → Int32 → Option (Int32)
  | 0 => fun _ _ _ => none
  | n + 1 => fun l3 l4 l5 => f9_beatsAllOthers_b13 f0 A0 p1 p2 k2 (f9_beatsAllOthers_l13 f0 A0 p1 p2 k2 n) l3 l4 l5
noncomputable def f9_beatsAllOthers_b2 (f0 : Nat → Int32) (A0 : Nat → Nat → Int32) (p1 : Int32) (p2 : Int32) (k2 : Int32 → Option (Int32)) (l3 : Int32) : Option (Int32) :=
  if p1 ≤ l3 then
    some (-2)
  else
    f9_beatsAllOthers_l13 f0 A0 p1 p2 k2 NF l3 0 0
noncomputable def f9_beatsAllOthers_l2 (f0 : Nat → Int32) (A0 : Nat → Nat → Int32) (p1 : Int32) (p2 : Int32) : Nat → Int32 → Option (Int32)
  | 0 => fun _ => none
  | n + 1 => fun l3 => f9_beatsAllOthers_b2 f0 A0 p1 p2  (f9_beatsAllOthers_l2 f0 A0 p1 p2  n) l3
noncomputable def f9_beatsAllOthers (f0 : Nat → Int32) (A0 : Nat → Nat → Int32) (p1 : Int32) (p2 : Int32) : Option (Int32) :=
  f9_beatsAllOthers_l2 f0 A0 p1 p2 NF 0
noncomputable def f9_fewestPlaces_b20 (f0 : Nat → Int32) (A0 : Nat → Nat → Int32) (p1 : Int32) (p2 : Int32) (k8 : Int32 → Int32 → Int32 → Option (Int32)) (k20 : Int32 → Int32 → Int32 → Int32 → Int32 → Option (Int32)) (l3 : Int32) (l4 : Int32) (l5 : Int32) (l6 : Int32) (l7 : Int32) : Option (Int32) :=
  if p2 ≤ l7 then
    if l3 = (-1) then
      k8 l5 l6 (l5 + 1)
    else
      if l4 ≤ l6 then
        k8 l3 l4 (l5 + 1)
      else
        k8 l5 l6 (l5 + 1)
  else
    k20 l3 l4 l5 (l6 + (f9_at 54 (A0 9) ((l7 * 6) + l5))) (l7 + 1)
noncomputable def f9_fewestPlaces_l20 (f0 : Nat → Int32) (A0 : Nat → Nat → Int32) (p1 : Int32) (p2 : Int32) (k8 : Int32 → Int32 → Int32 → Option (Int32)) : Nat → Int32 → Int32 → Int32 → Int32 → Int32 → Option (Int32)
  | 0 => fun _ _ _ _ _ => none
  | n + 1 => fun l3 l4 l5 l6 l7 => f9_fewestPlaces_b20 f0 A0 p1 p2 k8 (f9_fewestPlaces_l20 f0 A0 p1 p2 k8 n) l3 l4 l5 l6 l7
noncomputable def f9_fewestPlaces_b8 (f0 : Nat → Int32) (A0 : Nat → Nat → Int32) (p1 : Int32) (p2 : Int32) (k8 : Int32 → Int32 → Int32 → Option (Int32)) (l3 : Int32) (l4 : Int32) (l5 : Int32) : Option (Int32) :=
  if p1 ≤ l5 then
    some l3
  else
    f9_fewestPlaces_l20 f0 A0 p1 p2 k8 NF l3 l4 l5 0 0
noncomputable def f9_fewestPlaces_l8 (f0 : Nat → Int32) (A0 : Nat → Nat → Int32) (p1 : Int32) (p2 : Int32) : Nat → Int32 → Int32 → Int32 → Option (Int32)
  | 0 => fun _ _ _ => none
  | n + 1 => fun l3 l4 l5 => f9_fewestPlaces_b8 f0 A0 p1 p2  (f9_fewestPlaces_l8 f0 A0 p1 p2  n) l3 l4 l5
noncomputable def f9_fewestPlaces (f0 : Nat → Int32) (A0 : Nat → Nat → Int32) (p1 : Int32) (p2 : Int32) : Option (Int32) :=
  f9_fewestPlaces_l8 f0 A0 p1 p2 NF (-1) 0 0
noncomputable def f9_twosAlike_b17 (f0 : Nat → Int32) (A0 : Nat → Nat → Int32) (p1 : Int32) (p2 : Int32) (k5 : Int32 → Int32 → Option (Int32)) (k17 : Int32 → Int32 → Int32 → Option (Int32)) (l3 : Int32) (l4 : Int32) (l5 : Int32) : Option (Int32) :=
  if p1 ≤ l5 then
    k5 l3 (l4 + 1)
  else
    (f9_judgesFor f0 A0 l4 l5 p2).bind fun q_1 =>
    if (2 * q_1) = p2 then
      k17 (l3 + 1) l4 (l5 + 1)
    else
      k17 l3 l4 (l5 + 1)
noncomputable def f9_twosAlike_l17 (f0 : Nat → Int32) (A0 : Nat → Nat → Int32) (p1 : Int32) (p2 : Int32) (k5 : Int32 → Int32 → Option (Int32)) : Nat → Int32 → Int32 → Int32 → Option (Int32)
  | 0 => fun _ _ _ => none
  | n + 1 => fun l3 l4 l5 => f9_twosAlike_b17 f0 A0 p1 p2 k5 (f9_twosAlike_l17 f0 A0 p1 p2 k5 n) l3 l4 l5
noncomputable def f9_twosAlike_b5 (f0 : Nat → Int32) (A0 : Nat → Nat → Int32) (p1 : Int32) (p2 : Int32) (k5 : Int32 → Int32 → Option (Int32)) (l3 : Int32) (l4 : Int32) : Option (Int32) :=
  if p1 ≤ l4 then
    some l3
  else
    f9_twosAlike_l17 f0 A0 p1 p2 k5 NF l3 l4 (l4 + 1)
noncomputable def f9_twosAlike_l5 (f0 : Nat → Int32) (A0 : Nat → Nat → Int32) (p1 : Int32) (p2 : Int32) : Nat → Int32 → Int32 → Option (Int32)
  | 0 => fun _ _ => none
  | n + 1 => fun l3 l4 => f9_twosAlike_b5 f0 A0 p1 p2  (f9_twosAlike_l5 f0 A0 p1 p2  n) l3 l4
noncomputable def f9_twosAlike (f0 : Nat → Int32) (A0 : Nat → Nat → Int32) (p1 : Int32) (p2 : Int32) : Option (Int32) :=
  f9_twosAlike_l5 f0 A0 p1 p2 NF 0 0
noncomputable def f9_bench_b57 (f0 : Nat → Int32) (A1 : Nat → Nat → Int32) (p1 : Int32) (p2 : Int32) (p3 : Int32) (k57 : (Nat → Nat → Int32) → (Nat → Int32) → Int32 → Option (Int32 × (Nat → Nat → Int32) × (Nat → Int32))) (A0 : Nat → Nat → Int32) (f1 : Nat → Int32) (l4 : Int32) : Option (Int32 × (Nat → Nat → Int32) × (Nat → Int32)) :=
  if p2 ≤ l4 then
    if p3 = 0 then
      (f9_beatsAllOthers f0 A0 p1 p2).bind fun q_4 =>
      some (q_4, A0, f1)
    else
      if p3 = 1 then
        (f9_fewestPlaces f0 A0 p1 p2).bind fun q_3 =>
        some (q_3, A0, f1)
      else
        (f9_twosAlike f0 A0 p1 p2).bind fun q_2 =>
        some (q_2, A0, f1)
  else
    (f9_takesRanking f0 A0 f1 A1 p1 l4).bind fun q_5 =>
    if q_5.1 = 0 then
      some ((-3), q_5.2, f1)
    else
      k57 q_5.2 f1 (l4 + 1)
noncomputable def f9_bench_l57 (f0 : Nat → Int32) (A1 : Nat → Nat → Int32) (p1 : Int32) (p2 : Int32) (p3 : Int32) : Nat → (Nat → Nat → Int32) → (Nat → Int32) → Int32 → Option (Int32 × (Nat → Nat → Int32) × (Nat → Int32))
  | 0 => fun _ _ _ => none
  | n + 1 => fun A0 f1 l4 => f9_bench_b57 f0 A1 p1 p2 p3  (f9_bench_l57 f0 A1 p1 p2 p3  n) A0 f1 l4
noncomputable def f9_bench (f0 : Nat → Int32) (A0 : Nat → Nat → Int32) (f1 : Nat → Int32) (A1 : Nat → Nat → Int32) (p1 : Int32) (p2 : Int32) (p3 : Int32) : Option (Int32 × (Nat → Nat → Int32) × (Nat → Int32)) :=
  if (f9_within p1 2 6) = 0 then
    some ((-1), A0, f1)
  else
    if (f9_within p2 1 9) = 0 then
      some ((-1), A0, f1)
    else
      if (f9_within p3 0 2) = 0 then
        some ((-1), A0, f1)
      else
        if (f7_holds f1 A1 (p1 * p2)) = 0 then
          some ((-1), A0, f1)
        else
          letv (f7_open f1 A1 (p1 * p2)) fun z_1 =>
          f9_bench_l57 f0 A1 p1 p2 p3 NF A0 z_1 0
noncomputable def f9_isBeaten_b28 (f0 : Nat → Int32) (A0 : Nat → Nat → Int32) (f1 : Nat → Int32) (A1 : Nat → Nat → Int32) (p1 : Int32) (p2 : Int32) (k28 : Int32 → Int32 → Int32 → Option (Int32)) (l3 : Int32) (l4 : Int32) (l5 : Int32) : Option (Int32) :=
  if p2 ≤ l5 then
    some 0
  else
    if ((f7_byteAt f1 A1 (2 * l5)) - l3) < 0 then
      k28 l3 l4 (l5 + 1)
    else
      if ((f7_byteAt f1 A1 ((2 * l5) + 1)) - l4) < 0 then
        k28 l3 l4 (l5 + 1)
      else
        if (((f7_byteAt f1 A1 (2 * l5)) - l3) + ((f7_byteAt f1 A1 ((2 * l5) + 1)) - l4)) ≤ 0 then
          k28 l3 l4 (l5 + 1)
        else
          some 1
noncomputable def f9_isBeaten_l28 (f0 : Nat → Int32) (A0 : Nat → Nat → Int32) (f1 : Nat → Int32) (A1 : Nat → Nat → Int32) (p1 : Int32) (p2 : Int32) : Nat → Int32 → Int32 → Int32 → Option (Int32)
  | 0 => fun _ _ _ => none
  | n + 1 => fun l3 l4 l5 => f9_isBeaten_b28 f0 A0 f1 A1 p1 p2  (f9_isBeaten_l28 f0 A0 f1 A1 p1 p2  n) l3 l4 l5
noncomputable def f9_isBeaten (f0 : Nat → Int32) (A0 : Nat → Nat → Int32) (f1 : Nat → Int32) (A1 : Nat → Nat → Int32) (p1 : Int32) (p2 : Int32) : Option (Int32) :=
  f9_isBeaten_l28 f0 A0 f1 A1 p1 p2 NF (f7_byteAt f1 A1 (2 * p1)) (f7_byteAt f1 A1 ((2 * p1) + 1)) 0
noncomputable def f9_likely_b103 (f0 : Nat → Int32) (A0 : Nat → Nat → Int32) (A1 : Nat → Nat → Int32) (p1 : Int32) (p2 : Int32) (k55 : (Nat → Int32) → Int32 → Int32 → Int32 → Int32 → Option (Int32 × (Nat → Int32))) (f1 : Nat → Int32) (l3 : Int32) (l4 : Int32) (l5 : Int32) (l6 : Int32) : Option (Int32 × (Nat → Int32)) :=
  (f9_isBeaten f0 A0 f1 A1 l6 p1).bind fun q_3 =>
  if q_3 = 0 then
    k55 f1 (l3 ||| (shl 1 l6)) l4 l5 (l6 + 1)
  else
    k55 f1 l3 l4 l5 (l6 + 1)
noncomputable def f9_likely_b55 (f0 : Nat → Int32) (A0 : Nat → Nat → Int32) (A1 : Nat → Nat → Int32) (p1 : Int32) (p2 : Int32) (k55 : (Nat → Int32) → Int32 → Int32 → Int32 → Int32 → Option (Int32 × (Nat → Int32))) (f1 : Nat → Int32) (l3 : Int32) (l4 : Int32) (l5 : Int32) (l6 : Int32) : Option (Int32 × (Nat → Int32)) :=
  if p1 ≤ l6 then
    if p2 = 0 then
      some (l3, f1)
    else
      if p2 = 1 then
        some (l4, f1)
      else
        some (l5, f1)
  else
    letv ((f7_byteAt f1 A1 (2 * l6)) * (f7_byteAt f1 A1 ((2 * l6) + 1))) fun x_2 =>
    if x_2 ≤ l4 then
      f9_likely_b103 f0 A0 A1 p1 p2 k55 f1 l3 l4 l5 l6
    else
      f9_likely_b103 f0 A0 A1 p1 p2 k55 f1 l3 x_2 l6 l6
noncomputable def f9_likely_l55 (f0 : Nat → Int32) (A0 : Nat → Nat → Int32) (A1 : Nat → Nat → Int32) (p1 : Int32) (p2 : Int32) : Nat → (Nat → Int32) → Int32 → Int32 → Int32 → Int32 → Option (Int32 × (Nat → Int32))
  | 0 => fun _ _ _ _ _ => none
  | n + 1 => fun f1 l3 l4 l5 l6 => f9_likely_b55 f0 A0 A1 p1 p2  (f9_likely_l55 f0 A0 A1 p1 p2  n) f1 l3 l4 l5 l6
noncomputable def f9_likely (f0 : Nat → Int32) (A0 : Nat → Nat → Int32) (f1 : Nat → Int32) (A1 : Nat → Nat → Int32) (p1 : Int32) (p2 : Int32) : Option (Int32 × (Nat → Int32)) :=
  if (f9_within p1 1 16) = 0 then
    some ((-1), f1)
  else
    if (f9_within p2 0 2) = 0 then
      some ((-1), f1)
    else
      if (f7_holds f1 A1 (2 * p1)) = 0 then
        some ((-1), f1)
      else
        letv (f7_open f1 A1 (2 * p1)) fun z_1 =>
        f9_likely_l55 f0 A0 A1 p1 p2 NF z_1 0 (-1) 0 0
noncomputable def f9_share_b50 (f0 : Nat → Int32) (A0 : Nat → Nat → Int32) (A1 : Nat → Nat → Int32) (p1 : Int32) (p2 : Int32) (k50 : (Nat → Int32) → Int32 → Int32 → Option (Int32 × (Nat → Int32))) (f1 : Nat → Int32) (l3 : Int32) (l4 : Int32) : Option (Int32 × (Nat → Int32)) :=
  if p1 ≤ l4 then
    some (l3, f1)
  else
    letv (fJ6_bitCount_0f7a4 (f7_byteAt f1 A1 ((2 * l4) + 1))) fun x_2 =>
    if x_2 ≤ 0 then
      k50 f1 l3 (l4 + 1)
    else
      if (f9_has (f7_byteAt f1 A1 ((2 * l4) + 1)) p2) = 0 then
        k50 f1 l3 (l4 + 1)
      else
        letv (fJ6_bitCount_0f7a4 ((f7_byteAt f1 A1 ((2 * l4) + 1)) &&& ((shl 1 p2) - 1))) fun x_3 =>
        if x_2 = 0 then none else
        if x_2 = 0 then none else
        if (irm (f7_byteAt f1 A1 (2 * l4)) x_2) ≤ x_3 then
          k50 f1 (l3 + (((f7_byteAt f1 A1 (2 * l4)) / x_2) + 0)) (l4 + 1)
        else
          k50 f1 (l3 + (((f7_byteAt f1 A1 (2 * l4)) / x_2) + 1)) (l4 + 1)
noncomputable def f9_share_l50 (f0 : Nat → Int32) (A0 : Nat → Nat → Int32) (A1 : Nat → Nat → Int32) (p1 : Int32) (p2 : Int32) : Nat → (Nat → Int32) → Int32 → Int32 → Option (Int32 × (Nat → Int32))
  | 0 => fun _ _ _ => none
  | n + 1 => fun f1 l3 l4 => f9_share_b50 f0 A0 A1 p1 p2  (f9_share_l50 f0 A0 A1 p1 p2  n) f1 l3 l4
noncomputable def f9_share (f0 : Nat → Int32) (A0 : Nat → Nat → Int32) (f1 : Nat → Int32) (A1 : Nat → Nat → Int32) (p1 : Int32) (p2 : Int32) : Option (Int32 × (Nat → Int32)) :=
  if (f9_within p1 1 12) = 0 then
    some ((-1), f1)
  else
    if (f9_within p2 0 7) = 0 then
      some ((-1), f1)
    else
      if (f7_holds f1 A1 (2 * p1)) = 0 then
        some ((-1), f1)
      else
        letv (f7_open f1 A1 (2 * p1)) fun z_1 =>
        f9_share_l50 f0 A0 A1 p1 p2 NF z_1 0 0
noncomputable def f9_commonDivisor_b7 (p0 : Int32) (p1 : Int32) (k7 : Int32 → Int32 → Int32 → Option (Int32)) (l2 : Int32) (l3 : Int32) (l4 : Int32) : Option (Int32) :=
  if 100 ≤ l4 then
    some (imax l2 1)
  else
    if l3 = 0 then
      some (imax l2 1)
    else
      if l3 = 0 then none else
      k7 l3 (irm l2 l3) (l4 + 1)
noncomputable def f9_commonDivisor_l7 (p0 : Int32) (p1 : Int32) : Nat → Int32 → Int32 → Int32 → Option (Int32)
  | 0 => fun _ _ _ => none
  | n + 1 => fun l2 l3 l4 => f9_commonDivisor_b7 p0 p1  (f9_commonDivisor_l7 p0 p1  n) l2 l3 l4
noncomputable def f9_commonDivisor (p0 : Int32) (p1 : Int32) : Option (Int32) :=
  f9_commonDivisor_l7 p0 p1 NF p0 p1 0
noncomputable def f9_odds_b131 (f0 : Nat → Int32) (A0 : Nat → Nat → Int32) (A1 : Nat → Nat → Int32) (p1 : Int32) (p2 : Int32) (f1 : Nat → Int32) (l5 : Int32) (l6 : Int32) : Option (Int32 × (Nat → Int32)) :=
  (f9_commonDivisor l6 l5).bind fun q_2 =>
  if (irm p2 2) = 0 then
    if q_2 = 0 then none else
    some (l6 / q_2, f1)
  else
    if q_2 = 0 then none else
    some (l5 / q_2, f1)
noncomputable def f9_odds_b51 (f0 : Nat → Int32) (A0 : Nat → Nat → Int32) (A1 : Nat → Nat → Int32) (p1 : Int32) (p2 : Int32) (k51 : (Nat → Int32) → Int32 → Int32 → Int32 → Int32 → Option (Int32 × (Nat → Int32))) (f1 : Nat → Int32) (l3 : Int32) (l4 : Int32) (l5 : Int32) (l6 : Int32) : Option (Int32 × (Nat → Int32)) :=
  if p1 ≤ l6 then
    if 4 ≤ p2 then
      f9_odds_b131 f0 A0 A1 p1 p2 f1 l5 (l5 - l4)
    else
      if 2 ≤ p2 then
        f9_odds_b131 f0 A0 A1 p1 p2 f1 l5 l4
      else
        f9_odds_b131 f0 A0 A1 p1 p2 f1 l5 l3
  else
    if (f7_byteAt f1 A1 l6) ≤ 10 then
      k51 f1 (l3 * (f7_byteAt f1 A1 l6)) (l4 * (10 - (f7_byteAt f1 A1 l6))) (l5 * 10) (l6 + 1)
    else
      some ((-2), f1)
noncomputable def f9_odds_l51 (f0 : Nat → Int32) (A0 : Nat → Nat → Int32) (A1 : Nat → Nat → Int32) (p1 : Int32) (p2 : Int32) : Nat → (Nat → Int32) → Int32 → Int32 → Int32 → Int32 → Option (Int32 × (Nat → Int32))
  | 0 => fun _ _ _ _ _ => none
  | n + 1 => fun f1 l3 l4 l5 l6 => f9_odds_b51 f0 A0 A1 p1 p2  (f9_odds_l51 f0 A0 A1 p1 p2  n) f1 l3 l4 l5 l6
noncomputable def f9_odds (f0 : Nat → Int32) (A0 : Nat → Nat → Int32) (f1 : Nat → Int32) (A1 : Nat → Nat → Int32) (p1 : Int32) (p2 : Int32) : Option (Int32 × (Nat → Int32)) :=
  if (f9_within p1 1 9) = 0 then
    some ((-1), f1)
  else
    if (f9_within p2 0 5) = 0 then
      some ((-1), f1)
    else
      if (f7_holds f1 A1 p1) = 0 then
        some ((-1), f1)
      else
        letv (f7_open f1 A1 p1) fun z_1 =>
        f9_odds_l51 f0 A0 A1 p1 p2 NF z_1 1 1 1 0
noncomputable def f10_in (p0 : Int32) (p1 : Int32) (p2 : Int32) : Int32 :=
  if p0 < p1 then
    0
  else
    if p2 < p0 then
      0
    else
      1
theorem f10_in_b (p0 : Int32) (p1 : Int32) (p2 : Int32) : f10_in p0 p1 p2 = 0 ∨ f10_in p0 p1 p2 = 1 := by
  unfold f10_in
  try simp only [letv]
  repeat' split
  all_goals first | exact Or.inl rfl | exact Or.inr rfl | (simp; done)
noncomputable def f10_min (p0 : Int32) (p1 : Int32) : Int32 :=
  if p1 ≤ p0 then
    p1
  else
    p0
noncomputable def f10_max (p0 : Int32) (p1 : Int32) : Int32 :=
  if p0 ≤ p1 then
    p1
  else
    p0
noncomputable def f10_has (p0 : Int32) (p1 : Int32) : Int32 :=
  if ((shr p0 p1) &&& 1) = 1 then
    1
  else
    0
theorem f10_has_b (p0 : Int32) (p1 : Int32) : f10_has p0 p1 = 0 ∨ f10_has p0 p1 = 1 := by
  unfold f10_has
  try simp only [letv]
  repeat' split
  all_goals first | exact Or.inl rfl | exact Or.inr rfl | (simp; done)
noncomputable def f10_bits_b4 (p0 : Int32) (k4 : Int32 → Int32 → Option (Int32)) (l1 : Int32) (l2 : Int32) : Option (Int32) :=
  if 16 ≤ l2 then
    some l1
  else
    k4 (l1 + ((shr p0 l2) &&& 1)) (l2 + 1)
noncomputable def f10_bits_l4 (p0 : Int32) : Nat → Int32 → Int32 → Option (Int32)
  | 0 => fun _ _ => none
  | n + 1 => fun l1 l2 => f10_bits_b4 p0  (f10_bits_l4 p0  n) l1 l2
noncomputable def f10_bits (p0 : Int32) : Option (Int32) :=
  f10_bits_l4 p0 NF 0 0
noncomputable def f10_copies_b2 (n0 : Nat) (xs0 : Nat → Int32) (n1 : Nat) (k2 : (Nat → Int32) → Int32 → Option ((Nat → Int32))) (xs1 : Nat → Int32) (l2 : Int32) : Option ((Nat → Int32)) :=
  if 76 ≤ l2 then
    some xs1
  else
    if l2 < 0 ∨ n0 ≤ (l2).toNatClampNeg then none else
    if l2 < 0 ∨ n1 ≤ (l2).toNatClampNeg then none else
    letv (ux xs1 l2 (gx xs0 l2)) fun y1_3 =>
    k2 y1_3 (l2 + 1)
noncomputable def f10_copies_l2 (n0 : Nat) (xs0 : Nat → Int32) (n1 : Nat) : Nat → (Nat → Int32) → Int32 → Option ((Nat → Int32))
  | 0 => fun _ _ => none
  | n + 1 => fun xs1 l2 => f10_copies_b2 n0 xs0 n1  (f10_copies_l2 n0 xs0 n1  n) xs1 l2
noncomputable def f10_copies (n0 : Nat) (xs0 : Nat → Int32) (n1 : Nat) (xs1 : Nat → Int32) : Option ((Nat → Int32)) :=
  f10_copies_l2 n0 xs0 n1 NF xs1 0
noncomputable def f10_isTold (f0 : Nat → Int32) (A0 : Nat → Nat → Int32) (p1 : Int32) : Int32 :=
  if (f10_in p1 0 15) = 0 then
    0
  else
    if (f10_has (f0 6) p1) = 0 then
      0
    else
      1
theorem f10_isTold_b (f0 : Nat → Int32) (A0 : Nat → Nat → Int32) (p1 : Int32) : f10_isTold f0 A0 p1 = 0 ∨ f10_isTold f0 A0 p1 = 1 := by
  unfold f10_isTold
  try simp only [letv]
  repeat' split
  all_goals first | exact Or.inl rfl | exact Or.inr rfl | (simp; done)
noncomputable def f10_isMan (f0 : Nat → Int32) (A0 : Nat → Nat → Int32) (p1 : Int32) : Option (Int32) :=
  if (f10_in p1 0 7) = 0 then
    some 0
  else
    if (48 + p1) < 0 ∨ 76 ≤ (48 + p1).toNatClampNeg then none else
    if (gx (A0 0) (48 + p1)) = 1 then
      some 1
    else
      some 0
noncomputable def f10_menAt_b4 (f0 : Nat → Int32) (A0 : Nat → Nat → Int32) (p1 : Int32) (k4 : Int32 → Int32 → Option (Int32)) (l2 : Int32) (l3 : Int32) : Option (Int32) :=
  if 8 ≤ l3 then
    some l2
  else
    (f10_isMan f0 A0 l3).bind fun q_1 =>
    if q_1 = 0 then
      k4 l2 (l3 + 1)
    else
      if (56 + l3) < 0 ∨ 76 ≤ (56 + l3).toNatClampNeg then none else
      if (gx (A0 0) (56 + l3)) = p1 then
        k4 (l2 ||| (shl 1 l3)) (l3 + 1)
      else
        k4 l2 (l3 + 1)
noncomputable def f10_menAt_l4 (f0 : Nat → Int32) (A0 : Nat → Nat → Int32) (p1 : Int32) : Nat → Int32 → Int32 → Option (Int32)
  | 0 => fun _ _ => none
  | n + 1 => fun l2 l3 => f10_menAt_b4 f0 A0 p1  (f10_menAt_l4 f0 A0 p1  n) l2 l3
noncomputable def f10_menAt (f0 : Nat → Int32) (A0 : Nat → Nat → Int32) (p1 : Int32) : Option (Int32) :=
  f10_menAt_l4 f0 A0 p1 NF 0 0
noncomputable def f10_guarded_b4 (f0 : Nat → Int32) (A0 : Nat → Nat → Int32) (k4 : Int32 → Int32 → Option (Int32)) (l1 : Int32) (l2 : Int32) : Option (Int32) :=
  if 8 ≤ l2 then
    some l1
  else
    (f10_isMan f0 A0 l2).bind fun q_1 =>
    if q_1 = 0 then
      k4 l1 (l2 + 1)
    else
      if (56 + l2) < 0 ∨ 76 ≤ (56 + l2).toNatClampNeg then none else
      k4 (l1 ||| (shl 1 (gx (A0 0) (56 + l2)))) (l2 + 1)
noncomputable def f10_guarded_l4 (f0 : Nat → Int32) (A0 : Nat → Nat → Int32) : Nat → Int32 → Int32 → Option (Int32)
  | 0 => fun _ _ => none
  | n + 1 => fun l1 l2 => f10_guarded_b4 f0 A0  (f10_guarded_l4 f0 A0  n) l1 l2
noncomputable def f10_guarded (f0 : Nat → Int32) (A0 : Nat → Nat → Int32) : Option (Int32) :=
  f10_guarded_l4 f0 A0 NF 0 0
noncomputable def f10_place (f0 : Nat → Int32) (A0 : Nat → Nat → Int32) (p1 : Int32) (p2 : Int32) (p3 : Int32) : Option (Int32 × (Nat → Nat → Int32) × (Nat → Int32)) :=
  if (f10_in p1 0 15) = 0 then
    some (0, A0, f0)
  else
    if (f10_in p2 0 99) = 0 then
      some (0, A0, f0)
    else
      if (f10_in p3 0 999) = 0 then
        some (0, A0, f0)
      else
        letv (upd f0 6 ((f0 6) ||| (shl 1 p1))) fun f0_1 =>
        if (0 + p1) < 0 ∨ 76 ≤ (0 + p1).toNatClampNeg then none else
        letv (updA A0 0 (ux (A0 0) (0 + p1) p2)) fun A0_3 =>
        if (16 + p1) < 0 ∨ 76 ≤ (16 + p1).toNatClampNeg then none else
        letv (updA A0_3 0 (ux (A0_3 0) (16 + p1) p3)) fun A0_5 =>
        some (1, A0_5, f0_1)
noncomputable def f10_constable (f0 : Nat → Int32) (A0 : Nat → Nat → Int32) (p1 : Int32) (p2 : Int32) : Option (Int32 × (Nat → Nat → Int32)) :=
  if (f10_in p1 0 7) = 0 then
    some (0, A0)
  else
    if (f10_isTold f0 A0 p2) = 0 then
      some (0, A0)
    else
      if (48 + p1) < 0 ∨ 76 ≤ (48 + p1).toNatClampNeg then none else
      letv (updA A0 0 (ux (A0 0) (48 + p1) 1)) fun A0_2 =>
      if (56 + p1) < 0 ∨ 76 ≤ (56 + p1).toNatClampNeg then none else
      letv (updA A0_2 0 (ux (A0_2 0) (56 + p1) p2)) fun A0_4 =>
      if (64 + p1) < 0 ∨ 76 ≤ (64 + p1).toNatClampNeg then none else
      letv (updA A0_4 0 (ux (A0_4 0) (64 + p1) 0)) fun A0_6 =>
      some (1, A0_6)
noncomputable def f10_types_b2 (p1 : Int32) (k2 : (Nat → Nat → Int32) → (Nat → Int32) → Int32 → Option ((Nat → Nat → Int32) × (Nat → Int32))) (A0 : Nat → Nat → Int32) (f0 : Nat → Int32) (l2 : Int32) : Option ((Nat → Nat → Int32) × (Nat → Int32)) :=
  if l2 < 0 then
    some (A0, f0)
  else
    if (f0 8) < 0 ∨ 260 ≤ (f0 8).toNatClampNeg then none else
    letv (updA A0 7 (ux (A0 7) (f0 8) (vp_nar .byte (i2b (shr p1 (8 * l2)))))) fun A0_2 =>
    letv (upd f0 8 ((f0 8) + 1)) fun f0_3 =>
    k2 A0_2 f0_3 (l2 + (-1))
noncomputable def f10_types_l2 (p1 : Int32) : Nat → (Nat → Nat → Int32) → (Nat → Int32) → Int32 → Option ((Nat → Nat → Int32) × (Nat → Int32))
  | 0 => fun _ _ _ => none
  | n + 1 => fun A0 f0 l2 => f10_types_b2 p1  (f10_types_l2 p1  n) A0 f0 l2
noncomputable def f10_types (f0 : Nat → Int32) (A0 : Nat → Nat → Int32) (p1 : Int32) : Option ((Nat → Nat → Int32) × (Nat → Int32)) :=
  f10_types_l2 p1 NF A0 f0 3
noncomputable def f10_feed (f0 : Nat → Int32) (A0 : Nat → Nat → Int32) (p1 : Int32) (p2 : Int32) (p3 : Int32) (p4 : Int32) (p5 : Int32) : Option (Int32 × (Nat → Nat → Int32) × (Nat → Int32)) :=
  if ((f0 8) + 20) ≤ 260 then
    (f10_types f0 A0 p1).bind fun q_1 =>
    (f10_types q_1.2 q_1.1 p2).bind fun q_2 =>
    (f10_types q_2.2 q_2.1 p3).bind fun q_3 =>
    (f10_types q_3.2 q_3.1 p4).bind fun q_4 =>
    (f10_types q_4.2 q_4.1 p5).bind fun q_5 =>
    some (q_5.2 8, q_5.1, q_5.2)
  else
    some ((-1), A0, f0)
noncomputable def f10_octet (f0 : Nat → Int32) (A0 : Nat → Nat → Int32) (p1 : Int32) : Option (Int32) :=
  if p1 < 0 ∨ 260 ≤ (p1).toNatClampNeg then none else
  some ((gx (A0 7) p1) &&& 255)
noncomputable def f10_here (f0 : Nat → Int32) (A0 : Nat → Nat → Int32) : Option (Int32) :=
  if (f0 10) ≤ (f0 9) then
    some (-1)
  else
    if (f0 9) < 0 ∨ 260 ≤ (f0 9).toNatClampNeg then none else
    some ((gx (A0 7) (f0 9)) &&& 255)
noncomputable def f10_isDigit (f0 : Nat → Int32) (A0 : Nat → Nat → Int32) : Option (Int32) :=
  (f10_here f0 A0).bind fun q_1 =>
  if q_1 < 48 then
    some 0
  else
    (f10_here f0 A0).bind fun q_2 =>
    if 57 < q_2 then
      some 0
    else
      some 1
noncomputable def f10_wrongAt (f0 : Nat → Int32) (A0 : Nat → Nat → Int32) (p1 : Int32) (p2 : Int32) : Option (Int32 × (Nat → Int32)) :=
  letv (upd f0 11 (((-1000) * p1) - p2)) fun f0_1 =>
  some (0, f0_1)
noncomputable def f10_takes (f0 : Nat → Int32) (A0 : Nat → Nat → Int32) (p1 : Int32) : Option (Int32 × (Nat → Int32)) :=
  (f10_here f0 A0).bind fun q_1 =>
  if q_1 = p1 then
    letv (upd f0 9 ((f0 9) + 1)) fun f0_2 =>
    some (1, f0_2)
  else
    (f10_wrongAt f0 A0 1 (f0 9)).bind fun q_3 =>
    if ¬ (q_3.1 = 0 ∨ q_3.1 = 1) then none else
    some (q_3.1, q_3.2)
noncomputable def f10_readsNumber_b10 (A0 : Nat → Nat → Int32) (k10 : (Nat → Int32) → Int32 → Option (Int32 × (Nat → Int32))) (f0 : Nat → Int32) (l1 : Int32) : Option (Int32 × (Nat → Int32)) :=
  (f10_isDigit f0 A0).bind fun q_2 =>
  if q_2 = 0 then
    some (1, f0)
  else
    if (f0 9) = (l1 + 5) then
      (f10_wrongAt f0 A0 2 (f0 9)).bind fun q_6 =>
      if ¬ (q_6.1 = 0 ∨ q_6.1 = 1) then none else
      some (q_6.1, q_6.2)
    else
      (f10_here f0 A0).bind fun q_3 =>
      letv (upd f0 12 (((10 * (f0 12)) + q_3) - 48)) fun f0_4 =>
      letv (upd f0_4 9 ((f0_4 9) + 1)) fun f0_5 =>
      k10 f0_5 l1
noncomputable def f10_readsNumber_l10 (A0 : Nat → Nat → Int32) : Nat → (Nat → Int32) → Int32 → Option (Int32 × (Nat → Int32))
  | 0 => fun _ _ => none
  | n + 1 => fun f0 l1 => f10_readsNumber_b10 A0  (f10_readsNumber_l10 A0  n) f0 l1
noncomputable def f10_readsNumber (f0 : Nat → Int32) (A0 : Nat → Nat → Int32) : Option (Int32 × (Nat → Int32)) :=
  letv (upd f0 12 0) fun f0_1 =>
  f10_readsNumber_l10 A0 NF f0_1 (f0 9)
noncomputable def f10_notes (f0 : Nat → Int32) (A0 : Nat → Nat → Int32) (p1 : Int32) (p2 : Int32) : Option ((Nat → Nat → Int32) × (Nat → Int32)) :=
  if (f0 14) < 0 ∨ 260 ≤ (f0 14).toNatClampNeg then none else
  letv (updA A0 18 (ux (A0 18) (f0 14) ((1048576 * p1) + p2))) fun A0_2 =>
  letv (upd f0 14 ((f0 14) + 1)) fun f0_3 =>
  some (A0_2, f0_3)
noncomputable def f10_opens (f0 : Nat → Int32) (A0 : Nat → Nat → Int32) (p1 : Int32) : Option (Int32 × (Nat → Nat → Int32) × (Nat → Int32)) :=
  if (f0 13) = 6 then
    (f10_wrongAt f0 A0 5 (f0 9)).bind fun q_6 =>
    if ¬ (q_6.1 = 0 ∨ q_6.1 = 1) then none else
    some (q_6.1, A0, q_6.2)
  else
    letv (upd f0 13 ((f0 13) + 1)) fun f0_1 =>
    if (f0_1 15) < 0 ∨ 260 ≤ (f0_1 15).toNatClampNeg then none else
    letv (updA A0 19 (ux (A0 19) (f0_1 15) (1048576 * p1))) fun A0_3 =>
    letv (upd f0_1 15 ((f0_1 15) + 1)) fun f0_4 =>
    letv (upd f0_4 9 ((f0_4 9) + 1)) fun f0_5 =>
    some (1, A0_3, f0_5)
noncomputable def f10_waitTop (f0 : Nat → Int32) (A0 : Nat → Nat → Int32) : Option (Int32) :=
  if (f0 15) = 0 then
    some (-1)
  else
    if ((f0 15) - 1) < 0 ∨ 260 ≤ ((f0 15) - 1).toNatClampNeg then none else
    some ((gx (A0 19) ((f0 15) - 1)) / 1048576)
noncomputable def f10_factOf (p0 : Int32) : Int32 :=
  if p0 = 99 then
    3
  else
  if p0 = 100 then
    7
  else
  if p0 = 103 then
    2
  else
  if p0 = 104 then
    6
  else
  if p0 = 108 then
    5
  else
  if p0 = 110 then
    4
  else
  if p0 = 112 then
    0
  else
  if p0 = 116 then
    1
  else
  (-1)
noncomputable def f10_sumSign (p0 : Int32) : Int32 :=
  if p0 = 43 then
    2
  else
    if p0 = 45 then
      3
    else
      if p0 = 42 then
        4
      else
        if p0 = 47 then
          5
        else
          if p0 = 37 then
            6
          else
            (-1)
noncomputable def f10_closesSums_b37 (p1 : Int32) (k0 : (Nat → Nat → Int32) → (Nat → Int32) → Option ((Nat → Nat → Int32) × (Nat → Int32))) (A0 : Nat → Nat → Int32) (f0 : Nat → Int32) : Option ((Nat → Nat → Int32) × (Nat → Int32)) :=
  (f10_waitTop f0 A0).bind fun q_3 =>
  (f10_notes f0 A0 q_3 0).bind fun q_4 =>
  letv (upd q_4.2 15 ((q_4.2 15) - 1)) fun f0_5 =>
  k0 q_4.1 f0_5
noncomputable def f10_closesSums_b17 (p1 : Int32) (k0 : (Nat → Nat → Int32) → (Nat → Int32) → Option ((Nat → Nat → Int32) × (Nat → Int32))) (A0 : Nat → Nat → Int32) (f0 : Nat → Int32) : Option ((Nat → Nat → Int32) × (Nat → Int32)) :=
  if p1 = 0 then
    some (A0, f0)
  else
    (f10_waitTop f0 A0).bind fun q_2 =>
    if q_2 = 2 then
      f10_closesSums_b37 p1 k0 A0 f0
    else
      (f10_waitTop f0 A0).bind fun q_6 =>
      if q_6 = 3 then
        f10_closesSums_b37 p1 k0 A0 f0
      else
        some (A0, f0)
noncomputable def f10_closesSums_b0 (p1 : Int32) (k0 : (Nat → Nat → Int32) → (Nat → Int32) → Option ((Nat → Nat → Int32) × (Nat → Int32))) (A0 : Nat → Nat → Int32) (f0 : Nat → Int32) : Option ((Nat → Nat → Int32) × (Nat → Int32)) :=
  (f10_waitTop f0 A0).bind fun q_1 =>
  if q_1 < 4 then
    f10_closesSums_b17 p1 k0 A0 f0
  else
    (f10_waitTop f0 A0).bind fun q_7 =>
    if q_7 ≤ 6 then
      f10_closesSums_b37 p1 k0 A0 f0
    else
      f10_closesSums_b17 p1 k0 A0 f0
noncomputable def f10_closesSums_l0 (p1 : Int32) : Nat → (Nat → Nat → Int32) → (Nat → Int32) → Option ((Nat → Nat → Int32) × (Nat → Int32))
  | 0 => fun _ _ => none
  | n + 1 => fun A0 f0 => f10_closesSums_b0 p1  (f10_closesSums_l0 p1  n) A0 f0
noncomputable def f10_closesSums (f0 : Nat → Int32) (A0 : Nat → Nat → Int32) (p1 : Int32) : Option ((Nat → Nat → Int32) × (Nat → Int32)) :=
  f10_closesSums_l0 p1 NF A0 f0
noncomputable def f10_readsFactor_b0 (k0 : (Nat → Nat → Int32) → (Nat → Int32) → Option (Int32 × (Nat → Nat → Int32) × (Nat → Int32))) (A0 : Nat → Nat → Int32) (f0 : Nat → Int32) : Option (Int32 × (Nat → Nat → Int32) × (Nat → Int32)) :=
  (f10_here f0 A0).bind fun q_1 =>
  if q_1 = 91 then
    (f10_opens f0 A0 14).bind fun q_9 =>
    if q_9.1 = 0 then
      some (0, q_9.2.1, q_9.2.2)
    else
      k0 q_9.2.1 q_9.2.2
  else
    (f10_isDigit f0 A0).bind fun q_2 =>
    if q_2 = 0 then
      (f10_here f0 A0).bind fun q_3 =>
      if (f10_factOf q_3) = (-1) then
        (f10_wrongAt f0 A0 1 (f0 9)).bind fun q_6 =>
        if ¬ (q_6.1 = 0 ∨ q_6.1 = 1) then none else
        some (q_6.1, A0, q_6.2)
      else
        (f10_notes f0 A0 1 (f10_factOf q_3)).bind fun q_4 =>
        letv (upd q_4.2 9 ((q_4.2 9) + 1)) fun f0_5 =>
        some (1, q_4.1, f0_5)
    else
      (f10_readsNumber f0 A0).bind fun q_7 =>
      if q_7.1 = 0 then
        some (0, A0, q_7.2)
      else
        (f10_notes q_7.2 A0 0 (q_7.2 12)).bind fun q_8 =>
        some (1, q_8.1, q_8.2)
noncomputable def f10_readsFactor_l0  : Nat → (Nat → Nat → Int32) → (Nat → Int32) → Option (Int32 × (Nat → Nat → Int32) × (Nat → Int32))
  | 0 => fun _ _ => none
  | n + 1 => fun A0 f0 => f10_readsFactor_b0   (f10_readsFactor_l0   n) A0 f0
noncomputable def f10_readsFactor (f0 : Nat → Int32) (A0 : Nat → Nat → Int32) : Option (Int32 × (Nat → Nat → Int32) × (Nat → Int32)) :=
  f10_readsFactor_l0 NF A0 f0
noncomputable def f10_hasOpenSum_b2 (f0 : Nat → Int32) (A0 : Nat → Nat → Int32) (p1 : Int32) (k2 : Int32 → Option (Int32)) (l2 : Int32) : Option (Int32) :=
  if (f0 15) ≤ l2 then
    some 0
  else
    if l2 < 0 ∨ 260 ≤ (l2).toNatClampNeg then none else
    if ((gx (A0 19) l2) / 1048576) = 14 then
      some 1
    else
      k2 (l2 + 1)
noncomputable def f10_hasOpenSum_l2 (f0 : Nat → Int32) (A0 : Nat → Nat → Int32) (p1 : Int32) : Nat → Int32 → Option (Int32)
  | 0 => fun _ => none
  | n + 1 => fun l2 => f10_hasOpenSum_b2 f0 A0 p1  (f10_hasOpenSum_l2 f0 A0 p1  n) l2
noncomputable def f10_hasOpenSum (f0 : Nat → Int32) (A0 : Nat → Nat → Int32) (p1 : Int32) : Option (Int32) :=
  f10_hasOpenSum_l2 f0 A0 p1 NF p1
noncomputable def f10_readsSum_b138 (A0 : Nat → Nat → Int32) (f0 : Nat → Int32) (l1 : Int32) : Option (Int32 × (Nat → Nat → Int32) × (Nat → Int32)) :=
  (f10_hasOpenSum f0 A0 l1).bind fun q_4 =>
  if q_4 = 0 then
    (f10_closesSums f0 A0 1).bind fun q_5 =>
    some (1, q_5.1, q_5.2)
  else
    (f10_wrongAt f0 A0 1 (f0 9)).bind fun q_6 =>
    if ¬ (q_6.1 = 0 ∨ q_6.1 = 1) then none else
    some (q_6.1, A0, q_6.2)
noncomputable def f10_readsSum_b38 (k14 : (Nat → Nat → Int32) → (Nat → Int32) → Int32 → Option (Int32 × (Nat → Nat → Int32) × (Nat → Int32))) (A0 : Nat → Nat → Int32) (f0 : Nat → Int32) (l1 : Int32) (l2 : Int32) (s0 : Int32) : Option (Int32 × (Nat → Nat → Int32) × (Nat → Int32)) :=
  (f10_closesSums f0 A0 s0).bind fun q_12 =>
  if (q_12.2 15) < 0 ∨ 260 ≤ (q_12.2 15).toNatClampNeg then none else
  letv (updA q_12.1 19 (ux (q_12.1 19) (q_12.2 15) (1048576 * l2))) fun A0_14 =>
  letv (upd q_12.2 15 ((q_12.2 15) + 1)) fun f0_15 =>
  letv (upd f0_15 9 ((f0_15 9) + 1)) fun f0_16 =>
  (f10_readsFactor f0_16 A0_14).bind fun q_17 =>
  if q_17.1 = 0 then
    some (0, q_17.2.1, q_17.2.2)
  else
    k14 q_17.2.1 q_17.2.2 l1
noncomputable def f10_readsSum_b14 (k14 : (Nat → Nat → Int32) → (Nat → Int32) → Int32 → Option (Int32 × (Nat → Nat → Int32) × (Nat → Int32))) (A0 : Nat → Nat → Int32) (f0 : Nat → Int32) (l1 : Int32) : Option (Int32 × (Nat → Nat → Int32) × (Nat → Int32)) :=
  (f10_here f0 A0).bind fun q_2 =>
  if (f10_sumSign q_2) = (-1) then
    (f10_here f0 A0).bind fun q_3 =>
    if q_3 = 93 then
      (f10_hasOpenSum f0 A0 l1).bind fun q_7 =>
      if q_7 = 0 then
        f10_readsSum_b138 A0 f0 l1
      else
        (f10_closesSums f0 A0 1).bind fun q_8 =>
        letv (upd q_8.2 15 ((q_8.2 15) - 1)) fun f0_9 =>
        letv (upd f0_9 13 ((f0_9 13) - 1)) fun f0_10 =>
        letv (upd f0_10 9 ((f0_10 9) + 1)) fun f0_11 =>
        k14 q_8.1 f0_11 l1
    else
      f10_readsSum_b138 A0 f0 l1
  else
    if 4 ≤ (f10_sumSign q_2) then
      f10_readsSum_b38 k14 A0 f0 l1 (f10_sumSign q_2) 0
    else
      f10_readsSum_b38 k14 A0 f0 l1 (f10_sumSign q_2) 1
noncomputable def f10_readsSum_l14  : Nat → (Nat → Nat → Int32) → (Nat → Int32) → Int32 → Option (Int32 × (Nat → Nat → Int32) × (Nat → Int32))
  | 0 => fun _ _ _ => none
  | n + 1 => fun A0 f0 l1 => f10_readsSum_b14   (f10_readsSum_l14   n) A0 f0 l1
noncomputable def f10_readsSum (f0 : Nat → Int32) (A0 : Nat → Nat → Int32) : Option (Int32 × (Nat → Nat → Int32) × (Nat → Int32)) :=
  (f10_readsFactor f0 A0).bind fun q_1 =>
  if q_1.1 = 0 then
    some (0, q_1.2.1, q_1.2.2)
  else
    f10_readsSum_l14 NF q_1.2.1 q_1.2.2 (f0 15)
noncomputable def f10_endsPiece_b0 (k0 : (Nat → Nat → Int32) → (Nat → Int32) → Option ((Nat → Nat → Int32) × (Nat → Int32))) (A0 : Nat → Nat → Int32) (f0 : Nat → Int32) : Option ((Nat → Nat → Int32) × (Nat → Int32)) :=
  (f10_waitTop f0 A0).bind fun q_1 =>
  if q_1 = 10 then
    (f10_notes f0 A0 10 0).bind fun q_2 =>
    letv (upd q_2.2 15 ((q_2.2 15) - 1)) fun f0_3 =>
    letv (upd f0_3 13 ((f0_3 13) - 1)) fun f0_4 =>
    k0 q_2.1 f0_4
  else
    some (A0, f0)
noncomputable def f10_endsPiece_l0  : Nat → (Nat → Nat → Int32) → (Nat → Int32) → Option ((Nat → Nat → Int32) × (Nat → Int32))
  | 0 => fun _ _ => none
  | n + 1 => fun A0 f0 => f10_endsPiece_b0   (f10_endsPiece_l0   n) A0 f0
noncomputable def f10_endsPiece (f0 : Nat → Int32) (A0 : Nat → Nat → Int32) : Option ((Nat → Nat → Int32) × (Nat → Int32)) :=
  f10_endsPiece_l0 NF A0 f0
noncomputable def f10_lands_b22 (p1 : Int32) (k0 : (Nat → Nat → Int32) → (Nat → Int32) → Option ((Nat → Nat → Int32) × (Nat → Int32))) (A0 : Nat → Nat → Int32) (f0 : Nat → Int32) : Option ((Nat → Nat → Int32) × (Nat → Int32)) :=
  if ((f0 15) - 1) < 0 ∨ 260 ≤ ((f0 15) - 1).toNatClampNeg then none else
  if (irm (gx (A0 19) ((f0 15) - 1)) 1048576) < 0 ∨ 260 ≤ (irm (gx (A0 19) ((f0 15) - 1)) 1048576).toNatClampNeg then none else
  if (irm (gx (A0 19) ((f0 15) - 1)) 1048576) < 0 ∨ 260 ≤ (irm (gx (A0 19) ((f0 15) - 1)) 1048576).toNatClampNeg then none else
  letv (updA A0 18 (ux (A0 18) (irm (gx (A0 19) ((f0 15) - 1)) 1048576) ((1048576 * ((gx (A0 18) (irm (gx (A0 19) ((f0 15) - 1)) 1048576)) / 1048576)) + (f0 14)))) fun A0_5 =>
  letv (upd f0 15 ((f0 15) - 1)) fun f0_6 =>
  k0 A0_5 f0_6
noncomputable def f10_lands_b0 (p1 : Int32) (k0 : (Nat → Nat → Int32) → (Nat → Int32) → Option ((Nat → Nat → Int32) × (Nat → Int32))) (A0 : Nat → Nat → Int32) (f0 : Nat → Int32) : Option ((Nat → Nat → Int32) × (Nat → Int32)) :=
  (f10_waitTop f0 A0).bind fun q_1 =>
  if q_1 = 11 then
    f10_lands_b22 p1 k0 A0 f0
  else
    if p1 = 0 then
      some (A0, f0)
    else
      (f10_waitTop f0 A0).bind fun q_7 =>
      if q_7 = 12 then
        f10_lands_b22 p1 k0 A0 f0
      else
        some (A0, f0)
noncomputable def f10_lands_l0 (p1 : Int32) : Nat → (Nat → Nat → Int32) → (Nat → Int32) → Option ((Nat → Nat → Int32) × (Nat → Int32))
  | 0 => fun _ _ => none
  | n + 1 => fun A0 f0 => f10_lands_b0 p1  (f10_lands_l0 p1  n) A0 f0
noncomputable def f10_lands (f0 : Nat → Int32) (A0 : Nat → Nat → Int32) (p1 : Int32) : Option ((Nat → Nat → Int32) × (Nat → Int32)) :=
  f10_lands_l0 p1 NF A0 f0
noncomputable def f10_jumps (f0 : Nat → Int32) (A0 : Nat → Nat → Int32) (p1 : Int32) : Option ((Nat → Nat → Int32) × (Nat → Int32)) :=
  if (f0 15) < 0 ∨ 260 ≤ (f0 15).toNatClampNeg then none else
  letv (updA A0 19 (ux (A0 19) (f0 15) ((1048576 * p1) + (f0 14)))) fun A0_2 =>
  letv (upd f0 15 ((f0 15) + 1)) fun f0_3 =>
  (f10_notes f0_3 A0_2 p1 0).bind fun q_4 =>
  letv (upd q_4.2 9 ((q_4.2 9) + 1)) fun f0_5 =>
  some (q_4.1, f0_5)
noncomputable def f10_readsCompared_b52 (A0 : Nat → Nat → Int32) (f0 : Nat → Int32) (s0 : Int32) : Option (Int32 × (Nat → Nat → Int32) × (Nat → Int32)) :=
  if s0 = (-1) then
    (f10_wrongAt f0 A0 1 (f0 9)).bind fun q_9 =>
    if ¬ (q_9.1 = 0 ∨ q_9.1 = 1) then none else
    some (q_9.1, A0, q_9.2)
  else
    letv (upd f0 9 ((f0 9) + 1)) fun f0_5 =>
    (f10_readsSum f0_5 A0).bind fun q_6 =>
    if q_6.1 = 0 then
      some (0, q_6.2.1, q_6.2.2)
    else
      (f10_notes q_6.2.2 q_6.2.1 s0 0).bind fun q_7 =>
      (f10_endsPiece q_7.2 q_7.1).bind fun q_8 =>
      some (1, q_8.1, q_8.2)
noncomputable def f10_readsCompared (f0 : Nat → Int32) (A0 : Nat → Nat → Int32) : Option (Int32 × (Nat → Nat → Int32) × (Nat → Int32)) :=
  (f10_readsSum f0 A0).bind fun q_1 =>
  if q_1.1 = 0 then
    some (0, q_1.2.1, q_1.2.2)
  else
    (f10_here q_1.2.2 q_1.2.1).bind fun q_2 =>
    if q_2 = 60 then
      f10_readsCompared_b52 q_1.2.1 q_1.2.2 7
    else
      (f10_here q_1.2.2 q_1.2.1).bind fun q_3 =>
      if q_3 = 62 then
        f10_readsCompared_b52 q_1.2.1 q_1.2.2 8
      else
        (f10_here q_1.2.2 q_1.2.1).bind fun q_4 =>
        if q_4 = 61 then
          f10_readsCompared_b52 q_1.2.1 q_1.2.2 9
        else
          f10_readsCompared_b52 q_1.2.1 q_1.2.2 (-1)
noncomputable def f10_readsCondition_b75 (k40 : (Nat → Nat → Int32) → (Nat → Int32) → Option (Int32 × (Nat → Nat → Int32) × (Nat → Int32))) (A0 : Nat → Nat → Int32) (f0 : Nat → Int32) (s0 : Int32) : Option (Int32 × (Nat → Nat → Int32) × (Nat → Int32)) :=
  (f10_opens f0 A0 s0).bind fun q_7 =>
  if q_7.1 = 0 then
    some (0, q_7.2.1, q_7.2.2)
  else
    k40 q_7.2.1 q_7.2.2
noncomputable def f10_readsCondition_b58 (k40 : (Nat → Nat → Int32) → (Nat → Int32) → Option (Int32 × (Nat → Nat → Int32) × (Nat → Int32))) (A0 : Nat → Nat → Int32) (f0 : Nat → Int32) : Option (Int32 × (Nat → Nat → Int32) × (Nat → Int32)) :=
  (f10_here f0 A0).bind fun q_6 =>
  if q_6 = 33 then
    f10_readsCondition_b75 k40 A0 f0 10
  else
    f10_readsCondition_b75 k40 A0 f0 13
noncomputable def f10_readsCondition_b195 (k40 : (Nat → Nat → Int32) → (Nat → Int32) → Option (Int32 × (Nat → Nat → Int32) × (Nat → Int32))) (A0 : Nat → Nat → Int32) (f0 : Nat → Int32) (s0 : Int32) : Option (Int32 × (Nat → Nat → Int32) × (Nat → Int32)) :=
  (f10_lands f0 A0 s0).bind fun q_13 =>
  (f10_here q_13.2 q_13.1).bind fun q_14 =>
  if q_14 = 38 then
    (f10_jumps q_13.2 q_13.1 11).bind fun q_16 =>
    k40 q_16.1 q_16.2
  else
    (f10_jumps q_13.2 q_13.1 12).bind fun q_15 =>
    k40 q_15.1 q_15.2
noncomputable def f10_readsCondition_b180 (k40 : (Nat → Nat → Int32) → (Nat → Int32) → Option (Int32 × (Nat → Nat → Int32) × (Nat → Int32))) (A0 : Nat → Nat → Int32) (f0 : Nat → Int32) : Option (Int32 × (Nat → Nat → Int32) × (Nat → Int32)) :=
  (f10_here f0 A0).bind fun q_12 =>
  if q_12 = 124 then
    f10_readsCondition_b195 k40 A0 f0 1
  else
    f10_readsCondition_b195 k40 A0 f0 0
noncomputable def f10_readsCondition_b92 (k40 : (Nat → Nat → Int32) → (Nat → Int32) → Option (Int32 × (Nat → Nat → Int32) × (Nat → Int32))) (k92 : (Nat → Nat → Int32) → (Nat → Int32) → Option (Int32 × (Nat → Nat → Int32) × (Nat → Int32))) (A0 : Nat → Nat → Int32) (f0 : Nat → Int32) : Option (Int32 × (Nat → Nat → Int32) × (Nat → Int32)) :=
  (f10_here f0 A0).bind fun q_10 =>
  if q_10 = 41 then
    (f10_lands f0 A0 1).bind fun q_19 =>
    letv (upd q_19.2 15 ((q_19.2 15) - 1)) fun f0_20 =>
    letv (upd f0_20 13 ((f0_20 13) - 1)) fun f0_21 =>
    letv (upd f0_21 9 ((f0_21 9) + 1)) fun f0_22 =>
    if (f0_22 15) = 0 then
      some (1, q_19.1, f0_22)
    else
      (f10_endsPiece f0_22 q_19.1).bind fun q_23 =>
      k92 q_23.1 q_23.2
  else
    (f10_here f0 A0).bind fun q_11 =>
    if q_11 = 38 then
      f10_readsCondition_b180 k40 A0 f0
    else
      (f10_here f0 A0).bind fun q_17 =>
      if q_17 = 124 then
        f10_readsCondition_b180 k40 A0 f0
      else
        (f10_wrongAt f0 A0 1 (f0 9)).bind fun q_18 =>
        if ¬ (q_18.1 = 0 ∨ q_18.1 = 1) then none else
        some (q_18.1, A0, q_18.2)
noncomputable def f10_readsCondition_l92 (k40 : (Nat → Nat → Int32) → (Nat → Int32) → Option (Int32 × (Nat → Nat → Int32) × (Nat → Int32))) : Nat → (Nat → Nat → Int32) → (Nat → Int32) → Option (Int32 × (Nat → Nat → Int32) × (Nat → Int32))
  | 0 => fun _ _ => none
  | n + 1 => fun A0 f0 => f10_readsCondition_b92  k40 (f10_readsCondition_l92  k40 n) A0 f0
noncomputable def f10_readsCondition_b40 (k40 : (Nat → Nat → Int32) → (Nat → Int32) → Option (Int32 × (Nat → Nat → Int32) × (Nat → Int32))) (A0 : Nat → Nat → Int32) (f0 : Nat → Int32) : Option (Int32 × (Nat → Nat → Int32) × (Nat → Int32)) :=
  (f10_here f0 A0).bind fun q_5 =>
  if q_5 = 33 then
    f10_readsCondition_b58 k40 A0 f0
  else
    (f10_here f0 A0).bind fun q_8 =>
    if q_8 = 40 then
      f10_readsCondition_b58 k40 A0 f0
    else
      (f10_readsCompared f0 A0).bind fun q_9 =>
      if q_9.1 = 0 then
        some (0, q_9.2.1, q_9.2.2)
      else
        f10_readsCondition_l92 k40 NF q_9.2.1 q_9.2.2
noncomputable def f10_readsCondition_l40  : Nat → (Nat → Nat → Int32) → (Nat → Int32) → Option (Int32 × (Nat → Nat → Int32) × (Nat → Int32))
  | 0 => fun _ _ => none
  | n + 1 => fun A0 f0 => f10_readsCondition_b40   (f10_readsCondition_l40   n) A0 f0
noncomputable def f10_readsCondition (f0 : Nat → Int32) (A0 : Nat → Nat → Int32) : Option (Int32 × (Nat → Nat → Int32) × (Nat → Int32)) :=
  (f10_here f0 A0).bind fun q_1 =>
  if q_1 = 40 then
    letv (upd f0 13 0) fun f0_2 =>
    letv (upd f0_2 15 0) fun f0_3 =>
    (f10_opens f0_3 A0 13).bind fun q_4 =>
    if q_4.1 = 0 then
      some (0, q_4.2.1, q_4.2.2)
    else
      f10_readsCondition_l40 NF q_4.2.1 q_4.2.2
  else
    (f10_wrongAt f0 A0 1 (f0 9)).bind fun q_24 =>
    if ¬ (q_24.1 = 0 ∨ q_24.1 = 1) then none else
    some (q_24.1, A0, q_24.2)
noncomputable def f10_readsRule_b110 (A0 : Nat → Nat → Int32) (f0 : Nat → Int32) : Option (Int32 × (Nat → Nat → Int32) × (Nat → Int32)) :=
  if (f0 16) < 0 ∨ 16 ≤ (f0 16).toNatClampNeg then none else
  letv (updA A0 22 (ux (A0 22) (f0 16) (f0 14))) fun A0_10 =>
  (f10_readsCondition f0 A0_10).bind fun q_11 =>
  if q_11.1 = 0 then
    some (0, q_11.2.1, q_11.2.2)
  else
    if (q_11.2.2 16) < 0 ∨ 16 ≤ (q_11.2.2 16).toNatClampNeg then none else
    letv (updA q_11.2.1 23 (ux (q_11.2.1 23) (q_11.2.2 16) (q_11.2.2 14))) fun A0_13 =>
    letv (upd q_11.2.2 16 ((q_11.2.2 16) + 1)) fun f0_14 =>
    some (1, A0_13, f0_14)
noncomputable def f10_readsRule_b33 (A0 : Nat → Nat → Int32) (f0 : Nat → Int32) (l1 : Int32) : Option (Int32 × (Nat → Nat → Int32) × (Nat → Int32)) :=
  if (f0 16) = 16 then
    (f10_wrongAt f0 A0 4 (f0 9)).bind fun q_16 =>
    if ¬ (q_16.1 = 0 ∨ q_16.1 = 1) then none else
    some (q_16.1, A0, q_16.2)
  else
    if (f0 16) < 0 ∨ 16 ≤ (f0 16).toNatClampNeg then none else
    letv (updA A0 20 (ux (A0 20) (f0 16) l1)) fun A0_3 =>
    letv (upd f0 9 ((f0 9) + 1)) fun f0_4 =>
    if (f0_4 16) < 0 ∨ 16 ≤ (f0_4 16).toNatClampNeg then none else
    letv (updA A0_3 21 (ux (A0_3 21) (f0_4 16) (f0_4 14))) fun A0_6 =>
    letv (upd f0_4 13 0) fun f0_7 =>
    letv (upd f0_7 15 0) fun f0_8 =>
    if l1 = 115 then
      f10_readsRule_b110 A0_6 f0_8
    else
      (f10_readsSum f0_8 A0_6).bind fun q_15 =>
      if q_15.1 = 0 then
        some (0, q_15.2.1, q_15.2.2)
      else
        f10_readsRule_b110 q_15.2.1 q_15.2.2
noncomputable def f10_readsRule (f0 : Nat → Int32) (A0 : Nat → Nat → Int32) : Option (Int32 × (Nat → Nat → Int32) × (Nat → Int32)) :=
  (f10_here f0 A0).bind fun q_1 =>
  if q_1 = 119 then
    f10_readsRule_b33 A0 f0 q_1
  else
    if q_1 = 114 then
      f10_readsRule_b33 A0 f0 q_1
    else
      if q_1 = 115 then
        f10_readsRule_b33 A0 f0 q_1
      else
        (f10_wrongAt f0 A0 1 (f0 9)).bind fun q_17 =>
        if ¬ (q_17.1 = 0 ∨ q_17.1 = 1) then none else
        some (q_17.1, A0, q_17.2)
noncomputable def f10_beginsText (f0 : Nat → Int32) (A0 : Nat → Nat → Int32) (p1 : Int32) : (Nat → Int32) :=
  letv (upd f0 9 0) fun f0_1 =>
  letv (upd f0_1 10 p1) fun f0_2 =>
  letv (upd f0_2 14 0) fun f0_3 =>
  letv (upd f0_3 16 0) fun f0_4 =>
  f0_4
noncomputable def f10_law_b123 (p1 : Int32) (k123 : (Nat → Nat → Int32) → (Nat → Int32) → Int32 → Option (Int32 × (Nat → Nat → Int32) × (Nat → Int32))) (A0 : Nat → Nat → Int32) (f0 : Nat → Int32) (l3 : Int32) : Option (Int32 × (Nat → Nat → Int32) × (Nat → Int32)) :=
  if (f0 16) ≤ l3 then
    some (f0 16, A0, f0)
  else
    if l3 < 0 ∨ 16 ≤ (l3).toNatClampNeg then none else
    if l3 < 0 ∨ 16 ≤ (l3).toNatClampNeg then none else
    letv (updA A0 25 (ux (A0 25) l3 (gx (A0 20) l3))) fun A0_7 =>
    if l3 < 0 ∨ 16 ≤ (l3).toNatClampNeg then none else
    if l3 < 0 ∨ 16 ≤ (l3).toNatClampNeg then none else
    letv (updA A0_7 26 (ux (A0_7 26) l3 (gx (A0_7 21) l3))) fun A0_10 =>
    if l3 < 0 ∨ 16 ≤ (l3).toNatClampNeg then none else
    if l3 < 0 ∨ 16 ≤ (l3).toNatClampNeg then none else
    letv (updA A0_10 27 (ux (A0_10 27) l3 (gx (A0_10 22) l3))) fun A0_13 =>
    if l3 < 0 ∨ 16 ≤ (l3).toNatClampNeg then none else
    if l3 < 0 ∨ 16 ≤ (l3).toNatClampNeg then none else
    letv (updA A0_13 28 (ux (A0_13 28) l3 (gx (A0_13 23) l3))) fun A0_16 =>
    k123 A0_16 f0 (l3 + 1)
noncomputable def f10_law_l123 (p1 : Int32) : Nat → (Nat → Nat → Int32) → (Nat → Int32) → Int32 → Option (Int32 × (Nat → Nat → Int32) × (Nat → Int32))
  | 0 => fun _ _ _ => none
  | n + 1 => fun A0 f0 l3 => f10_law_b123 p1  (f10_law_l123 p1  n) A0 f0 l3
noncomputable def f10_law_b95 (p1 : Int32) (k95 : (Nat → Nat → Int32) → (Nat → Int32) → Int32 → Option (Int32 × (Nat → Nat → Int32) × (Nat → Int32))) (A0 : Nat → Nat → Int32) (f0 : Nat → Int32) (l3 : Int32) : Option (Int32 × (Nat → Nat → Int32) × (Nat → Int32)) :=
  if (f0 14) ≤ l3 then
    f10_law_l123 p1 NF A0 f0 0
  else
    if l3 < 0 ∨ 260 ≤ (l3).toNatClampNeg then none else
    if l3 < 0 ∨ 260 ≤ (l3).toNatClampNeg then none else
    letv (updA A0 24 (ux (A0 24) l3 (gx (A0 18) l3))) fun A0_19 =>
    k95 A0_19 f0 (l3 + 1)
noncomputable def f10_law_l95 (p1 : Int32) : Nat → (Nat → Nat → Int32) → (Nat → Int32) → Int32 → Option (Int32 × (Nat → Nat → Int32) × (Nat → Int32))
  | 0 => fun _ _ _ => none
  | n + 1 => fun A0 f0 l3 => f10_law_b95 p1  (f10_law_l95 p1  n) A0 f0 l3
noncomputable def f10_law_b71 (p1 : Int32) (A0 : Nat → Nat → Int32) (f0 : Nat → Int32) (l2 : Int32) : Option (Int32 × (Nat → Nat → Int32) × (Nat → Int32)) :=
  letv (upd f0 8 0) fun f0_3 =>
  if l2 = 0 then
    some (f0_3 11, A0, f0_3)
  else
    letv (upd f0_3 17 (f0_3 16)) fun f0_4 =>
    f10_law_l95 p1 NF A0 f0_4 0
noncomputable def f10_law_b31 (p1 : Int32) (k31 : (Nat → Nat → Int32) → (Nat → Int32) → Int32 → Option (Int32 × (Nat → Nat → Int32) × (Nat → Int32))) (A0 : Nat → Nat → Int32) (f0 : Nat → Int32) (l2 : Int32) : Option (Int32 × (Nat → Nat → Int32) × (Nat → Int32)) :=
  if l2 = 0 then
    f10_law_b71 p1 A0 f0 l2
  else
    if (f0 10) ≤ (f0 9) then
      f10_law_b71 p1 A0 f0 l2
    else
      (f10_takes f0 A0 59).bind fun q_20 =>
      if q_20.1 = 0 then
        k31 A0 q_20.2 0
      else
        (f10_readsRule q_20.2 A0).bind fun q_21 =>
        if q_21.1 = 0 then
          k31 q_21.2.1 q_21.2.2 0
        else
          k31 q_21.2.1 q_21.2.2 1
noncomputable def f10_law_l31 (p1 : Int32) : Nat → (Nat → Nat → Int32) → (Nat → Int32) → Int32 → Option (Int32 × (Nat → Nat → Int32) × (Nat → Int32))
  | 0 => fun _ _ _ => none
  | n + 1 => fun A0 f0 l2 => f10_law_b31 p1  (f10_law_l31 p1  n) A0 f0 l2
noncomputable def f10_law (f0 : Nat → Int32) (A0 : Nat → Nat → Int32) (p1 : Int32) : Option (Int32 × (Nat → Nat → Int32) × (Nat → Int32)) :=
  if (f10_in p1 1 240) = 0 then
    some ((-1), A0, f0)
  else
    if p1 ≤ (f0 8) then
      letv (f10_beginsText f0 A0 p1) fun z_1 =>
      (f10_readsRule z_1 A0).bind fun q_2 =>
      f10_law_l31 p1 NF q_2.2.1 q_2.2.2 q_2.1
    else
      some ((-1), A0, f0)
noncomputable def f10_reckon (p0 : Int32) (p1 : Int32) (p2 : Int32) : Option (Int32) :=
  if p0 = 2 then
    some (p1 + p2)
  else
  if p0 = 3 then
    some (p1 - p2)
  else
  if p0 = 4 then
    some (p1 * p2)
  else
  if p0 = 5 then
    if p2 = 0 then none else
    some (p1 / p2)
  else
  if p0 = 6 then
    if p2 = 0 then none else
    some (irm p1 p2)
  else
  if p0 = 7 then
    if p2 ≤ p1 then
      some 0
    else
      some 1
  else
  if p0 = 8 then
    if p1 ≤ p2 then
      some 0
    else
      some 1
  else
  if p1 = p2 then
    some 1
  else
    some 0
noncomputable def f10_comesTo_b63 (f0 : Nat → Int32) (p1 : Int32) (p2 : Int32) (k16 : (Nat → Nat → Int32) → Int32 → Int32 → Int32 → Option (Int32 × (Nat → Nat → Int32))) (A0 : Nat → Nat → Int32) (l3 : Int32) (l4 : Int32) (l5 : Int32) (l6 : Int32) (l7 : Int32) : Option (Int32 × (Nat → Nat → Int32)) :=
  if l6 = 0 then
    if l3 < 0 ∨ 260 ≤ (l3).toNatClampNeg then none else
    letv (updA A0 29 (ux (A0 29) l3 l7)) fun A0_7 =>
    k16 A0_7 (l3 + 1) l4 l5
  else
    if l7 < 0 ∨ 8 ≤ (l7).toNatClampNeg then none else
    if l3 < 0 ∨ 260 ≤ (l3).toNatClampNeg then none else
    letv (updA A0 29 (ux (A0 29) l3 (gx (A0 30) l7))) fun A0_5 =>
    k16 A0_5 (l3 + 1) l4 l5
noncomputable def f10_comesTo_b155 (f0 : Nat → Int32) (p1 : Int32) (p2 : Int32) (k16 : (Nat → Nat → Int32) → Int32 → Int32 → Int32 → Option (Int32 × (Nat → Nat → Int32))) (A0 : Nat → Nat → Int32) (l3 : Int32) (l4 : Int32) (l5 : Int32) (l7 : Int32) (s0 : Int32) (s1 : Int32) : Option (Int32 × (Nat → Nat → Int32)) :=
  if s1 = s0 then
    k16 A0 l3 l4 (l4 + l7)
  else
    k16 A0 (l3 - 1) l4 l5
noncomputable def f10_comesTo_b135 (f0 : Nat → Int32) (p1 : Int32) (p2 : Int32) (k16 : (Nat → Nat → Int32) → Int32 → Int32 → Int32 → Option (Int32 × (Nat → Nat → Int32))) (A0 : Nat → Nat → Int32) (l3 : Int32) (l4 : Int32) (l5 : Int32) (l6 : Int32) (l7 : Int32) : Option (Int32 × (Nat → Nat → Int32)) :=
  if (l3 - 1) < 0 ∨ 260 ≤ (l3 - 1).toNatClampNeg then none else
  if l6 = 12 then
    f10_comesTo_b155 f0 p1 p2 k16 A0 l3 l4 l5 l7 1 (gx (A0 29) (l3 - 1))
  else
    f10_comesTo_b155 f0 p1 p2 k16 A0 l3 l4 l5 l7 0 (gx (A0 29) (l3 - 1))
noncomputable def f10_comesTo_b203 (f0 : Nat → Int32) (p1 : Int32) (p2 : Int32) (k16 : (Nat → Nat → Int32) → Int32 → Int32 → Int32 → Option (Int32 × (Nat → Nat → Int32))) (A0 : Nat → Nat → Int32) (l3 : Int32) (l4 : Int32) (l5 : Int32) (l6 : Int32) : Option (Int32 × (Nat → Nat → Int32)) :=
  if (l3 - 1) < 0 ∨ 260 ≤ (l3 - 1).toNatClampNeg then none else
  if l3 < 0 ∨ 260 ≤ (l3).toNatClampNeg then none else
  (f10_reckon l6 (gx (A0 29) (l3 - 1)) (gx (A0 29) l3)).bind fun q_12 =>
  if (l3 - 1) < 0 ∨ 260 ≤ (l3 - 1).toNatClampNeg then none else
  letv (updA A0 29 (ux (A0 29) (l3 - 1) q_12)) fun A0_14 =>
  k16 A0_14 l3 l4 l5
noncomputable def f10_comesTo_b16 (f0 : Nat → Int32) (p1 : Int32) (p2 : Int32) (k16 : (Nat → Nat → Int32) → Int32 → Int32 → Int32 → Option (Int32 × (Nat → Nat → Int32))) (A0 : Nat → Nat → Int32) (l3 : Int32) (l4 : Int32) (l5 : Int32) : Option (Int32 × (Nat → Nat → Int32)) :=
  if p2 ≤ l5 then
    some (gx (A0 29) 0, A0)
  else
    if l5 < 0 ∨ 260 ≤ (l5).toNatClampNeg then none else
    if l5 < 0 ∨ 260 ≤ (l5).toNatClampNeg then none else
    if ((gx (A0 24) l5) / 1048576) = 0 then
      f10_comesTo_b63 f0 p1 p2 k16 A0 l3 l4 (l5 + 1) ((gx (A0 24) l5) / 1048576) (irm (gx (A0 24) l5) 1048576)
    else
      if ((gx (A0 24) l5) / 1048576) = 1 then
        f10_comesTo_b63 f0 p1 p2 k16 A0 l3 l4 (l5 + 1) ((gx (A0 24) l5) / 1048576) (irm (gx (A0 24) l5) 1048576)
      else
        if ((gx (A0 24) l5) / 1048576) = 10 then
          if (l3 - 1) < 0 ∨ 260 ≤ (l3 - 1).toNatClampNeg then none else
          if (l3 - 1) < 0 ∨ 260 ≤ (l3 - 1).toNatClampNeg then none else
          letv (updA A0 29 (ux (A0 29) (l3 - 1) (1 - (gx (A0 29) (l3 - 1))))) fun A0_18 =>
          k16 A0_18 l3 l4 (l5 + 1)
        else
          if ((gx (A0 24) l5) / 1048576) = 11 then
            f10_comesTo_b135 f0 p1 p2 k16 A0 l3 l4 (l5 + 1) ((gx (A0 24) l5) / 1048576) (irm (gx (A0 24) l5) 1048576)
          else
            if ((gx (A0 24) l5) / 1048576) = 12 then
              f10_comesTo_b135 f0 p1 p2 k16 A0 l3 l4 (l5 + 1) ((gx (A0 24) l5) / 1048576) (irm (gx (A0 24) l5) 1048576)
            else
              if ((gx (A0 24) l5) / 1048576) = 5 then
                if (l3 - 1) < 0 ∨ 260 ≤ (l3 - 1).toNatClampNeg then none else
                if (gx (A0 29) (l3 - 1)) = 0 then
                  some (0, A0)
                else
                  f10_comesTo_b203 f0 p1 p2 k16 A0 (l3 - 1) l4 (l5 + 1) ((gx (A0 24) l5) / 1048576)
              else
                if ((gx (A0 24) l5) / 1048576) = 6 then
                  if (l3 - 1) < 0 ∨ 260 ≤ (l3 - 1).toNatClampNeg then none else
                  if (gx (A0 29) (l3 - 1)) = 0 then
                    some (0, A0)
                  else
                    f10_comesTo_b203 f0 p1 p2 k16 A0 (l3 - 1) l4 (l5 + 1) ((gx (A0 24) l5) / 1048576)
                else
                  f10_comesTo_b203 f0 p1 p2 k16 A0 (l3 - 1) l4 (l5 + 1) ((gx (A0 24) l5) / 1048576)
noncomputable def f10_comesTo_l16 (f0 : Nat → Int32) (p1 : Int32) (p2 : Int32) : Nat → (Nat → Nat → Int32) → Int32 → Int32 → Int32 → Option (Int32 × (Nat → Nat → Int32))
  | 0 => fun _ _ _ _ => none
  | n + 1 => fun A0 l3 l4 l5 => f10_comesTo_b16 f0 p1 p2  (f10_comesTo_l16 f0 p1 p2  n) A0 l3 l4 l5
noncomputable def f10_comesTo (f0 : Nat → Int32) (A0 : Nat → Nat → Int32) (p1 : Int32) (p2 : Int32) : Option (Int32 × (Nat → Nat → Int32)) :=
  f10_comesTo_l16 f0 p1 p2 NF A0 0 (260 * (p1 / 260)) p1
noncomputable def f10_byLaw_b2 (f0 : Nat → Int32) (p1 : Int32) (p2 : Int32) (k2 : (Nat → Nat → Int32) → Int32 → Option (Int32 × (Nat → Nat → Int32))) (A0 : Nat → Nat → Int32) (l3 : Int32) : Option (Int32 × (Nat → Nat → Int32)) :=
  if (f0 17) ≤ l3 then
    some (0, A0)
  else
    if l3 < 0 ∨ 16 ≤ (l3).toNatClampNeg then none else
    if (gx (A0 25) l3) = p1 then
      if l3 < 0 ∨ 16 ≤ (l3).toNatClampNeg then none else
      if l3 < 0 ∨ 16 ≤ (l3).toNatClampNeg then none else
      (f10_comesTo f0 A0 (gx (A0 27) l3) (gx (A0 28) l3)).bind fun q_4 =>
      if q_4.1 = 1 then
        if l3 < 0 ∨ 16 ≤ (l3).toNatClampNeg then none else
        if l3 < 0 ∨ 16 ≤ (l3).toNatClampNeg then none else
        (f10_comesTo f0 q_4.2 (gx (q_4.2 26) l3) (gx (q_4.2 27) l3)).bind fun q_7 =>
        if 0 ≤ q_7.1 then
          if q_7.1 ≤ p2 then
            some (q_7.1, q_7.2)
          else
            some (p2, q_7.2)
        else
          some (0, q_7.2)
      else
        k2 q_4.2 (l3 + 1)
    else
      k2 A0 (l3 + 1)
noncomputable def f10_byLaw_l2 (f0 : Nat → Int32) (p1 : Int32) (p2 : Int32) : Nat → (Nat → Nat → Int32) → Int32 → Option (Int32 × (Nat → Nat → Int32))
  | 0 => fun _ _ => none
  | n + 1 => fun A0 l3 => f10_byLaw_b2 f0 p1 p2  (f10_byLaw_l2 f0 p1 p2  n) A0 l3
noncomputable def f10_byLaw (f0 : Nat → Int32) (A0 : Nat → Nat → Int32) (p1 : Int32) (p2 : Int32) : Option (Int32 × (Nat → Nat → Int32)) :=
  f10_byLaw_l2 f0 p1 p2 NF A0 0
noncomputable def f10_holdsAny_b2 (f0 : Nat → Int32) (p1 : Int32) (k2 : (Nat → Nat → Int32) → Int32 → Option (Int32 × (Nat → Nat → Int32))) (A0 : Nat → Nat → Int32) (l2 : Int32) : Option (Int32 × (Nat → Nat → Int32)) :=
  if (f0 17) ≤ l2 then
    some (0, A0)
  else
    if l2 < 0 ∨ 16 ≤ (l2).toNatClampNeg then none else
    if (gx (A0 25) l2) = p1 then
      if l2 < 0 ∨ 16 ≤ (l2).toNatClampNeg then none else
      if l2 < 0 ∨ 16 ≤ (l2).toNatClampNeg then none else
      (f10_comesTo f0 A0 (gx (A0 27) l2) (gx (A0 28) l2)).bind fun q_4 =>
      if q_4.1 = 1 then
        some (1, q_4.2)
      else
        k2 q_4.2 (l2 + 1)
    else
      k2 A0 (l2 + 1)
noncomputable def f10_holdsAny_l2 (f0 : Nat → Int32) (p1 : Int32) : Nat → (Nat → Nat → Int32) → Int32 → Option (Int32 × (Nat → Nat → Int32))
  | 0 => fun _ _ => none
  | n + 1 => fun A0 l2 => f10_holdsAny_b2 f0 p1  (f10_holdsAny_l2 f0 p1  n) A0 l2
noncomputable def f10_holdsAny (f0 : Nat → Int32) (A0 : Nat → Nat → Int32) (p1 : Int32) : Option (Int32 × (Nat → Nat → Int32)) :=
  f10_holdsAny_l2 f0 p1 NF A0 0
noncomputable def f10_menNear_b4 (f0 : Nat → Int32) (A0 : Nat → Nat → Int32) (p1 : Int32) (k4 : Int32 → Int32 → Option (Int32)) (l2 : Int32) (l3 : Int32) : Option (Int32) :=
  if 16 ≤ l3 then
    some l2
  else
    if p1 < 0 ∨ 16 ≤ (p1).toNatClampNeg then none else
    if (f10_has (gx (A0 3) p1) l3) = 0 then
      k4 l2 (l3 + 1)
    else
      (f10_menAt f0 A0 l3).bind fun q_2 =>
      (f10_bits q_2).bind fun q_3 =>
      k4 (l2 + q_3) (l3 + 1)
noncomputable def f10_menNear_l4 (f0 : Nat → Int32) (A0 : Nat → Nat → Int32) (p1 : Int32) : Nat → Int32 → Int32 → Option (Int32)
  | 0 => fun _ _ => none
  | n + 1 => fun l2 l3 => f10_menNear_b4 f0 A0 p1  (f10_menNear_l4 f0 A0 p1  n) l2 l3
noncomputable def f10_menNear (f0 : Nat → Int32) (A0 : Nat → Nat → Int32) (p1 : Int32) : Option (Int32) :=
  f10_menNear_l4 f0 A0 p1 NF 0 0
noncomputable def f10_feels (f0 : Nat → Int32) (A0 : Nat → Nat → Int32) (p1 : Int32) : Option ((Nat → Nat → Int32)) :=
  letv (updA A0 30 (ux (A0 30) 0 p1)) fun A0_1 =>
  if (0 + p1) < 0 ∨ 76 ≤ (0 + p1).toNatClampNeg then none else
  letv (updA A0_1 30 (ux (A0_1 30) 1 (gx (A0_1 0) (0 + p1)))) fun A0_3 =>
  if (16 + p1) < 0 ∨ 76 ≤ (16 + p1).toNatClampNeg then none else
  letv (updA A0_3 30 (ux (A0_3 30) 2 (gx (A0_3 0) (16 + p1)))) fun A0_5 =>
  (f10_menAt f0 A0_5 p1).bind fun q_6 =>
  (f10_bits q_6).bind fun q_7 =>
  letv (updA A0_5 30 (ux (A0_5 30) 3 q_7)) fun A0_8 =>
  (f10_menNear f0 A0_8 p1).bind fun q_9 =>
  letv (updA A0_8 30 (ux (A0_8 30) 4 q_9)) fun A0_10 =>
  if (32 + p1) < 0 ∨ 76 ≤ (32 + p1).toNatClampNeg then none else
  letv (updA A0_10 30 (ux (A0_10 30) 5 (gx (A0_10 0) (32 + p1)))) fun A0_12 =>
  letv (updA A0_12 30 (ux (A0_12 30) 6 (irm (gx (A0_12 0) 74) 24))) fun A0_13 =>
  letv (updA A0_13 30 (ux (A0_13 30) 7 (gx (A0_13 0) 73))) fun A0_14 =>
  some A0_14
noncomputable def f10_readsTimes (f0 : Nat → Int32) (A0 : Nat → Nat → Int32) : Option ((Nat → Int32)) :=
  letv (upd f0 37 (f0 9)) fun f0_1 =>
  letv (upd f0_1 38 1) fun f0_2 =>
  (f10_here f0_2 A0).bind fun q_3 =>
  if (f10_in q_3 50 57) = 0 then
    some f0_2
  else
    (f10_here f0_2 A0).bind fun q_4 =>
    letv (upd f0_2 38 (q_4 - 48)) fun f0_5 =>
    letv (upd f0_5 9 ((f0_5 9) + 1)) fun f0_6 =>
    some f0_6
noncomputable def f10_repeats_b31 (p1 : Int32) (p2 : Int32) (p3 : Int32) (k31 : (Nat → Nat → Int32) → (Nat → Int32) → Int32 → Int32 → Option (Int32 × (Nat → Nat → Int32) × (Nat → Int32))) (A0 : Nat → Nat → Int32) (f0 : Nat → Int32) (l4 : Int32) (l5 : Int32) : Option (Int32 × (Nat → Nat → Int32) × (Nat → Int32)) :=
  if (l4 * p2) ≤ l5 then
    letv (upd f0 35 (p1 + (l4 * p2))) fun f0_1 =>
    some (1, A0, f0_1)
  else
    if ((p1 + l5) - l4) < 0 ∨ 48 ≤ ((p1 + l5) - l4).toNatClampNeg then none else
    if (p1 + l5) < 0 ∨ 48 ≤ (p1 + l5).toNatClampNeg then none else
    letv (updA A0 31 (ux (A0 31) (p1 + l5) (gx (A0 31) ((p1 + l5) - l4)))) fun A0_4 =>
    k31 A0_4 f0 l4 (l5 + 1)
noncomputable def f10_repeats_l31 (p1 : Int32) (p2 : Int32) (p3 : Int32) : Nat → (Nat → Nat → Int32) → (Nat → Int32) → Int32 → Int32 → Option (Int32 × (Nat → Nat → Int32) × (Nat → Int32))
  | 0 => fun _ _ _ _ => none
  | n + 1 => fun A0 f0 l4 l5 => f10_repeats_b31 p1 p2 p3  (f10_repeats_l31 p1 p2 p3  n) A0 f0 l4 l5
noncomputable def f10_repeats (f0 : Nat → Int32) (A0 : Nat → Nat → Int32) (p1 : Int32) (p2 : Int32) (p3 : Int32) : Option (Int32 × (Nat → Nat → Int32) × (Nat → Int32)) :=
  if (p1 + (((f0 35) - p1) * p2)) ≤ 48 then
    f10_repeats_l31 p1 p2 p3 NF A0 f0 ((f0 35) - p1) ((f0 35) - p1)
  else
    (f10_wrongAt f0 A0 6 p3).bind fun q_5 =>
    if ¬ (q_5.1 = 0 ∨ q_5.1 = 1) then none else
    some (q_5.1, A0, q_5.2)
noncomputable def f10_readsStep_b218 (k218 : (Nat → Nat → Int32) → (Nat → Int32) → Option (Int32 × (Nat → Nat → Int32) × (Nat → Int32))) (A0 : Nat → Nat → Int32) (f0 : Nat → Int32) : Option (Int32 × (Nat → Nat → Int32) × (Nat → Int32)) :=
  (f10_here f0 A0).bind fun q_9 =>
  if q_9 = 41 then
    if (f0 36) ≤ 0 then
      some (1, A0, f0)
    else
      letv (upd f0 9 ((f0 9) + 1)) fun f0_10 =>
      letv (upd f0_10 36 ((f0_10 36) - 1)) fun f0_11 =>
      if (f0_11 36) < 0 ∨ 2 ≤ (f0_11 36).toNatClampNeg then none else
      if (f0_11 36) < 0 ∨ 2 ≤ (f0_11 36).toNatClampNeg then none else
      if (f0_11 36) < 0 ∨ 2 ≤ (f0_11 36).toNatClampNeg then none else
      (f10_repeats f0_11 A0 (gx (A0 33) (f0_11 36)) (gx (A0 34) (f0_11 36)) (gx (A0 32) (f0_11 36))).bind fun q_15 =>
      if q_15.1 = 0 then
        some (0, q_15.2.1, q_15.2.2)
      else
        k218 q_15.2.1 q_15.2.2
  else
    some (1, A0, f0)
noncomputable def f10_readsStep_l218  : Nat → (Nat → Nat → Int32) → (Nat → Int32) → Option (Int32 × (Nat → Nat → Int32) × (Nat → Int32))
  | 0 => fun _ _ => none
  | n + 1 => fun A0 f0 => f10_readsStep_b218   (f10_readsStep_l218   n) A0 f0
noncomputable def f10_readsStep_b190 (A0 : Nat → Nat → Int32) (f0 : Nat → Int32) (l1 : Int32) (l2 : Int32) (s0 : Int32) (s1 : Int32) : Option (Int32 × (Nat → Nat → Int32) × (Nat → Int32)) :=
  if s1 < 0 ∨ 48 ≤ (s1).toNatClampNeg then none else
  letv (updA A0 31 (ux (A0 31) s1 s0)) fun A0_6 =>
  letv (upd f0 35 ((f0 35) + 1)) fun f0_7 =>
  (f10_repeats f0_7 A0_6 ((f0_7 35) - 1) l2 l1).bind fun q_8 =>
  if q_8.1 = 0 then
    some (0, q_8.2.1, q_8.2.2)
  else
    f10_readsStep_l218 NF q_8.2.1 q_8.2.2
noncomputable def f10_readsStep_b139 (A0 : Nat → Nat → Int32) (f0 : Nat → Int32) (l1 : Int32) (l2 : Int32) (l3 : Int32) : Option (Int32 × (Nat → Nat → Int32) × (Nat → Int32)) :=
  if ((f0 35) + l2) ≤ 48 then
    letv (upd f0 9 ((f0 9) + 1)) fun f0_4 =>
    if l3 = 46 then
      f10_readsStep_b190 A0 f0_4 l1 l2 (-1) (f0_4 35)
    else
      f10_readsStep_b190 A0 f0_4 l1 l2 (l3 - 97) (f0_4 35)
  else
    (f10_wrongAt f0 A0 6 l1).bind fun q_16 =>
    if ¬ (q_16.1 = 0 ∨ q_16.1 = 1) then none else
    some (q_16.1, A0, q_16.2)
noncomputable def f10_readsStep_b4 (k4 : (Nat → Nat → Int32) → (Nat → Int32) → Option (Int32 × (Nat → Nat → Int32) × (Nat → Int32))) (A0 : Nat → Nat → Int32) (f0 : Nat → Int32) : Option (Int32 × (Nat → Nat → Int32) × (Nat → Int32)) :=
  (f10_here f0 A0).bind fun q_2 =>
  if q_2 = 40 then
    if (f0 36) = 2 then
      (f10_wrongAt f0 A0 5 (f0 9)).bind fun q_27 =>
      if ¬ (q_27.1 = 0 ∨ q_27.1 = 1) then none else
      some (q_27.1, A0, q_27.2)
    else
      if (f0 36) < 0 ∨ 2 ≤ (f0 36).toNatClampNeg then none else
      letv (updA A0 32 (ux (A0 32) (f0 36) (f0 37))) fun A0_19 =>
      if (f0 36) < 0 ∨ 2 ≤ (f0 36).toNatClampNeg then none else
      letv (updA A0_19 33 (ux (A0_19 33) (f0 36) (f0 35))) fun A0_21 =>
      if (f0 36) < 0 ∨ 2 ≤ (f0 36).toNatClampNeg then none else
      letv (updA A0_21 34 (ux (A0_21 34) (f0 36) (f0 38))) fun A0_23 =>
      letv (upd f0 36 ((f0 36) + 1)) fun f0_24 =>
      letv (upd f0_24 9 ((f0_24 9) + 1)) fun f0_25 =>
      (f10_readsTimes f0_25 A0_23).bind fun q_26 =>
      k4 A0_23 q_26
  else
    (f10_here f0 A0).bind fun q_3 =>
    if q_3 = 46 then
      f10_readsStep_b139 A0 f0 (f0 37) (f0 38) q_3
    else
      if (f10_in q_3 97 112) = 0 then
        (f10_wrongAt f0 A0 1 (f0 9)).bind fun q_17 =>
        if ¬ (q_17.1 = 0 ∨ q_17.1 = 1) then none else
        some (q_17.1, A0, q_17.2)
      else
        f10_readsStep_b139 A0 f0 (f0 37) (f0 38) q_3
noncomputable def f10_readsStep_l4  : Nat → (Nat → Nat → Int32) → (Nat → Int32) → Option (Int32 × (Nat → Nat → Int32) × (Nat → Int32))
  | 0 => fun _ _ => none
  | n + 1 => fun A0 f0 => f10_readsStep_b4   (f10_readsStep_l4   n) A0 f0
noncomputable def f10_readsStep (f0 : Nat → Int32) (A0 : Nat → Nat → Int32) : Option (Int32 × (Nat → Nat → Int32) × (Nat → Int32)) :=
  (f10_readsTimes f0 A0).bind fun q_1 =>
  f10_readsStep_l4 NF A0 q_1
noncomputable def f10_beat_b107 (p1 : Int32) (p2 : Int32) (k107 : (Nat → Nat → Int32) → (Nat → Int32) → Int32 → Option (Int32 × (Nat → Nat → Int32) × (Nat → Int32))) (A0 : Nat → Nat → Int32) (f0 : Nat → Int32) (l4 : Int32) : Option (Int32 × (Nat → Nat → Int32) × (Nat → Int32)) :=
  if (f0 35) ≤ l4 then
    some (f0 35, A0, f0)
  else
    if l4 < 0 ∨ 48 ≤ (l4).toNatClampNeg then none else
    if ((48 * p1) + l4) < 0 ∨ 384 ≤ ((48 * p1) + l4).toNatClampNeg then none else
    letv (updA A0 5 (ux (A0 5) ((48 * p1) + l4) (gx (A0 31) l4))) fun A0_10 =>
    k107 A0_10 f0 (l4 + 1)
noncomputable def f10_beat_l107 (p1 : Int32) (p2 : Int32) : Nat → (Nat → Nat → Int32) → (Nat → Int32) → Int32 → Option (Int32 × (Nat → Nat → Int32) × (Nat → Int32))
  | 0 => fun _ _ _ => none
  | n + 1 => fun A0 f0 l4 => f10_beat_b107 p1 p2  (f10_beat_l107 p1 p2  n) A0 f0 l4
noncomputable def f10_beat_b80 (p1 : Int32) (p2 : Int32) (A0 : Nat → Nat → Int32) (f0 : Nat → Int32) (l3 : Int32) : Option (Int32 × (Nat → Nat → Int32) × (Nat → Int32)) :=
  letv (upd f0 8 0) fun f0_5 =>
  if l3 = 0 then
    some (f0_5 11, A0, f0_5)
  else
    if p1 < 0 ∨ 8 ≤ (p1).toNatClampNeg then none else
    letv (updA A0 4 (ux (A0 4) p1 (f0_5 35))) fun A0_7 =>
    f10_beat_l107 p1 p2 NF A0_7 f0_5 0
noncomputable def f10_beat_b50 (p1 : Int32) (p2 : Int32) (k50 : (Nat → Nat → Int32) → (Nat → Int32) → Int32 → Option (Int32 × (Nat → Nat → Int32) × (Nat → Int32))) (A0 : Nat → Nat → Int32) (f0 : Nat → Int32) (l3 : Int32) : Option (Int32 × (Nat → Nat → Int32) × (Nat → Int32)) :=
  if l3 = 0 then
    f10_beat_b80 p1 p2 A0 f0 l3
  else
    if (f0 9) < (f0 10) then
      (f10_readsStep f0 A0).bind fun q_11 =>
      k50 q_11.2.1 q_11.2.2 q_11.1
    else
      if (f0 36) ≤ 0 then
        f10_beat_b80 p1 p2 A0 f0 l3
      else
        (f10_readsStep f0 A0).bind fun q_12 =>
        k50 q_12.2.1 q_12.2.2 q_12.1
noncomputable def f10_beat_l50 (p1 : Int32) (p2 : Int32) : Nat → (Nat → Nat → Int32) → (Nat → Int32) → Int32 → Option (Int32 × (Nat → Nat → Int32) × (Nat → Int32))
  | 0 => fun _ _ _ => none
  | n + 1 => fun A0 f0 l3 => f10_beat_b50 p1 p2  (f10_beat_l50 p1 p2  n) A0 f0 l3
noncomputable def f10_beat (f0 : Nat → Int32) (A0 : Nat → Nat → Int32) (p1 : Int32) (p2 : Int32) : Option (Int32 × (Nat → Nat → Int32) × (Nat → Int32)) :=
  if (f10_in p1 0 7) = 0 then
    some ((-1), A0, f0)
  else
    if (f10_in p2 1 60) = 0 then
      some ((-1), A0, f0)
    else
      if p2 ≤ (f0 8) then
        letv (f10_beginsText f0 A0 p2) fun z_1 =>
        letv (upd z_1 35 0) fun f0_2 =>
        letv (upd f0_2 36 0) fun f0_3 =>
        (f10_readsStep f0_3 A0).bind fun q_4 =>
        f10_beat_l50 p1 p2 NF q_4.2.1 q_4.2.2 q_4.1
      else
        some ((-1), A0, f0)
noncomputable def f10_isLetter (f0 : Nat → Int32) (A0 : Nat → Nat → Int32) : Option (Int32) :=
  (f10_here f0 A0).bind fun q_1 =>
  if ¬ ((f10_in (q_1 - 97) 0 15) = 0 ∨ (f10_in (q_1 - 97) 0 15) = 1) then none else
  some (f10_in (q_1 - 97) 0 15)
noncomputable def f10_readsAmount_b27 (A0 : Nat → Nat → Int32) (p1 : Int32) (k27 : (Nat → Int32) → Int32 → Option (Int32 × (Nat → Int32))) (f0 : Nat → Int32) (l2 : Int32) : Option (Int32 × (Nat → Int32)) :=
  (f10_isDigit f0 A0).bind fun q_3 =>
  if q_3 = 0 then
    some (1, f0)
  else
    if (f0 9) = (l2 + p1) then
      (f10_wrongAt f0 A0 2 (f0 9)).bind fun q_7 =>
      if ¬ (q_7.1 = 0 ∨ q_7.1 = 1) then none else
      some (q_7.1, q_7.2)
    else
      (f10_here f0 A0).bind fun q_4 =>
      letv (upd f0 12 (((10 * (f0 12)) + q_4) - 48)) fun f0_5 =>
      letv (upd f0_5 9 ((f0_5 9) + 1)) fun f0_6 =>
      k27 f0_6 l2
noncomputable def f10_readsAmount_l27 (A0 : Nat → Nat → Int32) (p1 : Int32) : Nat → (Nat → Int32) → Int32 → Option (Int32 × (Nat → Int32))
  | 0 => fun _ _ => none
  | n + 1 => fun f0 l2 => f10_readsAmount_b27 A0 p1  (f10_readsAmount_l27 A0 p1  n) f0 l2
noncomputable def f10_readsAmount (f0 : Nat → Int32) (A0 : Nat → Nat → Int32) (p1 : Int32) : Option (Int32 × (Nat → Int32)) :=
  (f10_isDigit f0 A0).bind fun q_1 =>
  if q_1 = 0 then
    (f10_wrongAt f0 A0 1 (f0 9)).bind fun q_8 =>
    if ¬ (q_8.1 = 0 ∨ q_8.1 = 1) then none else
    some (q_8.1, q_8.2)
  else
    letv (upd f0 12 0) fun f0_2 =>
    f10_readsAmount_l27 A0 p1 NF f0_2 (f0 9)
noncomputable def f10_readsOther_b104 (p1 : Int32) (p2 : Int32) (A0 : Nat → Nat → Int32) (f0 : Nat → Int32) (l3 : Int32) (s0 : Int32) (s1 : Int32) : Option (Int32 × (Nat → Nat → Int32) × (Nat → Int32)) :=
  if s1 < 0 ∨ 16 ≤ (s1).toNatClampNeg then none else
  letv (updA A0 3 (ux (A0 3) s1 s0)) fun A0_6 =>
  if p2 = 0 then
    if l3 < 0 ∨ 16 ≤ (l3).toNatClampNeg then none else
    if l3 < 0 ∨ 16 ≤ (l3).toNatClampNeg then none else
    letv (updA A0_6 3 (ux (A0_6 3) l3 ((gx (A0_6 3) l3) &&& ((shl 1 p1) ^^^ (-1))))) fun A0_9 =>
    some (1, A0_9, f0)
  else
    if l3 < 0 ∨ 16 ≤ (l3).toNatClampNeg then none else
    if l3 < 0 ∨ 16 ≤ (l3).toNatClampNeg then none else
    letv (updA A0_6 3 (ux (A0_6 3) l3 ((gx (A0_6 3) l3) ||| (shl 1 p1)))) fun A0_12 =>
    some (1, A0_12, f0)
noncomputable def f10_readsOther (f0 : Nat → Int32) (A0 : Nat → Nat → Int32) (p1 : Int32) (p2 : Int32) : Option (Int32 × (Nat → Nat → Int32) × (Nat → Int32)) :=
  (f10_isLetter f0 A0).bind fun q_1 =>
  if q_1 = 0 then
    (f10_wrongAt f0 A0 1 (f0 9)).bind fun q_16 =>
    if ¬ (q_16.1 = 0 ∨ q_16.1 = 1) then none else
    some (q_16.1, A0, q_16.2)
  else
    (f10_here f0 A0).bind fun q_2 =>
    if (q_2 - 97) = p1 then
      (f10_wrongAt f0 A0 6 (f0 9)).bind fun q_15 =>
      if ¬ (q_15.1 = 0 ∨ q_15.1 = 1) then none else
      some (q_15.1, A0, q_15.2)
    else
      if (f10_isTold f0 A0 (q_2 - 97)) = 0 then
        (f10_wrongAt f0 A0 7 (f0 9)).bind fun q_14 =>
        if ¬ (q_14.1 = 0 ∨ q_14.1 = 1) then none else
        some (q_14.1, A0, q_14.2)
      else
        letv (upd f0 9 ((f0 9) + 1)) fun f0_3 =>
        if p2 = 0 then
          if p1 < 0 ∨ 16 ≤ (p1).toNatClampNeg then none else
          f10_readsOther_b104 p1 p2 A0 f0_3 (q_2 - 97) ((gx (A0 3) p1) &&& ((shl 1 (q_2 - 97)) ^^^ (-1))) p1
        else
          if p1 < 0 ∨ 16 ≤ (p1).toNatClampNeg then none else
          f10_readsOther_b104 p1 p2 A0 f0_3 (q_2 - 97) ((gx (A0 3) p1) ||| (shl 1 (q_2 - 97))) p1
noncomputable def f10_readsLine_b150 (A0 : Nat → Nat → Int32) (f0 : Nat → Int32) (l1 : Int32) (l2 : Int32) : Option (Int32 × (Nat → Nat → Int32) × (Nat → Int32)) :=
  if l2 = 38 then
    (f10_readsOther f0 A0 l1 1).bind fun q_8 =>
    if ¬ (q_8.1 = 0 ∨ q_8.1 = 1) then none else
    some (q_8.1, q_8.2.1, q_8.2.2)
  else
    (f10_readsOther f0 A0 l1 0).bind fun q_7 =>
    if ¬ (q_7.1 = 0 ∨ q_7.1 = 1) then none else
    some (q_7.1, q_7.2.1, q_7.2.2)
noncomputable def f10_readsLine_b245 (A0 : Nat → Nat → Int32) (f0 : Nat → Int32) (s0 : Int32) (s1 : Int32) (s2 : Int32) (s3 : Int32) (s4 : Int32) : Option (Int32 × (Nat → Nat → Int32) × (Nat → Int32)) :=
  if s4 < 0 ∨ 76 ≤ (s4).toNatClampNeg then none else
  letv (updA A0 0 (ux (A0 0) s4 (f10_max s3 (f10_min s2 (s1 + s0))))) fun A0_12 =>
  some (1, A0_12, f0)
noncomputable def f10_readsLine_b179 (A0 : Nat → Nat → Int32) (f0 : Nat → Int32) (l1 : Int32) (l2 : Int32) (s0 : Int32) : Option (Int32 × (Nat → Nat → Int32) × (Nat → Int32)) :=
  (f10_readsAmount f0 A0 s0).bind fun q_9 =>
  if q_9.1 = 0 then
    some (0, A0, q_9.2)
  else
    if l2 = 61 then
      if (16 + l1) < 0 ∨ 76 ≤ (16 + l1).toNatClampNeg then none else
      letv (updA A0 0 (ux (A0 0) (16 + l1) (q_9.2 12))) fun A0_14 =>
      some (1, A0_14, q_9.2)
    else
      if (0 + l1) < 0 ∨ 76 ≤ (0 + l1).toNatClampNeg then none else
      if l2 = 43 then
        f10_readsLine_b245 A0 q_9.2 (q_9.2 12) (gx (A0 0) (0 + l1)) 99 0 (0 + l1)
      else
        f10_readsLine_b245 A0 q_9.2 (-(q_9.2 12)) (gx (A0 0) (0 + l1)) 99 0 (0 + l1)
noncomputable def f10_readsLine_b128 (A0 : Nat → Nat → Int32) (f0 : Nat → Int32) (l1 : Int32) (l2 : Int32) : Option (Int32 × (Nat → Nat → Int32) × (Nat → Int32)) :=
  letv (upd f0 9 ((f0 9) + 1)) fun f0_6 =>
  if l2 = 38 then
    f10_readsLine_b150 A0 f0_6 l1 l2
  else
    if l2 = 47 then
      f10_readsLine_b150 A0 f0_6 l1 l2
    else
      if l2 = 61 then
        f10_readsLine_b179 A0 f0_6 l1 l2 3
      else
        f10_readsLine_b179 A0 f0_6 l1 l2 2
noncomputable def f10_readsLine (f0 : Nat → Int32) (A0 : Nat → Nat → Int32) : Option (Int32 × (Nat → Nat → Int32) × (Nat → Int32)) :=
  (f10_isLetter f0 A0).bind fun q_1 =>
  if q_1 = 0 then
    (f10_wrongAt f0 A0 1 (f0 9)).bind fun q_18 =>
    if ¬ (q_18.1 = 0 ∨ q_18.1 = 1) then none else
    some (q_18.1, A0, q_18.2)
  else
    if (f0 39) = 20 then
      (f10_wrongAt f0 A0 4 (f0 9)).bind fun q_17 =>
      if ¬ (q_17.1 = 0 ∨ q_17.1 = 1) then none else
      some (q_17.1, A0, q_17.2)
    else
      letv (upd f0 39 ((f0 39) + 1)) fun f0_2 =>
      (f10_here f0_2 A0).bind fun q_3 =>
      if (f10_isTold f0_2 A0 (q_3 - 97)) = 0 then
        (f10_wrongAt f0_2 A0 7 (f0_2 9)).bind fun q_16 =>
        if ¬ (q_16.1 = 0 ∨ q_16.1 = 1) then none else
        some (q_16.1, A0, q_16.2)
      else
        letv (upd f0_2 9 ((f0_2 9) + 1)) fun f0_4 =>
        (f10_here f0_4 A0).bind fun q_5 =>
        if q_5 = 43 then
          f10_readsLine_b128 A0 f0_4 (q_3 - 97) q_5
        else
          if q_5 = 45 then
            f10_readsLine_b128 A0 f0_4 (q_3 - 97) q_5
          else
            if q_5 = 61 then
              f10_readsLine_b128 A0 f0_4 (q_3 - 97) q_5
            else
              if q_5 = 38 then
                f10_readsLine_b128 A0 f0_4 (q_3 - 97) q_5
              else
                if q_5 = 47 then
                  f10_readsLine_b128 A0 f0_4 (q_3 - 97) q_5
                else
                  (f10_wrongAt f0_4 A0 1 (f0_4 9)).bind fun q_15 =>
                  if ¬ (q_15.1 = 0 ∨ q_15.1 = 1) then none else
                  some (q_15.1, A0, q_15.2)
noncomputable def f10_pleas_b139 (p1 : Int32) (k139 : (Nat → Nat → Int32) → (Nat → Int32) → Int32 → Option (Int32 × (Nat → Nat → Int32) × (Nat → Int32))) (A0 : Nat → Nat → Int32) (f0 : Nat → Int32) (l3 : Int32) : Option (Int32 × (Nat → Nat → Int32) × (Nat → Int32)) :=
  if 16 ≤ l3 then
    some (f0 11, A0, f0)
  else
    if l3 < 0 ∨ 16 ≤ (l3).toNatClampNeg then none else
    if l3 < 0 ∨ 16 ≤ (l3).toNatClampNeg then none else
    letv (updA A0 3 (ux (A0 3) l3 (gx (A0 40) l3))) fun A0_11 =>
    k139 A0_11 f0 (l3 + 1)
noncomputable def f10_pleas_l139 (p1 : Int32) : Nat → (Nat → Nat → Int32) → (Nat → Int32) → Int32 → Option (Int32 × (Nat → Nat → Int32) × (Nat → Int32))
  | 0 => fun _ _ _ => none
  | n + 1 => fun A0 f0 l3 => f10_pleas_b139 p1  (f10_pleas_l139 p1  n) A0 f0 l3
noncomputable def f10_pleas_b112 (p1 : Int32) (A0 : Nat → Nat → Int32) (f0 : Nat → Int32) (l2 : Int32) : Option (Int32 × (Nat → Nat → Int32) × (Nat → Int32)) :=
  letv (upd f0 8 0) fun f0_6 =>
  if l2 = 0 then
    (f10_copies 76 (A0 1) 76 (A0 0)).bind fun q_7 =>
    letv (updA A0 0 q_7) fun A0_8 =>
    f10_pleas_l139 p1 NF A0_8 f0_6 0
  else
    some (f0_6 39, A0, f0_6)
noncomputable def f10_pleas_b72 (p1 : Int32) (k72 : (Nat → Nat → Int32) → (Nat → Int32) → Int32 → Option (Int32 × (Nat → Nat → Int32) × (Nat → Int32))) (A0 : Nat → Nat → Int32) (f0 : Nat → Int32) (l2 : Int32) : Option (Int32 × (Nat → Nat → Int32) × (Nat → Int32)) :=
  if l2 = 0 then
    f10_pleas_b112 p1 A0 f0 l2
  else
    if (f0 10) ≤ (f0 9) then
      f10_pleas_b112 p1 A0 f0 l2
    else
      (f10_takes f0 A0 59).bind fun q_12 =>
      if q_12.1 = 0 then
        k72 A0 q_12.2 0
      else
        (f10_readsLine q_12.2 A0).bind fun q_13 =>
        if q_13.1 = 0 then
          k72 q_13.2.1 q_13.2.2 0
        else
          k72 q_13.2.1 q_13.2.2 1
noncomputable def f10_pleas_l72 (p1 : Int32) : Nat → (Nat → Nat → Int32) → (Nat → Int32) → Int32 → Option (Int32 × (Nat → Nat → Int32) × (Nat → Int32))
  | 0 => fun _ _ _ => none
  | n + 1 => fun A0 f0 l2 => f10_pleas_b72 p1  (f10_pleas_l72 p1  n) A0 f0 l2
noncomputable def f10_pleas_b43 (p1 : Int32) (k43 : (Nat → Nat → Int32) → (Nat → Int32) → Int32 → Option (Int32 × (Nat → Nat → Int32) × (Nat → Int32))) (A0 : Nat → Nat → Int32) (f0 : Nat → Int32) (l2 : Int32) : Option (Int32 × (Nat → Nat → Int32) × (Nat → Int32)) :=
  if 16 ≤ l2 then
    (f10_readsLine f0 A0).bind fun q_5 =>
    f10_pleas_l72 p1 NF q_5.2.1 q_5.2.2 q_5.1
  else
    if l2 < 0 ∨ 16 ≤ (l2).toNatClampNeg then none else
    if l2 < 0 ∨ 16 ≤ (l2).toNatClampNeg then none else
    letv (updA A0 40 (ux (A0 40) l2 (gx (A0 3) l2))) fun A0_16 =>
    k43 A0_16 f0 (l2 + 1)
noncomputable def f10_pleas_l43 (p1 : Int32) : Nat → (Nat → Nat → Int32) → (Nat → Int32) → Int32 → Option (Int32 × (Nat → Nat → Int32) × (Nat → Int32))
  | 0 => fun _ _ _ => none
  | n + 1 => fun A0 f0 l2 => f10_pleas_b43 p1  (f10_pleas_l43 p1  n) A0 f0 l2
noncomputable def f10_pleas (f0 : Nat → Int32) (A0 : Nat → Nat → Int32) (p1 : Int32) : Option (Int32 × (Nat → Nat → Int32) × (Nat → Int32)) :=
  if (f10_in p1 1 120) = 0 then
    some ((-1), A0, f0)
  else
    if p1 ≤ (f0 8) then
      letv (f10_beginsText f0 A0 p1) fun z_1 =>
      letv (upd z_1 39 0) fun f0_2 =>
      (f10_copies 76 (A0 0) 76 (A0 1)).bind fun q_3 =>
      letv (updA A0 1 q_3) fun A0_4 =>
      f10_pleas_l43 p1 NF A0_4 f0_2 0
    else
      some ((-1), A0, f0)
noncomputable def f10_walks (f0 : Nat → Int32) (A0 : Nat → Nat → Int32) (p1 : Int32) : Option ((Nat → Nat → Int32)) :=
  (f10_isMan f0 A0 p1).bind fun q_1 =>
  if q_1 = 0 then
    some A0
  else
    if p1 < 0 ∨ 8 ≤ (p1).toNatClampNeg then none else
    if (gx (A0 4) p1) = 0 then
      some A0
    else
      if p1 < 0 ∨ 8 ≤ (p1).toNatClampNeg then none else
      if (gx (A0 4) p1) = 0 then none else
      if ((48 * p1) + (irm (gx (A0 0) 74) (gx (A0 4) p1))) < 0 ∨ 384 ≤ ((48 * p1) + (irm (gx (A0 0) 74) (gx (A0 4) p1))).toNatClampNeg then none else
      letv (gx (A0 5) ((48 * p1) + (irm (gx (A0 0) 74) (gx (A0 4) p1)))) fun x_5 =>
      if x_5 = (-1) then
        some A0
      else
        if (f10_isTold f0 A0 x_5) = 0 then
          some A0
        else
          if (56 + p1) < 0 ∨ 76 ≤ (56 + p1).toNatClampNeg then none else
          if (gx (A0 0) (56 + p1)) < 0 ∨ 16 ≤ (gx (A0 0) (56 + p1)).toNatClampNeg then none else
          if (f10_has (gx (A0 3) (gx (A0 0) (56 + p1))) x_5) = 0 then
            some A0
          else
            if (56 + p1) < 0 ∨ 76 ≤ (56 + p1).toNatClampNeg then none else
            letv (updA A0 0 (ux (A0 0) (56 + p1) x_5)) fun A0_9 =>
            some A0_9
noncomputable def f10_pays_b16 (p1 : Int32) (k16 : (Nat → Nat → Int32) → (Nat → Int32) → Int32 → Int32 → Option ((Nat → Nat → Int32) × (Nat → Int32))) (A0 : Nat → Nat → Int32) (f0 : Nat → Int32) (l2 : Int32) (l3 : Int32) : Option ((Nat → Nat → Int32) × (Nat → Int32)) :=
  if 8 ≤ l3 then
    some (A0, f0)
  else
    (f10_menAt f0 A0 p1).bind fun q_3 =>
    if (f10_has q_3 l3) = 0 then
      k16 A0 f0 l2 (l3 + 1)
    else
      if (64 + l3) < 0 ∨ 76 ≤ (64 + l3).toNatClampNeg then none else
      if (64 + l3) < 0 ∨ 76 ≤ (64 + l3).toNatClampNeg then none else
      if (64 + l3) < 0 ∨ 76 ≤ (64 + l3).toNatClampNeg then none else
      letv (updA A0 0 (ux (A0 0) (64 + l3) ((gx (A0 0) (64 + l3)) + (f10_min l2 (999999 - (gx (A0 0) (64 + l3))))))) fun A0_7 =>
      letv (upd f0 42 ((f0 42) + (f10_min l2 (999999 - (gx (A0 0) (64 + l3)))))) fun f0_8 =>
      k16 A0_7 f0_8 l2 (l3 + 1)
noncomputable def f10_pays_l16 (p1 : Int32) : Nat → (Nat → Nat → Int32) → (Nat → Int32) → Int32 → Int32 → Option ((Nat → Nat → Int32) × (Nat → Int32))
  | 0 => fun _ _ _ _ => none
  | n + 1 => fun A0 f0 l2 l3 => f10_pays_b16 p1  (f10_pays_l16 p1  n) A0 f0 l2 l3
noncomputable def f10_pays (f0 : Nat → Int32) (A0 : Nat → Nat → Int32) (p1 : Int32) : Option ((Nat → Nat → Int32) × (Nat → Int32)) :=
  (f10_feels f0 A0 p1).bind fun q_1 =>
  (f10_byLaw f0 q_1 119 99).bind fun q_2 =>
  f10_pays_l16 p1 NF q_2.2 f0 q_2.1 0
noncomputable def f10_turnOf (f0 : Nat → Int32) (A0 : Nat → Nat → Int32) (p1 : Int32) : Option ((Nat → Nat → Int32) × (Nat → Int32)) :=
  (f10_feels f0 A0 p1).bind fun q_1 =>
  (f10_holdsAny f0 q_1 115).bind fun q_2 =>
  if q_2.1 = 0 then
    (f10_byLaw f0 q_2.2 114 10).bind fun q_3 =>
    letv (updA q_3.2 0 (ux (q_3.2 0) 75 (irm ((25173 * (gx (q_3.2 0) 75)) + 13849) 65536))) fun A0_4 =>
    (f10_menAt f0 A0_4 p1).bind fun q_5 =>
    if q_5 = 0 then
      if q_3.1 ≤ (irm (gx (A0_4 0) 75) 10) then
        some (A0_4, f0)
      else
        letv (updA A0_4 0 (ux (A0_4 0) 73 (f10_min 9999 ((gx (A0_4 0) 73) + 1)))) fun A0_6 =>
        if (16 + p1) < 0 ∨ 76 ≤ (16 + p1).toNatClampNeg then none else
        letv (updA A0_6 0 (ux (A0_6 0) 72 (f10_min 999999 ((gx (A0_6 0) 72) + (gx (A0_6 0) (16 + p1)))))) fun A0_8 =>
        letv (upd f0 41 ((f0 41) + 1)) fun f0_9 =>
        some (A0_8, f0_9)
    else
      (f10_pays f0 A0_4 p1).bind fun q_10 =>
      some (q_10.1, q_10.2)
  else
    some (q_2.2, f0)
noncomputable def f10_hourGoes_b80 (k80 : (Nat → Nat → Int32) → (Nat → Int32) → Int32 → Option ((Nat → Nat → Int32) × (Nat → Int32))) (A0 : Nat → Nat → Int32) (f0 : Nat → Int32) (l1 : Int32) : Option ((Nat → Nat → Int32) × (Nat → Int32)) :=
  if 16 ≤ l1 then
    letv (updA A0 0 (ux (A0 0) 74 ((gx (A0 0) 74) + 1))) fun A0_1 =>
    some (A0_1, f0)
  else
    if (f10_isTold f0 A0 l1) = 0 then
      k80 A0 f0 (l1 + 1)
    else
      (f10_turnOf f0 A0 l1).bind fun q_2 =>
      k80 q_2.1 q_2.2 (l1 + 1)
noncomputable def f10_hourGoes_l80  : Nat → (Nat → Nat → Int32) → (Nat → Int32) → Int32 → Option ((Nat → Nat → Int32) × (Nat → Int32))
  | 0 => fun _ _ _ => none
  | n + 1 => fun A0 f0 l1 => f10_hourGoes_b80   (f10_hourGoes_l80   n) A0 f0 l1
noncomputable def f10_hourGoes_b21 (k21 : (Nat → Nat → Int32) → (Nat → Int32) → Int32 → Option ((Nat → Nat → Int32) × (Nat → Int32))) (A0 : Nat → Nat → Int32) (f0 : Nat → Int32) (l1 : Int32) : Option ((Nat → Nat → Int32) × (Nat → Int32)) :=
  if 16 ≤ l1 then
    f10_hourGoes_l80 NF A0 f0 0
  else
    if (f10_isTold f0 A0 l1) = 0 then
      k21 A0 f0 (l1 + 1)
    else
      (f10_menAt f0 A0 l1).bind fun q_3 =>
      if q_3 = 0 then
        if (32 + l1) < 0 ∨ 76 ≤ (32 + l1).toNatClampNeg then none else
        if (32 + l1) < 0 ∨ 76 ≤ (32 + l1).toNatClampNeg then none else
        letv (updA A0 0 (ux (A0 0) (32 + l1) (f10_min 99 ((gx (A0 0) (32 + l1)) + 1)))) fun A0_6 =>
        k21 A0_6 f0 (l1 + 1)
      else
        if (32 + l1) < 0 ∨ 76 ≤ (32 + l1).toNatClampNeg then none else
        letv (updA A0 0 (ux (A0 0) (32 + l1) 0)) fun A0_8 =>
        k21 A0_8 f0 (l1 + 1)
noncomputable def f10_hourGoes_l21  : Nat → (Nat → Nat → Int32) → (Nat → Int32) → Int32 → Option ((Nat → Nat → Int32) × (Nat → Int32))
  | 0 => fun _ _ _ => none
  | n + 1 => fun A0 f0 l1 => f10_hourGoes_b21   (f10_hourGoes_l21   n) A0 f0 l1
noncomputable def f10_hourGoes_b2 (k2 : (Nat → Nat → Int32) → (Nat → Int32) → Int32 → Option ((Nat → Nat → Int32) × (Nat → Int32))) (A0 : Nat → Nat → Int32) (f0 : Nat → Int32) (l1 : Int32) : Option ((Nat → Nat → Int32) × (Nat → Int32)) :=
  if 8 ≤ l1 then
    f10_hourGoes_l21 NF A0 f0 0
  else
    (f10_walks f0 A0 l1).bind fun q_9 =>
    k2 q_9 f0 (l1 + 1)
noncomputable def f10_hourGoes_l2  : Nat → (Nat → Nat → Int32) → (Nat → Int32) → Int32 → Option ((Nat → Nat → Int32) × (Nat → Int32))
  | 0 => fun _ _ _ => none
  | n + 1 => fun A0 f0 l1 => f10_hourGoes_b2   (f10_hourGoes_l2   n) A0 f0 l1
noncomputable def f10_hourGoes (f0 : Nat → Int32) (A0 : Nat → Nat → Int32) : Option ((Nat → Nat → Int32) × (Nat → Int32)) :=
  f10_hourGoes_l2 NF A0 f0 0
noncomputable def f10_hoursGo_b12 (p1 : Int32) (k12 : (Nat → Nat → Int32) → (Nat → Int32) → Int32 → Option ((Nat → Nat → Int32) × (Nat → Int32))) (A0 : Nat → Nat → Int32) (f0 : Nat → Int32) (l2 : Int32) : Option ((Nat → Nat → Int32) × (Nat → Int32)) :=
  if p1 ≤ l2 then
    some (A0, f0)
  else
    if 9999 ≤ (gx (A0 0) 74) then
      some (A0, f0)
    else
      (f10_hourGoes f0 A0).bind fun q_3 =>
      k12 q_3.1 q_3.2 (l2 + 1)
noncomputable def f10_hoursGo_l12 (p1 : Int32) : Nat → (Nat → Nat → Int32) → (Nat → Int32) → Int32 → Option ((Nat → Nat → Int32) × (Nat → Int32))
  | 0 => fun _ _ _ => none
  | n + 1 => fun A0 f0 l2 => f10_hoursGo_b12 p1  (f10_hoursGo_l12 p1  n) A0 f0 l2
noncomputable def f10_hoursGo (f0 : Nat → Int32) (A0 : Nat → Nat → Int32) (p1 : Int32) : Option ((Nat → Nat → Int32) × (Nat → Int32)) :=
  letv (upd f0 41 0) fun f0_1 =>
  letv (upd f0_1 42 0) fun f0_2 =>
  f10_hoursGo_l12 p1 NF A0 f0_2 0
noncomputable def f10_hours (f0 : Nat → Int32) (A0 : Nat → Nat → Int32) (p1 : Int32) : Option (Int32 × (Nat → Nat → Int32) × (Nat → Int32)) :=
  if (f10_in p1 1 240) = 0 then
    some ((-1), A0, f0)
  else
    (f10_hoursGo f0 A0 p1).bind fun q_1 =>
    some (q_1.2 41, q_1.1, q_1.2)
noncomputable def f10_canTry (f0 : Nat → Int32) (A0 : Nat → Nat → Int32) (p1 : Int32) : Option (Int32) :=
  if (f10_in p1 0 2) = 0 then
    (f10_isMan f0 A0 (p1 - 10)).bind fun q_1 =>
    if q_1 = 0 then
      (f10_isMan f0 A0 (p1 - 20)).bind fun q_2 =>
      if q_2 = 0 then
        if (f10_isTold f0 A0 (p1 - 30)) = 0 then
          some 0
        else
          some 1
      else
        some 1
    else
      some 1
  else
    some 1
noncomputable def f10_tried_b154 (p1 : Int32) (p2 : Int32) (A0 : Nat → Nat → Int32) (f0 : Nat → Int32) (l3 : Int32) : Option (Int32 × (Nat → Nat → Int32) × (Nat → Int32)) :=
  (f10_copies 76 (A0 1) 76 (A0 0)).bind fun q_5 =>
  letv (updA A0 0 q_5) fun A0_6 =>
  some (l3, A0_6, f0)
noncomputable def f10_tried (f0 : Nat → Int32) (A0 : Nat → Nat → Int32) (p1 : Int32) (p2 : Int32) : Option (Int32 × (Nat → Nat → Int32) × (Nat → Int32)) :=
  if (f10_in p1 1 240) = 0 then
    some ((-1), A0, f0)
  else
    (f10_canTry f0 A0 p2).bind fun q_1 =>
    if q_1 = 0 then
      some ((-1), A0, f0)
    else
      (f10_copies 76 (A0 0) 76 (A0 1)).bind fun q_2 =>
      letv (updA A0 1 q_2) fun A0_3 =>
      (f10_hoursGo f0 A0_3 p1).bind fun q_4 =>
      if p2 = 0 then
        f10_tried_b154 p1 p2 q_4.1 q_4.2 (q_4.2 41)
      else
      if p2 = 1 then
        f10_tried_b154 p1 p2 q_4.1 q_4.2 (q_4.2 42)
      else
      if p2 = 2 then
        f10_tried_b154 p1 p2 q_4.1 q_4.2 ((gx (q_4.1 0) 72) - (gx (q_4.1 1) 72))
      else
      if 20 ≤ p2 then
        if 30 ≤ p2 then
          if ((32 + p2) - 30) < 0 ∨ 76 ≤ ((32 + p2) - 30).toNatClampNeg then none else
          f10_tried_b154 p1 p2 q_4.1 q_4.2 (gx (q_4.1 0) ((32 + p2) - 30))
        else
          if ((64 + p2) - 20) < 0 ∨ 76 ≤ ((64 + p2) - 20).toNatClampNeg then none else
          f10_tried_b154 p1 p2 q_4.1 q_4.2 (gx (q_4.1 0) ((64 + p2) - 20))
      else
        if ((56 + p2) - 10) < 0 ∨ 76 ≤ ((56 + p2) - 10).toNatClampNeg then none else
        f10_tried_b154 p1 p2 q_4.1 q_4.2 (gx (q_4.1 0) ((56 + p2) - 10))
noncomputable def f10_placeIs (f0 : Nat → Int32) (A0 : Nat → Nat → Int32) (p1 : Int32) (p2 : Int32) : Option (Int32) :=
  if (f10_isTold f0 A0 p1) = 0 then
    some (-1)
  else
    if p2 = 0 then
      if (0 + p1) < 0 ∨ 76 ≤ (0 + p1).toNatClampNeg then none else
      some (gx (A0 0) (0 + p1))
    else
    if p2 = 1 then
      if (16 + p1) < 0 ∨ 76 ≤ (16 + p1).toNatClampNeg then none else
      some (gx (A0 0) (16 + p1))
    else
    if p2 = 2 then
      if (32 + p1) < 0 ∨ 76 ≤ (32 + p1).toNatClampNeg then none else
      some (gx (A0 0) (32 + p1))
    else
    if p2 = 3 then
      (f10_menAt f0 A0 p1).bind fun q_4 =>
      some q_4
    else
    if p2 = 4 then
      if p1 < 0 ∨ 16 ≤ (p1).toNatClampNeg then none else
      some (gx (A0 3) p1)
    else
    some (-1)
noncomputable def f10_constableIs (f0 : Nat → Int32) (A0 : Nat → Nat → Int32) (p1 : Int32) (p2 : Int32) : Option (Int32) :=
  (f10_isMan f0 A0 p1).bind fun q_1 =>
  if q_1 = 0 then
    some (-1)
  else
    if p2 = 0 then
      if (56 + p1) < 0 ∨ 76 ≤ (56 + p1).toNatClampNeg then none else
      some (gx (A0 0) (56 + p1))
    else
      if p2 = 1 then
        if (64 + p1) < 0 ∨ 76 ≤ (64 + p1).toNatClampNeg then none else
        some (gx (A0 0) (64 + p1))
      else
        if p2 = 2 then
          if p1 < 0 ∨ 8 ≤ (p1).toNatClampNeg then none else
          some (gx (A0 4) p1)
        else
          some (-1)
noncomputable def f10_alone_b93 (p1 : Int32) (p2 : Int32) (A0 : Nat → Nat → Int32) (f0 : Nat → Int32) (l4 : Int32) : Option (Int32 × (Nat → Nat → Int32) × (Nat → Int32)) :=
  (f10_copies 76 (A0 1) 76 (A0 0)).bind fun q_3 =>
  letv (updA A0 0 q_3) fun A0_4 =>
  some (l4, A0_4, f0)
noncomputable def f10_alone_b78 (p1 : Int32) (p2 : Int32) (k40 : (Nat → Nat → Int32) → (Nat → Int32) → Int32 → Int32 → Int32 → Option (Int32 × (Nat → Nat → Int32) × (Nat → Int32))) (A0 : Nat → Nat → Int32) (f0 : Nat → Int32) (l4 : Int32) (l5 : Int32) (s0 : Int32) : Option (Int32 × (Nat → Nat → Int32) × (Nat → Int32)) :=
  k40 A0 f0 s0 (f10_max l4 s0) (l5 + 1)
noncomputable def f10_alone_b40 (p1 : Int32) (p2 : Int32) (k40 : (Nat → Nat → Int32) → (Nat → Int32) → Int32 → Int32 → Int32 → Option (Int32 × (Nat → Nat → Int32) × (Nat → Int32))) (A0 : Nat → Nat → Int32) (f0 : Nat → Int32) (l3 : Int32) (l4 : Int32) (l5 : Int32) : Option (Int32 × (Nat → Nat → Int32) × (Nat → Int32)) :=
  if p2 ≤ l5 then
    f10_alone_b93 p1 p2 A0 f0 l4
  else
    if 9999 ≤ (gx (A0 0) 74) then
      f10_alone_b93 p1 p2 A0 f0 l4
    else
      (f10_hourGoes f0 A0).bind fun q_5 =>
      (f10_menAt q_5.2 q_5.1 p1).bind fun q_6 =>
      if q_6 = 0 then
        f10_alone_b78 p1 p2 k40 q_5.1 q_5.2 l4 l5 (l3 + 1)
      else
        f10_alone_b78 p1 p2 k40 q_5.1 q_5.2 l4 l5 0
noncomputable def f10_alone_l40 (p1 : Int32) (p2 : Int32) : Nat → (Nat → Nat → Int32) → (Nat → Int32) → Int32 → Int32 → Int32 → Option (Int32 × (Nat → Nat → Int32) × (Nat → Int32))
  | 0 => fun _ _ _ _ _ => none
  | n + 1 => fun A0 f0 l3 l4 l5 => f10_alone_b40 p1 p2  (f10_alone_l40 p1 p2  n) A0 f0 l3 l4 l5
noncomputable def f10_alone (f0 : Nat → Int32) (A0 : Nat → Nat → Int32) (p1 : Int32) (p2 : Int32) : Option (Int32 × (Nat → Nat → Int32) × (Nat → Int32)) :=
  if (f10_isTold f0 A0 p1) = 0 then
    some ((-1), A0, f0)
  else
    if (f10_in p2 1 240) = 0 then
      some ((-1), A0, f0)
    else
      (f10_copies 76 (A0 0) 76 (A0 1)).bind fun q_1 =>
      letv (updA A0 1 q_1) fun A0_2 =>
      f10_alone_l40 p1 p2 NF A0_2 f0 0 0 0
noncomputable def f10_together_b127 (p1 : Int32) (p2 : Int32) (p3 : Int32) (A0 : Nat → Nat → Int32) (f0 : Nat → Int32) (l4 : Int32) (s0 : Int32) : Option (Int32 × (Nat → Nat → Int32) × (Nat → Int32)) :=
  (f10_copies 76 (A0 1) 76 (A0 0)).bind fun q_9 =>
  letv (updA A0 0 q_9) fun A0_10 =>
  if s0 = 0 then
    some ((-2), A0_10, f0)
  else
    some (l4, A0_10, f0)
noncomputable def f10_together_b101 (p1 : Int32) (p2 : Int32) (p3 : Int32) (A0 : Nat → Nat → Int32) (f0 : Nat → Int32) (l4 : Int32) : Option (Int32 × (Nat → Nat → Int32) × (Nat → Int32)) :=
  if (56 + p1) < 0 ∨ 76 ≤ (56 + p1).toNatClampNeg then none else
  if (56 + p2) < 0 ∨ 76 ≤ (56 + p2).toNatClampNeg then none else
  if (gx (A0 0) (56 + p1)) = (gx (A0 0) (56 + p2)) then
    f10_together_b127 p1 p2 p3 A0 f0 l4 1
  else
    f10_together_b127 p1 p2 p3 A0 f0 l4 0
noncomputable def f10_together_b48 (p1 : Int32) (p2 : Int32) (p3 : Int32) (k48 : (Nat → Nat → Int32) → (Nat → Int32) → Int32 → Option (Int32 × (Nat → Nat → Int32) × (Nat → Int32))) (A0 : Nat → Nat → Int32) (f0 : Nat → Int32) (l4 : Int32) : Option (Int32 × (Nat → Nat → Int32) × (Nat → Int32)) :=
  if (56 + p1) < 0 ∨ 76 ≤ (56 + p1).toNatClampNeg then none else
  if (56 + p2) < 0 ∨ 76 ≤ (56 + p2).toNatClampNeg then none else
  if (gx (A0 0) (56 + p1)) = (gx (A0 0) (56 + p2)) then
    f10_together_b101 p1 p2 p3 A0 f0 l4
  else
    if p3 ≤ l4 then
      f10_together_b101 p1 p2 p3 A0 f0 l4
    else
      if 9999 ≤ (gx (A0 0) 74) then
        f10_together_b101 p1 p2 p3 A0 f0 l4
      else
        (f10_hourGoes f0 A0).bind fun q_11 =>
        k48 q_11.1 q_11.2 (l4 + 1)
noncomputable def f10_together_l48 (p1 : Int32) (p2 : Int32) (p3 : Int32) : Nat → (Nat → Nat → Int32) → (Nat → Int32) → Int32 → Option (Int32 × (Nat → Nat → Int32) × (Nat → Int32))
  | 0 => fun _ _ _ => none
  | n + 1 => fun A0 f0 l4 => f10_together_b48 p1 p2 p3  (f10_together_l48 p1 p2 p3  n) A0 f0 l4
noncomputable def f10_together (f0 : Nat → Int32) (A0 : Nat → Nat → Int32) (p1 : Int32) (p2 : Int32) (p3 : Int32) : Option (Int32 × (Nat → Nat → Int32) × (Nat → Int32)) :=
  (f10_isMan f0 A0 p1).bind fun q_1 =>
  if q_1 = 0 then
    some ((-1), A0, f0)
  else
    (f10_isMan f0 A0 p2).bind fun q_2 =>
    if q_2 = 0 then
      some ((-1), A0, f0)
    else
      if p1 = p2 then
        some ((-1), A0, f0)
      else
        if (f10_in p3 1 240) = 0 then
          some ((-1), A0, f0)
        else
          (f10_copies 76 (A0 0) 76 (A0 1)).bind fun q_3 =>
          letv (updA A0 1 q_3) fun A0_4 =>
          f10_together_l48 p1 p2 p3 NF A0_4 f0 0
noncomputable def f10_seen_b63 (p1 : Int32) (A0 : Nat → Nat → Int32) (f0 : Nat → Int32) (l2 : Int32) : Option (Int32 × (Nat → Nat → Int32) × (Nat → Int32)) :=
  (f10_copies 76 (A0 1) 76 (A0 0)).bind fun q_3 =>
  letv (updA A0 0 q_3) fun A0_4 =>
  some (l2, A0_4, f0)
noncomputable def f10_seen_b28 (p1 : Int32) (k28 : (Nat → Nat → Int32) → (Nat → Int32) → Int32 → Int32 → Option (Int32 × (Nat → Nat → Int32) × (Nat → Int32))) (A0 : Nat → Nat → Int32) (f0 : Nat → Int32) (l2 : Int32) (l3 : Int32) : Option (Int32 × (Nat → Nat → Int32) × (Nat → Int32)) :=
  if p1 ≤ l3 then
    f10_seen_b63 p1 A0 f0 l2
  else
    if 9999 ≤ (gx (A0 0) 74) then
      f10_seen_b63 p1 A0 f0 l2
    else
      (f10_hourGoes f0 A0).bind fun q_5 =>
      (f10_guarded q_5.2 q_5.1).bind fun q_6 =>
      k28 q_5.1 q_5.2 (l2 ||| q_6) (l3 + 1)
noncomputable def f10_seen_l28 (p1 : Int32) : Nat → (Nat → Nat → Int32) → (Nat → Int32) → Int32 → Int32 → Option (Int32 × (Nat → Nat → Int32) × (Nat → Int32))
  | 0 => fun _ _ _ _ => none
  | n + 1 => fun A0 f0 l2 l3 => f10_seen_b28 p1  (f10_seen_l28 p1  n) A0 f0 l2 l3
noncomputable def f10_seen (f0 : Nat → Int32) (A0 : Nat → Nat → Int32) (p1 : Int32) : Option (Int32 × (Nat → Nat → Int32) × (Nat → Int32)) :=
  if (f10_in p1 1 240) = 0 then
    some ((-1), A0, f0)
  else
    (f10_copies 76 (A0 0) 76 (A0 1)).bind fun q_1 =>
    letv (updA A0 1 q_1) fun A0_2 =>
    f10_seen_l28 p1 NF A0_2 f0 0 0
noncomputable def f10_quiet_b86 (p1 : Int32) (A0 : Nat → Nat → Int32) (f0 : Nat → Int32) (l3 : Int32) : Option (Int32 × (Nat → Nat → Int32) × (Nat → Int32)) :=
  (f10_copies 76 (A0 1) 76 (A0 0)).bind fun q_3 =>
  letv (updA A0 0 q_3) fun A0_4 =>
  some (l3, A0_4, f0)
noncomputable def f10_quiet_b73 (p1 : Int32) (k31 : (Nat → Nat → Int32) → (Nat → Int32) → Int32 → Int32 → Int32 → Option (Int32 × (Nat → Nat → Int32) × (Nat → Int32))) (A0 : Nat → Nat → Int32) (f0 : Nat → Int32) (l3 : Int32) (l4 : Int32) (s0 : Int32) : Option (Int32 × (Nat → Nat → Int32) × (Nat → Int32)) :=
  k31 A0 f0 s0 (f10_max l3 s0) (l4 + 1)
noncomputable def f10_quiet_b31 (p1 : Int32) (k31 : (Nat → Nat → Int32) → (Nat → Int32) → Int32 → Int32 → Int32 → Option (Int32 × (Nat → Nat → Int32) × (Nat → Int32))) (A0 : Nat → Nat → Int32) (f0 : Nat → Int32) (l2 : Int32) (l3 : Int32) (l4 : Int32) : Option (Int32 × (Nat → Nat → Int32) × (Nat → Int32)) :=
  if p1 ≤ l4 then
    f10_quiet_b86 p1 A0 f0 l3
  else
    if 9999 ≤ (gx (A0 0) 74) then
      f10_quiet_b86 p1 A0 f0 l3
    else
      letv (upd f0 41 0) fun f0_5 =>
      (f10_hourGoes f0_5 A0).bind fun q_6 =>
      if (q_6.2 41) ≤ 0 then
        f10_quiet_b73 p1 k31 q_6.1 q_6.2 l3 l4 (l2 + 1)
      else
        f10_quiet_b73 p1 k31 q_6.1 q_6.2 l3 l4 0
noncomputable def f10_quiet_l31 (p1 : Int32) : Nat → (Nat → Nat → Int32) → (Nat → Int32) → Int32 → Int32 → Int32 → Option (Int32 × (Nat → Nat → Int32) × (Nat → Int32))
  | 0 => fun _ _ _ _ _ => none
  | n + 1 => fun A0 f0 l2 l3 l4 => f10_quiet_b31 p1  (f10_quiet_l31 p1  n) A0 f0 l2 l3 l4
noncomputable def f10_quiet (f0 : Nat → Int32) (A0 : Nat → Nat → Int32) (p1 : Int32) : Option (Int32 × (Nat → Nat → Int32) × (Nat → Int32)) :=
  if (f10_in p1 1 240) = 0 then
    some ((-1), A0, f0)
  else
    (f10_copies 76 (A0 0) 76 (A0 1)).bind fun q_1 =>
    letv (updA A0 1 q_1) fun A0_2 =>
    f10_quiet_l31 p1 NF A0_2 f0 0 0 0
noncomputable def f10_worst_b7 (f0 : Nat → Int32) (A0 : Nat → Nat → Int32) (k7 : Int32 → Int32 → Int32 → Option (Int32)) (l1 : Int32) (l2 : Int32) (l3 : Int32) : Option (Int32) :=
  if 16 ≤ l3 then
    some l1
  else
    if (f10_isTold f0 A0 l3) = 0 then
      k7 l1 l2 (l3 + 1)
    else
      if (0 + l3) < 0 ∨ 76 ≤ (0 + l3).toNatClampNeg then none else
      if (16 + l3) < 0 ∨ 76 ≤ (16 + l3).toNatClampNeg then none else
      if l2 < ((gx (A0 0) (0 + l3)) * (gx (A0 0) (16 + l3))) then
        if (0 + l3) < 0 ∨ 76 ≤ (0 + l3).toNatClampNeg then none else
        if (16 + l3) < 0 ∨ 76 ≤ (16 + l3).toNatClampNeg then none else
        k7 l3 ((gx (A0 0) (0 + l3)) * (gx (A0 0) (16 + l3))) (l3 + 1)
      else
        k7 l1 l2 (l3 + 1)
noncomputable def f10_worst_l7 (f0 : Nat → Int32) (A0 : Nat → Nat → Int32) : Nat → Int32 → Int32 → Int32 → Option (Int32)
  | 0 => fun _ _ _ => none
  | n + 1 => fun l1 l2 l3 => f10_worst_b7 f0 A0  (f10_worst_l7 f0 A0  n) l1 l2 l3
noncomputable def f10_worst (f0 : Nat → Int32) (A0 : Nat → Nat → Int32) : Option (Int32) :=
  f10_worst_l7 f0 A0 NF (-2) (-1) 0
noncomputable def f10_watchedBy_b4 (f0 : Nat → Int32) (A0 : Nat → Nat → Int32) (p1 : Int32) (k4 : Int32 → Int32 → Option (Int32)) (l2 : Int32) (l3 : Int32) : Option (Int32) :=
  if 16 ≤ l3 then
    some l2
  else
    if (f10_has p1 l3) = 0 then
      k4 l2 (l3 + 1)
    else
      if l3 < 0 ∨ 16 ≤ (l3).toNatClampNeg then none else
      k4 (l2 ||| (gx (A0 3) l3)) (l3 + 1)
noncomputable def f10_watchedBy_l4 (f0 : Nat → Int32) (A0 : Nat → Nat → Int32) (p1 : Int32) : Nat → Int32 → Int32 → Option (Int32)
  | 0 => fun _ _ => none
  | n + 1 => fun l2 l3 => f10_watchedBy_b4 f0 A0 p1  (f10_watchedBy_l4 f0 A0 p1  n) l2 l3
noncomputable def f10_watchedBy (f0 : Nat → Int32) (A0 : Nat → Nat → Int32) (p1 : Int32) : Option (Int32) :=
  f10_watchedBy_l4 f0 A0 p1 NF p1 0
noncomputable def f10_posts_b67 (f0 : Nat → Int32) (A0 : Nat → Nat → Int32) (p1 : Int32) (k18 : Int32 → Int32 → Option (Int32)) (l2 : Int32) (l3 : Int32) : Option (Int32) :=
  (f10_watchedBy f0 A0 l3).bind fun q_6 =>
  if ((f0 6) &&& (q_6 ^^^ (-1))) = 0 then
    k18 l3 (l3 + 1)
  else
    k18 l2 (l3 + 1)
noncomputable def f10_posts_b18 (f0 : Nat → Int32) (A0 : Nat → Nat → Int32) (p1 : Int32) (k18 : Int32 → Int32 → Option (Int32)) (l2 : Int32) (l3 : Int32) : Option (Int32) :=
  if (f0 6) < l3 then
    if p1 = 0 then
      (f10_bits l2).bind fun q_1 =>
      some q_1
    else
      some l2
  else
    if (l3 &&& ((f0 6) ^^^ (-1))) = 0 then
      (f10_bits l3).bind fun q_2 =>
      (f10_bits l2).bind fun q_3 =>
      if q_3 < q_2 then
        k18 l2 (l3 + 1)
      else
        (f10_bits l3).bind fun q_4 =>
        (f10_bits l2).bind fun q_5 =>
        if q_4 = q_5 then
          if l3 ≤ l2 then
            f10_posts_b67 f0 A0 p1 k18 l2 l3
          else
            k18 l2 (l3 + 1)
        else
          f10_posts_b67 f0 A0 p1 k18 l2 l3
    else
      k18 l2 (l3 + 1)
noncomputable def f10_posts_l18 (f0 : Nat → Int32) (A0 : Nat → Nat → Int32) (p1 : Int32) : Nat → Int32 → Int32 → Option (Int32)
  | 0 => fun _ _ => none
  | n + 1 => fun l2 l3 => f10_posts_b18 f0 A0 p1  (f10_posts_l18 f0 A0 p1  n) l2 l3
noncomputable def f10_posts (f0 : Nat → Int32) (A0 : Nat → Nat → Int32) (p1 : Int32) : Option (Int32) :=
  if (f10_in p1 0 1) = 0 then
    some (-1)
  else
    f10_posts_l18 f0 A0 p1 NF (f0 6) 0
noncomputable def f10_temptationOf_b4 (f0 : Nat → Int32) (A0 : Nat → Nat → Int32) (p1 : Int32) (k4 : Int32 → Int32 → Option (Int32)) (l2 : Int32) (l3 : Int32) : Option (Int32) :=
  if 16 ≤ l3 then
    some l2
  else
    if (f10_has p1 l3) = 0 then
      k4 l2 (l3 + 1)
    else
      if (0 + l3) < 0 ∨ 76 ≤ (0 + l3).toNatClampNeg then none else
      k4 (l2 + (gx (A0 0) (0 + l3))) (l3 + 1)
noncomputable def f10_temptationOf_l4 (f0 : Nat → Int32) (A0 : Nat → Nat → Int32) (p1 : Int32) : Nat → Int32 → Int32 → Option (Int32)
  | 0 => fun _ _ => none
  | n + 1 => fun l2 l3 => f10_temptationOf_b4 f0 A0 p1  (f10_temptationOf_l4 f0 A0 p1  n) l2 l3
noncomputable def f10_temptationOf (f0 : Nat → Int32) (A0 : Nat → Nat → Int32) (p1 : Int32) : Option (Int32) :=
  f10_temptationOf_l4 f0 A0 p1 NF 0 0
noncomputable def f10_isBetter (f0 : Nat → Int32) (A0 : Nat → Nat → Int32) (p1 : Int32) (p2 : Int32) : Option (Int32) :=
  (f10_temptationOf f0 A0 p1).bind fun q_1 =>
  (f10_temptationOf f0 A0 p2).bind fun q_2 =>
  if q_2 < q_1 then
    some 1
  else
    if q_1 = q_2 then
      if p2 ≤ p1 then
        some 0
      else
        some 1
    else
      some 0
noncomputable def f10_round_b242 (f0 : Nat → Int32) (p1 : Int32) (p2 : Int32) (p3 : Int32) (k242 : (Nat → Nat → Int32) → Int32 → Int32 → Int32 → Option (Int32 × (Nat → Nat → Int32))) (A0 : Nat → Nat → Int32) (l5 : Int32) (l6 : Int32) (l7 : Int32) : Option (Int32 × (Nat → Nat → Int32)) :=
  if l5 ≤ l7 then
    if p3 = 0 then
      (f10_temptationOf f0 A0 l6).bind fun q_4 =>
      some (q_4, A0)
    else
      some (l6, A0)
  else
    if l7 < 0 ∨ 524288 ≤ (l7).toNatClampNeg then none else
    if (gx (A0 44) l7) < 0 ∨ 1048576 ≤ (gx (A0 44) l7).toNatClampNeg then none else
    letv (updA A0 43 (ux (A0 43) (gx (A0 44) l7) (vp_nar .byte 0))) fun A0_7 =>
    k242 A0_7 l5 l6 (l7 + 1)
noncomputable def f10_round_l242 (f0 : Nat → Int32) (p1 : Int32) (p2 : Int32) (p3 : Int32) : Nat → (Nat → Nat → Int32) → Int32 → Int32 → Int32 → Option (Int32 × (Nat → Nat → Int32))
  | 0 => fun _ _ _ _ => none
  | n + 1 => fun A0 l5 l6 l7 => f10_round_b242 f0 p1 p2 p3  (f10_round_l242 f0 p1 p2 p3  n) A0 l5 l6 l7
noncomputable def f10_round_b140 (f0 : Nat → Int32) (p1 : Int32) (p2 : Int32) (p3 : Int32) (k66 : (Nat → Nat → Int32) → Int32 → Int32 → Int32 → Option (Int32 × (Nat → Nat → Int32))) (k140 : (Nat → Nat → Int32) → Int32 → Int32 → Int32 → Int32 → Int32 → Int32 → Option (Int32 × (Nat → Nat → Int32))) (A0 : Nat → Nat → Int32) (l5 : Int32) (l6 : Int32) (l7 : Int32) (l8 : Int32) (l9 : Int32) (l10 : Int32) : Option (Int32 × (Nat → Nat → Int32)) :=
  if 16 ≤ l10 then
    k66 A0 l5 l6 (l7 + 1)
  else
    if l9 < 0 ∨ 16 ≤ (l9).toNatClampNeg then none else
    if (f10_has (gx (A0 3) l9) l10) = 0 then
      k140 A0 l5 l6 l7 l8 l9 (l10 + 1)
    else
      if ((16 * (l8 ||| (shl 1 l10))) + l10) < 0 ∨ 1048576 ≤ ((16 * (l8 ||| (shl 1 l10))) + l10).toNatClampNeg then none else
      if (gx (A0 43) ((16 * (l8 ||| (shl 1 l10))) + l10)) = 0 then
        if l7 < 0 ∨ 524288 ≤ (l7).toNatClampNeg then none else
        if (gx (A0 44) l7) < 0 ∨ 1048576 ≤ (gx (A0 44) l7).toNatClampNeg then none else
        if ((16 * (l8 ||| (shl 1 l10))) + l10) < 0 ∨ 1048576 ≤ ((16 * (l8 ||| (shl 1 l10))) + l10).toNatClampNeg then none else
        letv (updA A0 43 (ux (A0 43) ((16 * (l8 ||| (shl 1 l10))) + l10) (vp_nar .byte (i2b ((gx (A0 43) (gx (A0 44) l7)) + 1))))) fun A0_17 =>
        if l5 < 0 ∨ 524288 ≤ (l5).toNatClampNeg then none else
        letv (updA A0_17 44 (ux (A0_17 44) l5 ((16 * (l8 ||| (shl 1 l10))) + l10))) fun A0_19 =>
        k140 A0_19 (l5 + 1) l6 l7 l8 l9 (l10 + 1)
      else
        k140 A0 l5 l6 l7 l8 l9 (l10 + 1)
noncomputable def f10_round_l140 (f0 : Nat → Int32) (p1 : Int32) (p2 : Int32) (p3 : Int32) (k66 : (Nat → Nat → Int32) → Int32 → Int32 → Int32 → Option (Int32 × (Nat → Nat → Int32))) : Nat → (Nat → Nat → Int32) → Int32 → Int32 → Int32 → Int32 → Int32 → Int32 → Option (Int32 × (Nat → Nat → Int32))
  | 0 => fun _ _ _ _ _ _ _ => none
  | n + 1 => fun A0 l5 l6 l7 l8 l9 l10 => f10_round_b140 f0 p1 p2 p3 k66 (f10_round_l140 f0 p1 p2 p3 k66 n) A0 l5 l6 l7 l8 l9 l10
noncomputable def f10_round_b118 (f0 : Nat → Int32) (p1 : Int32) (p2 : Int32) (p3 : Int32) (k66 : (Nat → Nat → Int32) → Int32 → Int32 → Int32 → Option (Int32 × (Nat → Nat → Int32))) (A0 : Nat → Nat → Int32) (l5 : Int32) (l6 : Int32) (l7 : Int32) (l8 : Int32) (l9 : Int32) : Option (Int32 × (Nat → Nat → Int32)) :=
  if l7 < 0 ∨ 524288 ≤ (l7).toNatClampNeg then none else
  if (gx (A0 44) l7) < 0 ∨ 1048576 ≤ (gx (A0 44) l7).toNatClampNeg then none else
  if (gx (A0 43) (gx (A0 44) l7)) ≤ p2 then
    f10_round_l140 f0 p1 p2 p3 k66 NF A0 l5 l6 l7 l8 l9 0
  else
    k66 A0 l5 l6 (l7 + 1)
noncomputable def f10_round_b66 (f0 : Nat → Int32) (p1 : Int32) (p2 : Int32) (p3 : Int32) (k66 : (Nat → Nat → Int32) → Int32 → Int32 → Int32 → Option (Int32 × (Nat → Nat → Int32))) (A0 : Nat → Nat → Int32) (l5 : Int32) (l6 : Int32) (l7 : Int32) : Option (Int32 × (Nat → Nat → Int32)) :=
  if l5 ≤ l7 then
    f10_round_l242 f0 p1 p2 p3 NF A0 l5 l6 0
  else
    if l7 < 0 ∨ 524288 ≤ (l7).toNatClampNeg then none else
    if l7 < 0 ∨ 524288 ≤ (l7).toNatClampNeg then none else
    if (irm (gx (A0 44) l7) 16) = p1 then
      (f10_isBetter f0 A0 ((gx (A0 44) l7) / 16) l6).bind fun q_20 =>
      if q_20 = 0 then
        f10_round_b118 f0 p1 p2 p3 k66 A0 l5 l6 l7 ((gx (A0 44) l7) / 16) (irm (gx (A0 44) l7) 16)
      else
        f10_round_b118 f0 p1 p2 p3 k66 A0 l5 ((gx (A0 44) l7) / 16) l7 ((gx (A0 44) l7) / 16) (irm (gx (A0 44) l7) 16)
    else
      f10_round_b118 f0 p1 p2 p3 k66 A0 l5 l6 l7 ((gx (A0 44) l7) / 16) (irm (gx (A0 44) l7) 16)
noncomputable def f10_round_l66 (f0 : Nat → Int32) (p1 : Int32) (p2 : Int32) (p3 : Int32) : Nat → (Nat → Nat → Int32) → Int32 → Int32 → Int32 → Option (Int32 × (Nat → Nat → Int32))
  | 0 => fun _ _ _ _ => none
  | n + 1 => fun A0 l5 l6 l7 => f10_round_b66 f0 p1 p2 p3  (f10_round_l66 f0 p1 p2 p3  n) A0 l5 l6 l7
noncomputable def f10_round (f0 : Nat → Int32) (A0 : Nat → Nat → Int32) (p1 : Int32) (p2 : Int32) (p3 : Int32) : Option (Int32 × (Nat → Nat → Int32)) :=
  if (f10_isTold f0 A0 p1) = 0 then
    some ((-1), A0)
  else
    if (f10_in p2 1 8) = 0 then
      some ((-1), A0)
    else
      if (f10_in p3 0 1) = 0 then
        some ((-1), A0)
      else
        letv (updA A0 44 (ux (A0 44) 0 ((16 * (shl 1 p1)) + p1))) fun A0_1 =>
        if ((16 * (shl 1 p1)) + p1) < 0 ∨ 1048576 ≤ ((16 * (shl 1 p1)) + p1).toNatClampNeg then none else
        letv (updA A0_1 43 (ux (A0_1 43) ((16 * (shl 1 p1)) + p1) (vp_nar .byte 1))) fun A0_3 =>
        f10_round_l66 f0 p1 p2 p3 NF A0_3 1 (shl 1 p1) 0
noncomputable def f10_laysSteps_b133 (f0 : Nat → Int32) (p1 : Int32) (k69 : (Nat → Nat → Int32) → Int32 → Int32 → Int32 → Int32 → Option ((Nat → Nat → Int32))) (A0 : Nat → Nat → Int32) (l2 : Int32) (l3 : Int32) (l4 : Int32) (l5 : Int32) : Option ((Nat → Nat → Int32)) :=
  if l5 < 0 ∨ 16 ≤ (l5).toNatClampNeg then none else
  if l4 < 0 ∨ 16 ≤ (l4).toNatClampNeg then none else
  if (gx (A0 46) l5) = ((gx (A0 46) l4) + 1) then
    if l5 < 0 ∨ 16 ≤ (l5).toNatClampNeg then none else
    if l4 < 0 ∨ 16 ≤ (l4).toNatClampNeg then none else
    if l5 < 0 ∨ 16 ≤ (l5).toNatClampNeg then none else
    letv (updA A0 47 (ux (A0 47) l5 ((gx (A0 47) l5) + (gx (A0 47) l4)))) fun A0_14 =>
    k69 A0_14 l2 l3 l4 (l5 + 1)
  else
    k69 A0 l2 l3 l4 (l5 + 1)
noncomputable def f10_laysSteps_b69 (f0 : Nat → Int32) (p1 : Int32) (k53 : (Nat → Nat → Int32) → Int32 → Int32 → Option ((Nat → Nat → Int32))) (k69 : (Nat → Nat → Int32) → Int32 → Int32 → Int32 → Int32 → Option ((Nat → Nat → Int32))) (A0 : Nat → Nat → Int32) (l2 : Int32) (l3 : Int32) (l4 : Int32) (l5 : Int32) : Option ((Nat → Nat → Int32)) :=
  if 16 ≤ l5 then
    k53 A0 l2 (l3 + 1)
  else
    if l4 < 0 ∨ 16 ≤ (l4).toNatClampNeg then none else
    if (f10_has (gx (A0 3) l4) l5) = 0 then
      k69 A0 l2 l3 l4 (l5 + 1)
    else
      if l5 < 0 ∨ 16 ≤ (l5).toNatClampNeg then none else
      if (gx (A0 46) l5) = (-1) then
        if l4 < 0 ∨ 16 ≤ (l4).toNatClampNeg then none else
        if l5 < 0 ∨ 16 ≤ (l5).toNatClampNeg then none else
        letv (updA A0 46 (ux (A0 46) l5 ((gx (A0 46) l4) + 1))) fun A0_17 =>
        if l2 < 0 ∨ 16 ≤ (l2).toNatClampNeg then none else
        letv (updA A0_17 45 (ux (A0_17 45) l2 l5)) fun A0_19 =>
        f10_laysSteps_b133 f0 p1 k69 A0_19 (l2 + 1) l3 l4 l5
      else
        f10_laysSteps_b133 f0 p1 k69 A0 l2 l3 l4 l5
noncomputable def f10_laysSteps_l69 (f0 : Nat → Int32) (p1 : Int32) (k53 : (Nat → Nat → Int32) → Int32 → Int32 → Option ((Nat → Nat → Int32))) : Nat → (Nat → Nat → Int32) → Int32 → Int32 → Int32 → Int32 → Option ((Nat → Nat → Int32))
  | 0 => fun _ _ _ _ _ => none
  | n + 1 => fun A0 l2 l3 l4 l5 => f10_laysSteps_b69 f0 p1 k53 (f10_laysSteps_l69 f0 p1 k53 n) A0 l2 l3 l4 l5
noncomputable def f10_laysSteps_b53 (f0 : Nat → Int32) (p1 : Int32) (k53 : (Nat → Nat → Int32) → Int32 → Int32 → Option ((Nat → Nat → Int32))) (A0 : Nat → Nat → Int32) (l2 : Int32) (l3 : Int32) : Option ((Nat → Nat → Int32)) :=
  if l2 ≤ l3 then
    some A0
  else
    if l3 < 0 ∨ 16 ≤ (l3).toNatClampNeg then none else
    f10_laysSteps_l69 f0 p1 k53 NF A0 l2 l3 (gx (A0 45) l3) 0
noncomputable def f10_laysSteps_l53 (f0 : Nat → Int32) (p1 : Int32) : Nat → (Nat → Nat → Int32) → Int32 → Int32 → Option ((Nat → Nat → Int32))
  | 0 => fun _ _ _ => none
  | n + 1 => fun A0 l2 l3 => f10_laysSteps_b53 f0 p1  (f10_laysSteps_l53 f0 p1  n) A0 l2 l3
noncomputable def f10_laysSteps_b2 (f0 : Nat → Int32) (p1 : Int32) (k2 : (Nat → Nat → Int32) → Int32 → Option ((Nat → Nat → Int32))) (A0 : Nat → Nat → Int32) (l2 : Int32) : Option ((Nat → Nat → Int32)) :=
  if 16 ≤ l2 then
    if p1 < 0 ∨ 16 ≤ (p1).toNatClampNeg then none else
    letv (updA A0 46 (ux (A0 46) p1 0)) fun A0_2 =>
    if p1 < 0 ∨ 16 ≤ (p1).toNatClampNeg then none else
    letv (updA A0_2 47 (ux (A0_2 47) p1 1)) fun A0_4 =>
    letv (updA A0_4 45 (ux (A0_4 45) 0 p1)) fun A0_5 =>
    f10_laysSteps_l53 f0 p1 NF A0_5 1 0
  else
    if l2 < 0 ∨ 16 ≤ (l2).toNatClampNeg then none else
    letv (updA A0 46 (ux (A0 46) l2 (-1))) fun A0_21 =>
    if l2 < 0 ∨ 16 ≤ (l2).toNatClampNeg then none else
    letv (updA A0_21 47 (ux (A0_21 47) l2 0)) fun A0_23 =>
    k2 A0_23 (l2 + 1)
noncomputable def f10_laysSteps_l2 (f0 : Nat → Int32) (p1 : Int32) : Nat → (Nat → Nat → Int32) → Int32 → Option ((Nat → Nat → Int32))
  | 0 => fun _ _ => none
  | n + 1 => fun A0 l2 => f10_laysSteps_b2 f0 p1  (f10_laysSteps_l2 f0 p1  n) A0 l2
noncomputable def f10_laysSteps (f0 : Nat → Int32) (A0 : Nat → Nat → Int32) (p1 : Int32) : Option ((Nat → Nat → Int32)) :=
  f10_laysSteps_l2 f0 p1 NF A0 0
noncomputable def f10_isBridge (f0 : Nat → Int32) (A0 : Nat → Nat → Int32) (p1 : Int32) (p2 : Int32) : Option (Int32 × (Nat → Nat → Int32)) :=
  if p1 < 0 ∨ 16 ≤ (p1).toNatClampNeg then none else
  if p1 < 0 ∨ 16 ≤ (p1).toNatClampNeg then none else
  letv (updA A0 3 (ux (A0 3) p1 ((gx (A0 3) p1) &&& ((shl 1 p2) ^^^ (-1))))) fun A0_3 =>
  if p2 < 0 ∨ 16 ≤ (p2).toNatClampNeg then none else
  if p2 < 0 ∨ 16 ≤ (p2).toNatClampNeg then none else
  letv (updA A0_3 3 (ux (A0_3 3) p2 ((gx (A0_3 3) p2) &&& ((shl 1 p1) ^^^ (-1))))) fun A0_6 =>
  (f10_laysSteps f0 A0_6 p1).bind fun q_7 =>
  if p1 < 0 ∨ 16 ≤ (p1).toNatClampNeg then none else
  if p1 < 0 ∨ 16 ≤ (p1).toNatClampNeg then none else
  letv (updA q_7 3 (ux (q_7 3) p1 ((gx (q_7 3) p1) ||| (shl 1 p2)))) fun A0_10 =>
  if p2 < 0 ∨ 16 ≤ (p2).toNatClampNeg then none else
  if p2 < 0 ∨ 16 ≤ (p2).toNatClampNeg then none else
  letv (updA A0_10 3 (ux (A0_10 3) p2 ((gx (A0_10 3) p2) ||| (shl 1 p1)))) fun A0_13 =>
  if p2 < 0 ∨ 16 ≤ (p2).toNatClampNeg then none else
  if (gx (A0_13 46) p2) = (-1) then
    some (1, A0_13)
  else
    some (0, A0_13)
noncomputable def f10_lanes_b36 (f0 : Nat → Int32) (p1 : Int32) (k27 : (Nat → Nat → Int32) → Int32 → Int32 → Int32 → Int32 → Int32 → Option (Int32 × (Nat → Nat → Int32))) (k36 : (Nat → Nat → Int32) → Int32 → Int32 → Int32 → Int32 → Int32 → Int32 → Option (Int32 × (Nat → Nat → Int32))) (A0 : Nat → Nat → Int32) (l2 : Int32) (l3 : Int32) (l4 : Int32) (l5 : Int32) (l6 : Int32) (l7 : Int32) : Option (Int32 × (Nat → Nat → Int32)) :=
  if l7 ≤ l6 then
    k27 A0 l2 l3 l4 l5 (l6 + (-1))
  else
    if l6 < 0 ∨ 16 ≤ (l6).toNatClampNeg then none else
    if (f10_has (gx (A0 3) l6) l7) = 0 then
      k36 A0 l2 l3 l4 l5 l6 (l7 + (-1))
    else
      (f10_isBridge f0 A0 l6 l7).bind fun q_2 =>
      if q_2.1 = 0 then
        k36 q_2.2 (l2 + 1) l3 l4 l5 l6 (l7 + (-1))
      else
        k36 q_2.2 (l2 + 1) (l3 + 1) l6 l7 l6 (l7 + (-1))
noncomputable def f10_lanes_l36 (f0 : Nat → Int32) (p1 : Int32) (k27 : (Nat → Nat → Int32) → Int32 → Int32 → Int32 → Int32 → Int32 → Option (Int32 × (Nat → Nat → Int32))) : Nat → (Nat → Nat → Int32) → Int32 → Int32 → Int32 → Int32 → Int32 → Int32 → Option (Int32 × (Nat → Nat → Int32))
  | 0 => fun _ _ _ _ _ _ _ => none
  | n + 1 => fun A0 l2 l3 l4 l5 l6 l7 => f10_lanes_b36 f0 p1 k27 (f10_lanes_l36 f0 p1 k27 n) A0 l2 l3 l4 l5 l6 l7
noncomputable def f10_lanes_b27 (f0 : Nat → Int32) (p1 : Int32) (k27 : (Nat → Nat → Int32) → Int32 → Int32 → Int32 → Int32 → Int32 → Option (Int32 × (Nat → Nat → Int32))) (A0 : Nat → Nat → Int32) (l2 : Int32) (l3 : Int32) (l4 : Int32) (l5 : Int32) (l6 : Int32) : Option (Int32 × (Nat → Nat → Int32)) :=
  if l6 < 0 then
    if p1 = 0 then
      some (l2, A0)
    else
      if p1 = 1 then
        some (l3, A0)
      else
        if p1 = 2 then
          some (l4, A0)
        else
          some (l5, A0)
  else
    f10_lanes_l36 f0 p1 k27 NF A0 l2 l3 l4 l5 l6 15
noncomputable def f10_lanes_l27 (f0 : Nat → Int32) (p1 : Int32) : Nat → (Nat → Nat → Int32) → Int32 → Int32 → Int32 → Int32 → Int32 → Option (Int32 × (Nat → Nat → Int32))
  | 0 => fun _ _ _ _ _ _ => none
  | n + 1 => fun A0 l2 l3 l4 l5 l6 => f10_lanes_b27 f0 p1  (f10_lanes_l27 f0 p1  n) A0 l2 l3 l4 l5 l6
noncomputable def f10_lanes (f0 : Nat → Int32) (A0 : Nat → Nat → Int32) (p1 : Int32) : Option (Int32 × (Nat → Nat → Int32)) :=
  if (f10_in p1 0 3) = 0 then
    some ((-1), A0)
  else
    f10_lanes_l27 f0 p1 NF A0 0 0 (-2) (-2) 15
noncomputable def f10_clashes_b2 (f0 : Nat → Int32) (A0 : Nat → Nat → Int32) (p1 : Int32) (k2 : Int32 → Option (Int32)) (l2 : Int32) : Option (Int32) :=
  if p1 ≤ l2 then
    some 0
  else
    if l2 < 0 ∨ 16 ≤ (l2).toNatClampNeg then none else
    if p1 < 0 ∨ 16 ≤ (p1).toNatClampNeg then none else
    if (gx (A0 48) l2) = (gx (A0 48) p1) then
      if p1 < 0 ∨ 16 ≤ (p1).toNatClampNeg then none else
      if (gx (A0 49) p1) < 0 ∨ 16 ≤ (gx (A0 49) p1).toNatClampNeg then none else
      if l2 < 0 ∨ 16 ≤ (l2).toNatClampNeg then none else
      if (f10_has (gx (A0 3) (gx (A0 49) p1)) (gx (A0 49) l2)) = 0 then
        k2 (l2 + 1)
      else
        some 1
    else
      k2 (l2 + 1)
noncomputable def f10_clashes_l2 (f0 : Nat → Int32) (A0 : Nat → Nat → Int32) (p1 : Int32) : Nat → Int32 → Option (Int32)
  | 0 => fun _ => none
  | n + 1 => fun l2 => f10_clashes_b2 f0 A0 p1  (f10_clashes_l2 f0 A0 p1  n) l2
noncomputable def f10_clashes (f0 : Nat → Int32) (A0 : Nat → Nat → Int32) (p1 : Int32) : Option (Int32) :=
  f10_clashes_l2 f0 A0 p1 NF 0
noncomputable def f10_highestOf_b4 (f0 : Nat → Int32) (A0 : Nat → Nat → Int32) (p1 : Int32) (k4 : Int32 → Int32 → Option (Int32)) (l2 : Int32) (l3 : Int32) : Option (Int32) :=
  if p1 ≤ l3 then
    some l2
  else
    if l3 < 0 ∨ 16 ≤ (l3).toNatClampNeg then none else
    k4 (f10_max l2 (gx (A0 48) l3)) (l3 + 1)
noncomputable def f10_highestOf_l4 (f0 : Nat → Int32) (A0 : Nat → Nat → Int32) (p1 : Int32) : Nat → Int32 → Int32 → Option (Int32)
  | 0 => fun _ _ => none
  | n + 1 => fun l2 l3 => f10_highestOf_b4 f0 A0 p1  (f10_highestOf_l4 f0 A0 p1  n) l2 l3
noncomputable def f10_highestOf (f0 : Nat → Int32) (A0 : Nat → Nat → Int32) (p1 : Int32) : Option (Int32) :=
  f10_highestOf_l4 f0 A0 p1 NF (-1) 0
noncomputable def f10_laysWatches_b9 (f0 : Nat → Int32) (p1 : Int32) (p2 : Int32) (k9 : (Nat → Nat → Int32) → Int32 → Option (Int32 × (Nat → Nat → Int32))) (A0 : Nat → Nat → Int32) (l3 : Int32) : Option (Int32 × (Nat → Nat → Int32)) :=
  if l3 < 0 then
    if l3 = p1 then
      some (1, A0)
    else
      some (0, A0)
  else
    if p1 ≤ l3 then
      if l3 = p1 then
        some (1, A0)
      else
        some (0, A0)
    else
      if l3 < 0 ∨ 16 ≤ (l3).toNatClampNeg then none else
      if l3 < 0 ∨ 16 ≤ (l3).toNatClampNeg then none else
      letv (updA A0 48 (ux (A0 48) l3 ((gx (A0 48) l3) + 1))) fun A0_4 =>
      if l3 < 0 ∨ 16 ≤ (l3).toNatClampNeg then none else
      if p2 ≤ (gx (A0_4 48) l3) then
        k9 A0_4 (l3 - 1)
      else
        if l3 < 0 ∨ 16 ≤ (l3).toNatClampNeg then none else
        (f10_highestOf f0 A0_4 l3).bind fun q_7 =>
        if (gx (A0_4 48) l3) ≤ (q_7 + 1) then
          (f10_clashes f0 A0_4 l3).bind fun q_8 =>
          if q_8 = 0 then
            if p1 ≤ (l3 + 1) then
              k9 A0_4 (l3 + 1)
            else
              if (l3 + 1) < 0 ∨ 16 ≤ (l3 + 1).toNatClampNeg then none else
              letv (updA A0_4 48 (ux (A0_4 48) (l3 + 1) (-1))) fun A0_10 =>
              k9 A0_10 (l3 + 1)
          else
            k9 A0_4 l3
        else
          k9 A0_4 (l3 - 1)
noncomputable def f10_laysWatches_l9 (f0 : Nat → Int32) (p1 : Int32) (p2 : Int32) : Nat → (Nat → Nat → Int32) → Int32 → Option (Int32 × (Nat → Nat → Int32))
  | 0 => fun _ _ => none
  | n + 1 => fun A0 l3 => f10_laysWatches_b9 f0 p1 p2  (f10_laysWatches_l9 f0 p1 p2  n) A0 l3
noncomputable def f10_laysWatches (f0 : Nat → Int32) (A0 : Nat → Nat → Int32) (p1 : Int32) (p2 : Int32) : Option (Int32 × (Nat → Nat → Int32)) :=
  letv (updA A0 48 (ux (A0 48) 0 (-1))) fun A0_1 =>
  f10_laysWatches_l9 f0 p1 p2 NF A0_1 0
noncomputable def f10_watches_b94 (f0 : Nat → Int32) (p1 : Int32) (A0 : Nat → Nat → Int32) (l3 : Int32) (l4 : Int32) : Option (Int32 × (Nat → Nat → Int32)) :=
  if p1 = 100 then
    some (l4, A0)
  else
    if l3 < 0 ∨ 16 ≤ (l3).toNatClampNeg then none else
    some (gx (A0 48) l3, A0)
noncomputable def f10_watches_b71 (f0 : Nat → Int32) (p1 : Int32) (k71 : (Nat → Nat → Int32) → Int32 → Int32 → Int32 → Option (Int32 × (Nat → Nat → Int32))) (A0 : Nat → Nat → Int32) (l2 : Int32) (l3 : Int32) (l4 : Int32) : Option (Int32 × (Nat → Nat → Int32)) :=
  if l2 ≤ 0 then
    f10_watches_b94 f0 p1 A0 l3 l4
  else
    (f10_laysWatches f0 A0 l2 l4).bind fun q_2 =>
    if q_2.1 = 0 then
      k71 q_2.2 l2 l3 (l4 + 1)
    else
      f10_watches_b94 f0 p1 q_2.2 l3 l4
noncomputable def f10_watches_l71 (f0 : Nat → Int32) (p1 : Int32) : Nat → (Nat → Nat → Int32) → Int32 → Int32 → Int32 → Option (Int32 × (Nat → Nat → Int32))
  | 0 => fun _ _ _ _ => none
  | n + 1 => fun A0 l2 l3 l4 => f10_watches_b71 f0 p1  (f10_watches_l71 f0 p1  n) A0 l2 l3 l4
noncomputable def f10_watches_b50 (f0 : Nat → Int32) (p1 : Int32) (k23 : (Nat → Nat → Int32) → Int32 → Int32 → Int32 → Option (Int32 × (Nat → Nat → Int32))) (A0 : Nat → Nat → Int32) (l2 : Int32) (l3 : Int32) (l4 : Int32) : Option (Int32 × (Nat → Nat → Int32)) :=
  if l2 < 0 ∨ 16 ≤ (l2).toNatClampNeg then none else
  letv (updA A0 49 (ux (A0 49) l2 l4)) fun A0_4 =>
  k23 A0_4 (l2 + 1) l3 (l4 + 1)
noncomputable def f10_watches_b23 (f0 : Nat → Int32) (p1 : Int32) (k23 : (Nat → Nat → Int32) → Int32 → Int32 → Int32 → Option (Int32 × (Nat → Nat → Int32))) (A0 : Nat → Nat → Int32) (l2 : Int32) (l3 : Int32) (l4 : Int32) : Option (Int32 × (Nat → Nat → Int32)) :=
  if 16 ≤ l4 then
    f10_watches_l71 f0 p1 NF A0 l2 l3 0
  else
    if (f10_isTold f0 A0 l4) = 0 then
      k23 A0 l2 l3 (l4 + 1)
    else
      if l4 = p1 then
        f10_watches_b50 f0 p1 k23 A0 l2 l2 l4
      else
        f10_watches_b50 f0 p1 k23 A0 l2 l3 l4
noncomputable def f10_watches_l23 (f0 : Nat → Int32) (p1 : Int32) : Nat → (Nat → Nat → Int32) → Int32 → Int32 → Int32 → Option (Int32 × (Nat → Nat → Int32))
  | 0 => fun _ _ _ _ => none
  | n + 1 => fun A0 l2 l3 l4 => f10_watches_b23 f0 p1  (f10_watches_l23 f0 p1  n) A0 l2 l3 l4
noncomputable def f10_watches (f0 : Nat → Int32) (A0 : Nat → Nat → Int32) (p1 : Int32) : Option (Int32 × (Nat → Nat → Int32)) :=
  if p1 = 100 then
    f10_watches_l23 f0 p1 NF A0 0 (-1) 0
  else
    if (f10_isTold f0 A0 p1) = 0 then
      some ((-1), A0)
    else
      f10_watches_l23 f0 p1 NF A0 0 (-1) 0
noncomputable def f10_way_b89 (f0 : Nat → Int32) (p1 : Int32) (p2 : Int32) (p3 : Int32) (k80 : (Nat → Nat → Int32) → Int32 → Int32 → Option (Int32 × (Nat → Nat → Int32))) (k89 : (Nat → Nat → Int32) → Int32 → Int32 → Int32 → Option (Int32 × (Nat → Nat → Int32))) (A0 : Nat → Nat → Int32) (l5 : Int32) (l6 : Int32) (l7 : Int32) : Option (Int32 × (Nat → Nat → Int32)) :=
  if l5 < 0 ∨ 16 ≤ (l5).toNatClampNeg then none else
  if (f10_has (gx (A0 3) l5) l7) = 0 then
    k89 A0 l5 l6 (l7 + 1)
  else
    if l7 < 0 ∨ 16 ≤ (l7).toNatClampNeg then none else
    if l5 < 0 ∨ 16 ≤ (l5).toNatClampNeg then none else
    if (gx (A0 46) l7) = ((gx (A0 46) l5) - 1) then
      k80 A0 l7 (l6 + 1)
    else
      k89 A0 l5 l6 (l7 + 1)
noncomputable def f10_way_l89 (f0 : Nat → Int32) (p1 : Int32) (p2 : Int32) (p3 : Int32) (k80 : (Nat → Nat → Int32) → Int32 → Int32 → Option (Int32 × (Nat → Nat → Int32))) : Nat → (Nat → Nat → Int32) → Int32 → Int32 → Int32 → Option (Int32 × (Nat → Nat → Int32))
  | 0 => fun _ _ _ _ => none
  | n + 1 => fun A0 l5 l6 l7 => f10_way_b89 f0 p1 p2 p3 k80 (f10_way_l89 f0 p1 p2 p3 k80 n) A0 l5 l6 l7
noncomputable def f10_way_b80 (f0 : Nat → Int32) (p1 : Int32) (p2 : Int32) (p3 : Int32) (k80 : (Nat → Nat → Int32) → Int32 → Int32 → Option (Int32 × (Nat → Nat → Int32))) (A0 : Nat → Nat → Int32) (l5 : Int32) (l6 : Int32) : Option (Int32 × (Nat → Nat → Int32)) :=
  if p3 ≤ l6 then
    some (l5, A0)
  else
    f10_way_l89 f0 p1 p2 p3 k80 NF A0 l5 l6 0
noncomputable def f10_way_l80 (f0 : Nat → Int32) (p1 : Int32) (p2 : Int32) (p3 : Int32) : Nat → (Nat → Nat → Int32) → Int32 → Int32 → Option (Int32 × (Nat → Nat → Int32))
  | 0 => fun _ _ _ => none
  | n + 1 => fun A0 l5 l6 => f10_way_b80 f0 p1 p2 p3  (f10_way_l80 f0 p1 p2 p3  n) A0 l5 l6
noncomputable def f10_way_b34 (f0 : Nat → Int32) (p1 : Int32) (p2 : Int32) (p3 : Int32) (A0 : Nat → Nat → Int32) : Option (Int32 × (Nat → Nat → Int32)) :=
  (f10_laysSteps f0 A0 p2).bind fun q_1 =>
  if p1 < 0 ∨ 16 ≤ (p1).toNatClampNeg then none else
  if (gx (q_1 46) p1) = (-1) then
    some ((-2), q_1)
  else
    if p3 = 100 then
      some (gx (q_1 46) p1, q_1)
    else
      if p3 ≤ (gx (q_1 46) p1) then
        f10_way_l80 f0 p1 p2 p3 NF q_1 p1 0
      else
        some ((-4), q_1)
noncomputable def f10_way (f0 : Nat → Int32) (A0 : Nat → Nat → Int32) (p1 : Int32) (p2 : Int32) (p3 : Int32) : Option (Int32 × (Nat → Nat → Int32)) :=
  if (f10_isTold f0 A0 p1) = 0 then
    some ((-1), A0)
  else
    if (f10_isTold f0 A0 p2) = 0 then
      some ((-1), A0)
    else
      if (f10_in p3 0 15) = 0 then
        if p3 = 100 then
          f10_way_b34 f0 p1 p2 p3 A0
        else
          some ((-1), A0)
      else
        f10_way_b34 f0 p1 p2 p3 A0
noncomputable def f10_ways (f0 : Nat → Int32) (A0 : Nat → Nat → Int32) (p1 : Int32) (p2 : Int32) : Option (Int32 × (Nat → Nat → Int32)) :=
  if (f10_isTold f0 A0 p1) = 0 then
    some ((-1), A0)
  else
    if (f10_isTold f0 A0 p2) = 0 then
      some ((-1), A0)
    else
      (f10_laysSteps f0 A0 p1).bind fun q_1 =>
      if p2 < 0 ∨ 16 ≤ (p2).toNatClampNeg then none else
      some (gx (q_1 47) p2, q_1)
noncomputable def f10_nearest_b35 (f0 : Nat → Int32) (p1 : Int32) (p2 : Int32) (k35 : (Nat → Nat → Int32) → Int32 → Int32 → Int32 → Option (Int32 × (Nat → Nat → Int32))) (A0 : Nat → Nat → Int32) (l3 : Int32) (l4 : Int32) (l5 : Int32) : Option (Int32 × (Nat → Nat → Int32)) :=
  if 8 ≤ l5 then
    if p2 = 0 then
      some (l3, A0)
    else
      if l3 = (-2) then
        some (l3, A0)
      else
        some (l4, A0)
  else
    (f10_isMan f0 A0 l5).bind fun q_2 =>
    if q_2 = 0 then
      k35 A0 l3 l4 (l5 + 1)
    else
      if (56 + l5) < 0 ∨ 76 ≤ (56 + l5).toNatClampNeg then none else
      if (gx (A0 0) (56 + l5)) < 0 ∨ 16 ≤ (gx (A0 0) (56 + l5)).toNatClampNeg then none else
      if (gx (A0 46) (gx (A0 0) (56 + l5))) = (-1) then
        k35 A0 l3 l4 (l5 + 1)
      else
        if (56 + l5) < 0 ∨ 76 ≤ (56 + l5).toNatClampNeg then none else
        if (gx (A0 0) (56 + l5)) < 0 ∨ 16 ≤ (gx (A0 0) (56 + l5)).toNatClampNeg then none else
        if (gx (A0 46) (gx (A0 0) (56 + l5))) < l4 then
          if (56 + l5) < 0 ∨ 76 ≤ (56 + l5).toNatClampNeg then none else
          if (gx (A0 0) (56 + l5)) < 0 ∨ 16 ≤ (gx (A0 0) (56 + l5)).toNatClampNeg then none else
          k35 A0 l5 (gx (A0 46) (gx (A0 0) (56 + l5))) (l5 + 1)
        else
          k35 A0 l3 l4 (l5 + 1)
noncomputable def f10_nearest_l35 (f0 : Nat → Int32) (p1 : Int32) (p2 : Int32) : Nat → (Nat → Nat → Int32) → Int32 → Int32 → Int32 → Option (Int32 × (Nat → Nat → Int32))
  | 0 => fun _ _ _ _ => none
  | n + 1 => fun A0 l3 l4 l5 => f10_nearest_b35 f0 p1 p2  (f10_nearest_l35 f0 p1 p2  n) A0 l3 l4 l5
noncomputable def f10_nearest (f0 : Nat → Int32) (A0 : Nat → Nat → Int32) (p1 : Int32) (p2 : Int32) : Option (Int32 × (Nat → Nat → Int32)) :=
  if (f10_isTold f0 A0 p1) = 0 then
    some ((-1), A0)
  else
    if (f10_in p2 0 1) = 0 then
      some ((-1), A0)
    else
      (f10_laysSteps f0 A0 p1).bind fun q_1 =>
      f10_nearest_l35 f0 p1 p2 NF q_1 (-2) 1000000 0
noncomputable def f10_stepsOrFar (f0 : Nat → Int32) (A0 : Nat → Nat → Int32) (p1 : Int32) : Option (Int32) :=
  if p1 < 0 ∨ 16 ≤ (p1).toNatClampNeg then none else
  if (gx (A0 46) p1) = (-1) then
    some 1000000
  else
    if p1 < 0 ∨ 16 ≤ (p1).toNatClampNeg then none else
    some (gx (A0 46) p1)
noncomputable def f10_alibis_b102 (p1 : Int32) (p2 : Int32) (p3 : Int32) (k102 : (Nat → Nat → Int32) → (Nat → Int32) → Int32 → Int32 → Option (Int32 × (Nat → Nat → Int32) × (Nat → Int32))) (A0 : Nat → Nat → Int32) (f0 : Nat → Int32) (l4 : Int32) (l5 : Int32) : Option (Int32 × (Nat → Nat → Int32) × (Nat → Int32)) :=
  if p1 ≤ l5 then
    some (l4, A0, f0)
  else
    (f10_octet f0 A0 (4 * l5)).bind fun q_2 =>
    (f10_laysSteps f0 A0 q_2).bind fun q_3 =>
    (f10_octet f0 q_3 ((4 * l5) + 2)).bind fun q_4 =>
    (f10_stepsOrFar f0 q_3 q_4).bind fun q_5 =>
    (f10_stepsOrFar f0 q_3 p2).bind fun q_6 =>
    (f10_octet f0 q_3 ((4 * l5) + 2)).bind fun q_7 =>
    (f10_laysSteps f0 q_3 q_7).bind fun q_8 =>
    (f10_stepsOrFar f0 q_8 p2).bind fun q_9 =>
    (f10_octet f0 q_8 ((4 * l5) + 1)).bind fun q_10 =>
    (f10_octet f0 q_8 ((4 * l5) + 3)).bind fun q_11 =>
    if (q_11 - q_10) < q_5 then
      k102 q_8 f0 l4 (l5 + 1)
    else
      if (p3 - q_10) < q_6 then
        k102 q_8 f0 l4 (l5 + 1)
      else
        if (q_11 - p3) < q_9 then
          k102 q_8 f0 l4 (l5 + 1)
        else
          k102 q_8 f0 (l4 ||| (shl 1 l5)) (l5 + 1)
noncomputable def f10_alibis_l102 (p1 : Int32) (p2 : Int32) (p3 : Int32) : Nat → (Nat → Nat → Int32) → (Nat → Int32) → Int32 → Int32 → Option (Int32 × (Nat → Nat → Int32) × (Nat → Int32))
  | 0 => fun _ _ _ _ => none
  | n + 1 => fun A0 f0 l4 l5 => f10_alibis_b102 p1 p2 p3  (f10_alibis_l102 p1 p2 p3  n) A0 f0 l4 l5
noncomputable def f10_alibis_b49 (p1 : Int32) (p2 : Int32) (p3 : Int32) (k49 : (Nat → Nat → Int32) → (Nat → Int32) → Int32 → Option (Int32 × (Nat → Nat → Int32) × (Nat → Int32))) (A0 : Nat → Nat → Int32) (f0 : Nat → Int32) (l4 : Int32) : Option (Int32 × (Nat → Nat → Int32) × (Nat → Int32)) :=
  if p1 ≤ l4 then
    f10_alibis_l102 p1 p2 p3 NF A0 f0 0 0
  else
    (f10_octet f0 A0 (4 * l4)).bind fun q_12 =>
    if (f10_isTold f0 A0 q_12) = 0 then
      some ((-2), A0, f0)
    else
      (f10_octet f0 A0 ((4 * l4) + 2)).bind fun q_13 =>
      if (f10_isTold f0 A0 q_13) = 0 then
        some ((-2), A0, f0)
      else
        k49 A0 f0 (l4 + 1)
noncomputable def f10_alibis_l49 (p1 : Int32) (p2 : Int32) (p3 : Int32) : Nat → (Nat → Nat → Int32) → (Nat → Int32) → Int32 → Option (Int32 × (Nat → Nat → Int32) × (Nat → Int32))
  | 0 => fun _ _ _ => none
  | n + 1 => fun A0 f0 l4 => f10_alibis_b49 p1 p2 p3  (f10_alibis_l49 p1 p2 p3  n) A0 f0 l4
noncomputable def f10_alibis (f0 : Nat → Int32) (A0 : Nat → Nat → Int32) (p1 : Int32) (p2 : Int32) (p3 : Int32) : Option (Int32 × (Nat → Nat → Int32) × (Nat → Int32)) :=
  if (f10_in p1 1 10) = 0 then
    some ((-1), A0, f0)
  else
    if (f10_isTold f0 A0 p2) = 0 then
      some ((-1), A0, f0)
    else
      if (f10_in p3 0 255) = 0 then
        some ((-1), A0, f0)
      else
        if (4 * p1) ≤ (f0 8) then
          letv (upd f0 8 0) fun f0_1 =>
          f10_alibis_l49 p1 p2 p3 NF A0 f0_1 0
        else
          some ((-1), A0, f0)
noncomputable def f10_laysRanks_b13 (f0 : Nat → Int32) (p1 : Int32) (p2 : Int32) (k2 : (Nat → Nat → Int32) → Int32 → Option (Int32 × (Nat → Nat → Int32))) (k13 : (Nat → Nat → Int32) → Int32 → Int32 → Int32 → Option (Int32 × (Nat → Nat → Int32))) (A0 : Nat → Nat → Int32) (l3 : Int32) (l4 : Int32) (l5 : Int32) : Option (Int32 × (Nat → Nat → Int32)) :=
  if p1 ≤ l5 then
    k2 A0 (l3 + 1)
  else
    (f10_octet f0 A0 ((p1 * l3) + l5)).bind fun q_1 =>
    if p1 ≤ q_1 then
      some (0, A0)
    else
      if (f10_has l4 q_1) = 0 then
        if ((6 * l3) + q_1) < 0 ∨ 54 ≤ ((6 * l3) + q_1).toNatClampNeg then none else
        letv (updA A0 50 (ux (A0 50) ((6 * l3) + q_1) l5)) fun A0_3 =>
        k13 A0_3 l3 (l4 ||| (shl 1 q_1)) (l5 + 1)
      else
        some (0, A0)
noncomputable def f10_laysRanks_l13 (f0 : Nat → Int32) (p1 : Int32) (p2 : Int32) (k2 : (Nat → Nat → Int32) → Int32 → Option (Int32 × (Nat → Nat → Int32))) : Nat → (Nat → Nat → Int32) → Int32 → Int32 → Int32 → Option (Int32 × (Nat → Nat → Int32))
  | 0 => fun _ _ _ _ => none
  | n + 1 => fun A0 l3 l4 l5 => f10_laysRanks_b13 f0 p1 p2 k2 (f10_laysRanks_l13 f0 p1 p2 k2 n) A0 l3 l4 l5
noncomputable def f10_laysRanks_b2 (f0 : Nat → Int32) (p1 : Int32) (p2 : Int32) (k2 : (Nat → Nat → Int32) → Int32 → Option (Int32 × (Nat → Nat → Int32))) (A0 : Nat → Nat → Int32) (l3 : Int32) : Option (Int32 × (Nat → Nat → Int32)) :=
  if p2 ≤ l3 then
    some (1, A0)
  else
    f10_laysRanks_l13 f0 p1 p2 k2 NF A0 l3 0 0
noncomputable def f10_laysRanks_l2 (f0 : Nat → Int32) (p1 : Int32) (p2 : Int32) : Nat → (Nat → Nat → Int32) → Int32 → Option (Int32 × (Nat → Nat → Int32))
  | 0 => fun _ _ => none
  | n + 1 => fun A0 l3 => f10_laysRanks_b2 f0 p1 p2  (f10_laysRanks_l2 f0 p1 p2  n) A0 l3
noncomputable def f10_laysRanks (f0 : Nat → Int32) (A0 : Nat → Nat → Int32) (p1 : Int32) (p2 : Int32) : Option (Int32 × (Nat → Nat → Int32)) :=
  f10_laysRanks_l2 f0 p1 p2 NF A0 0
noncomputable def f10_margin_b6 (f0 : Nat → Int32) (A0 : Nat → Nat → Int32) (p1 : Int32) (p2 : Int32) (p3 : Int32) (k6 : Int32 → Int32 → Option (Int32)) (l4 : Int32) (l5 : Int32) : Option (Int32) :=
  if p3 ≤ l5 then
    some l4
  else
    if ((6 * l5) + p1) < 0 ∨ 54 ≤ ((6 * l5) + p1).toNatClampNeg then none else
    if ((6 * l5) + p2) < 0 ∨ 54 ≤ ((6 * l5) + p2).toNatClampNeg then none else
    if (gx (A0 50) ((6 * l5) + p2)) ≤ (gx (A0 50) ((6 * l5) + p1)) then
      k6 (l4 + (-1)) (l5 + 1)
    else
      k6 (l4 + 1) (l5 + 1)
noncomputable def f10_margin_l6 (f0 : Nat → Int32) (A0 : Nat → Nat → Int32) (p1 : Int32) (p2 : Int32) (p3 : Int32) : Nat → Int32 → Int32 → Option (Int32)
  | 0 => fun _ _ => none
  | n + 1 => fun l4 l5 => f10_margin_b6 f0 A0 p1 p2 p3  (f10_margin_l6 f0 A0 p1 p2 p3  n) l4 l5
noncomputable def f10_margin (f0 : Nat → Int32) (A0 : Nat → Nat → Int32) (p1 : Int32) (p2 : Int32) (p3 : Int32) : Option (Int32) :=
  f10_margin_l6 f0 A0 p1 p2 p3 NF 0 0
noncomputable def f10_beatsAll_b3 (f0 : Nat → Int32) (A0 : Nat → Nat → Int32) (p1 : Int32) (p2 : Int32) (p3 : Int32) (k3 : Int32 → Option (Int32)) (l4 : Int32) : Option (Int32) :=
  if p2 ≤ l4 then
    some 1
  else
    if l4 = p1 then
      k3 (l4 + 1)
    else
      (f10_margin f0 A0 p1 l4 p3).bind fun q_1 =>
      if 0 < q_1 then
        k3 (l4 + 1)
      else
        some 0
noncomputable def f10_beatsAll_l3 (f0 : Nat → Int32) (A0 : Nat → Nat → Int32) (p1 : Int32) (p2 : Int32) (p3 : Int32) : Nat → Int32 → Option (Int32)
  | 0 => fun _ => none
  | n + 1 => fun l4 => f10_beatsAll_b3 f0 A0 p1 p2 p3  (f10_beatsAll_l3 f0 A0 p1 p2 p3  n) l4
noncomputable def f10_beatsAll (f0 : Nat → Int32) (A0 : Nat → Nat → Int32) (p1 : Int32) (p2 : Int32) (p3 : Int32) : Option (Int32) :=
  f10_beatsAll_l3 f0 A0 p1 p2 p3 NF 0
noncomputable def f10_placesOf_b5 (f0 : Nat → Int32) (A0 : Nat → Nat → Int32) (p1 : Int32) (p2 : Int32) (k5 : Int32 → Int32 → Option (Int32)) (l3 : Int32) (l4 : Int32) : Option (Int32) :=
  if p2 ≤ l4 then
    some l3
  else
    if ((6 * l4) + p1) < 0 ∨ 54 ≤ ((6 * l4) + p1).toNatClampNeg then none else
    k5 (l3 + (gx (A0 50) ((6 * l4) + p1))) (l4 + 1)
noncomputable def f10_placesOf_l5 (f0 : Nat → Int32) (A0 : Nat → Nat → Int32) (p1 : Int32) (p2 : Int32) : Nat → Int32 → Int32 → Option (Int32)
  | 0 => fun _ _ => none
  | n + 1 => fun l3 l4 => f10_placesOf_b5 f0 A0 p1 p2  (f10_placesOf_l5 f0 A0 p1 p2  n) l3 l4
noncomputable def f10_placesOf (f0 : Nat → Int32) (A0 : Nat → Nat → Int32) (p1 : Int32) (p2 : Int32) : Option (Int32) :=
  f10_placesOf_l5 f0 A0 p1 p2 NF 0 0
noncomputable def f10_bench_b116 (p1 : Int32) (p2 : Int32) (p3 : Int32) (k71 : (Nat → Nat → Int32) → (Nat → Int32) → Int32 → Int32 → Int32 → Int32 → Option (Int32 × (Nat → Nat → Int32) × (Nat → Int32))) (k116 : (Nat → Nat → Int32) → (Nat → Int32) → Int32 → Int32 → Int32 → Int32 → Int32 → Option (Int32 × (Nat → Nat → Int32) × (Nat → Int32))) (A0 : Nat → Nat → Int32) (f0 : Nat → Int32) (l4 : Int32) (l5 : Int32) (l6 : Int32) (l7 : Int32) (l8 : Int32) : Option (Int32 × (Nat → Nat → Int32) × (Nat → Int32)) :=
  if l7 ≤ l8 then
    k71 A0 f0 l4 l5 l6 (l7 + 1)
  else
    (f10_margin f0 A0 l7 l8 p2).bind fun q_6 =>
    if q_6 = 0 then
      k116 A0 f0 l4 l5 (l6 + 1) l7 (l8 + 1)
    else
      k116 A0 f0 l4 l5 l6 l7 (l8 + 1)
noncomputable def f10_bench_l116 (p1 : Int32) (p2 : Int32) (p3 : Int32) (k71 : (Nat → Nat → Int32) → (Nat → Int32) → Int32 → Int32 → Int32 → Int32 → Option (Int32 × (Nat → Nat → Int32) × (Nat → Int32))) : Nat → (Nat → Nat → Int32) → (Nat → Int32) → Int32 → Int32 → Int32 → Int32 → Int32 → Option (Int32 × (Nat → Nat → Int32) × (Nat → Int32))
  | 0 => fun _ _ _ _ _ _ _ => none
  | n + 1 => fun A0 f0 l4 l5 l6 l7 l8 => f10_bench_b116 p1 p2 p3 k71 (f10_bench_l116 p1 p2 p3 k71 n) A0 f0 l4 l5 l6 l7 l8
noncomputable def f10_bench_b92 (p1 : Int32) (p2 : Int32) (p3 : Int32) (k71 : (Nat → Nat → Int32) → (Nat → Int32) → Int32 → Int32 → Int32 → Int32 → Option (Int32 × (Nat → Nat → Int32) × (Nat → Int32))) (A0 : Nat → Nat → Int32) (f0 : Nat → Int32) (l4 : Int32) (l5 : Int32) (l6 : Int32) (l7 : Int32) : Option (Int32 × (Nat → Nat → Int32) × (Nat → Int32)) :=
  (f10_placesOf f0 A0 l7 p2).bind fun q_4 =>
  (f10_placesOf f0 A0 l5 p2).bind fun q_5 =>
  if q_5 ≤ q_4 then
    f10_bench_l116 p1 p2 p3 k71 NF A0 f0 l4 l5 l6 l7 0
  else
    f10_bench_l116 p1 p2 p3 k71 NF A0 f0 l4 l7 l6 l7 0
noncomputable def f10_bench_b71 (p1 : Int32) (p2 : Int32) (p3 : Int32) (k71 : (Nat → Nat → Int32) → (Nat → Int32) → Int32 → Int32 → Int32 → Int32 → Option (Int32 × (Nat → Nat → Int32) × (Nat → Int32))) (A0 : Nat → Nat → Int32) (f0 : Nat → Int32) (l4 : Int32) (l5 : Int32) (l6 : Int32) (l7 : Int32) : Option (Int32 × (Nat → Nat → Int32) × (Nat → Int32)) :=
  if p1 ≤ l7 then
    if p3 = 0 then
      some (l4, A0, f0)
    else
      if p3 = 1 then
        some (l5, A0, f0)
      else
        some (l6, A0, f0)
  else
    (f10_beatsAll f0 A0 l7 p1 p2).bind fun q_3 =>
    if q_3 = 0 then
      f10_bench_b92 p1 p2 p3 k71 A0 f0 l4 l5 l6 l7
    else
      f10_bench_b92 p1 p2 p3 k71 A0 f0 l7 l5 l6 l7
noncomputable def f10_bench_l71 (p1 : Int32) (p2 : Int32) (p3 : Int32) : Nat → (Nat → Nat → Int32) → (Nat → Int32) → Int32 → Int32 → Int32 → Int32 → Option (Int32 × (Nat → Nat → Int32) × (Nat → Int32))
  | 0 => fun _ _ _ _ _ _ => none
  | n + 1 => fun A0 f0 l4 l5 l6 l7 => f10_bench_b71 p1 p2 p3  (f10_bench_l71 p1 p2 p3  n) A0 f0 l4 l5 l6 l7
noncomputable def f10_bench (f0 : Nat → Int32) (A0 : Nat → Nat → Int32) (p1 : Int32) (p2 : Int32) (p3 : Int32) : Option (Int32 × (Nat → Nat → Int32) × (Nat → Int32)) :=
  if (f10_in p1 2 6) = 0 then
    some ((-1), A0, f0)
  else
    if (f10_in p2 1 9) = 0 then
      some ((-1), A0, f0)
    else
      if (f10_in p3 0 2) = 0 then
        some ((-1), A0, f0)
      else
        if (p1 * p2) ≤ (f0 8) then
          letv (upd f0 8 0) fun f0_1 =>
          (f10_laysRanks f0_1 A0 p1 p2).bind fun q_2 =>
          if q_2.1 = 0 then
            some ((-3), q_2.2, f0_1)
          else
            f10_bench_l71 p1 p2 p3 NF q_2.2 f0_1 (-2) 0 0 0
        else
          some ((-1), A0, f0)
noncomputable def f10_beats (f0 : Nat → Int32) (A0 : Nat → Nat → Int32) (p1 : Int32) (p2 : Int32) : Option (Int32) :=
  (f10_octet f0 A0 (2 * p1)).bind fun q_1 =>
  (f10_octet f0 A0 (2 * p2)).bind fun q_2 =>
  (f10_octet f0 A0 ((2 * p1) + 1)).bind fun q_3 =>
  (f10_octet f0 A0 ((2 * p2) + 1)).bind fun q_4 =>
  if (q_1 - q_2) < 0 then
    some 0
  else
    if (q_3 - q_4) < 0 then
      some 0
    else
      if ((q_1 - q_2) + (q_3 - q_4)) ≤ 0 then
        some 0
      else
        some 1
noncomputable def f10_likely_b97 (A0 : Nat → Nat → Int32) (p1 : Int32) (p2 : Int32) (k47 : (Nat → Int32) → Int32 → Int32 → Int32 → Int32 → Option (Int32 × (Nat → Int32))) (f0 : Nat → Int32) (l3 : Int32) (l4 : Int32) (l5 : Int32) (l6 : Int32) : Option (Int32 × (Nat → Int32)) :=
  (f10_octet f0 A0 (2 * l6)).bind fun q_2 =>
  (f10_octet f0 A0 ((2 * l6) + 1)).bind fun q_3 =>
  if l4 < (q_2 * q_3) then
    k47 f0 l3 (q_2 * q_3) l6 (l6 + 1)
  else
    k47 f0 l3 l4 l5 (l6 + 1)
noncomputable def f10_likely_b59 (A0 : Nat → Nat → Int32) (p1 : Int32) (p2 : Int32) (k47 : (Nat → Int32) → Int32 → Int32 → Int32 → Int32 → Option (Int32 × (Nat → Int32))) (k59 : (Nat → Int32) → Int32 → Int32 → Int32 → Int32 → Int32 → Int32 → Option (Int32 × (Nat → Int32))) (f0 : Nat → Int32) (l3 : Int32) (l4 : Int32) (l5 : Int32) (l6 : Int32) (l7 : Int32) (l8 : Int32) : Option (Int32 × (Nat → Int32)) :=
  if p1 ≤ l8 then
    if l7 = 0 then
      f10_likely_b97 A0 p1 p2 k47 f0 (l3 ||| (shl 1 l6)) l4 l5 l6
    else
      f10_likely_b97 A0 p1 p2 k47 f0 l3 l4 l5 l6
  else
    (f10_beats f0 A0 l8 l6).bind fun q_4 =>
    if q_4 = 0 then
      k59 f0 l3 l4 l5 l6 l7 (l8 + 1)
    else
      k59 f0 l3 l4 l5 l6 1 (l8 + 1)
noncomputable def f10_likely_l59 (A0 : Nat → Nat → Int32) (p1 : Int32) (p2 : Int32) (k47 : (Nat → Int32) → Int32 → Int32 → Int32 → Int32 → Option (Int32 × (Nat → Int32))) : Nat → (Nat → Int32) → Int32 → Int32 → Int32 → Int32 → Int32 → Int32 → Option (Int32 × (Nat → Int32))
  | 0 => fun _ _ _ _ _ _ _ => none
  | n + 1 => fun f0 l3 l4 l5 l6 l7 l8 => f10_likely_b59 A0 p1 p2 k47 (f10_likely_l59 A0 p1 p2 k47 n) f0 l3 l4 l5 l6 l7 l8
noncomputable def f10_likely_b47 (A0 : Nat → Nat → Int32) (p1 : Int32) (p2 : Int32) (k47 : (Nat → Int32) → Int32 → Int32 → Int32 → Int32 → Option (Int32 × (Nat → Int32))) (f0 : Nat → Int32) (l3 : Int32) (l4 : Int32) (l5 : Int32) (l6 : Int32) : Option (Int32 × (Nat → Int32)) :=
  if p1 ≤ l6 then
    if p2 = 0 then
      some (l3, f0)
    else
      if p2 = 1 then
        some (l4, f0)
      else
        some (l5, f0)
  else
    f10_likely_l59 A0 p1 p2 k47 NF f0 l3 l4 l5 l6 0 0
noncomputable def f10_likely_l47 (A0 : Nat → Nat → Int32) (p1 : Int32) (p2 : Int32) : Nat → (Nat → Int32) → Int32 → Int32 → Int32 → Int32 → Option (Int32 × (Nat → Int32))
  | 0 => fun _ _ _ _ _ => none
  | n + 1 => fun f0 l3 l4 l5 l6 => f10_likely_b47 A0 p1 p2  (f10_likely_l47 A0 p1 p2  n) f0 l3 l4 l5 l6
noncomputable def f10_likely (f0 : Nat → Int32) (A0 : Nat → Nat → Int32) (p1 : Int32) (p2 : Int32) : Option (Int32 × (Nat → Int32)) :=
  if (f10_in p1 1 16) = 0 then
    some ((-1), f0)
  else
    if (f10_in p2 0 2) = 0 then
      some ((-1), f0)
    else
      if (2 * p1) ≤ (f0 8) then
        letv (upd f0 8 0) fun f0_1 =>
        f10_likely_l47 A0 p1 p2 NF f0_1 0 (-1) 0 0
      else
        some ((-1), f0)
noncomputable def f10_share_b42 (A0 : Nat → Nat → Int32) (p1 : Int32) (p2 : Int32) (k42 : (Nat → Int32) → Int32 → Int32 → Option (Int32 × (Nat → Int32))) (f0 : Nat → Int32) (l3 : Int32) (l4 : Int32) : Option (Int32 × (Nat → Int32)) :=
  if p1 ≤ l4 then
    some (l3, f0)
  else
    (f10_octet f0 A0 ((2 * l4) + 1)).bind fun q_2 =>
    if (f10_has q_2 p2) = 0 then
      k42 f0 l3 (l4 + 1)
    else
      (f10_bits q_2).bind fun q_3 =>
      (f10_bits (q_2 &&& ((shl 1 p2) - 1))).bind fun q_4 =>
      (f10_octet f0 A0 (2 * l4)).bind fun q_5 =>
      if q_3 = 0 then none else
      (f10_octet f0 A0 (2 * l4)).bind fun q_6 =>
      if q_3 = 0 then none else
      if (irm q_6 q_3) ≤ q_4 then
        k42 f0 ((l3 + (q_5 / q_3)) + 0) (l4 + 1)
      else
        k42 f0 ((l3 + (q_5 / q_3)) + 1) (l4 + 1)
noncomputable def f10_share_l42 (A0 : Nat → Nat → Int32) (p1 : Int32) (p2 : Int32) : Nat → (Nat → Int32) → Int32 → Int32 → Option (Int32 × (Nat → Int32))
  | 0 => fun _ _ _ => none
  | n + 1 => fun f0 l3 l4 => f10_share_b42 A0 p1 p2  (f10_share_l42 A0 p1 p2  n) f0 l3 l4
noncomputable def f10_share (f0 : Nat → Int32) (A0 : Nat → Nat → Int32) (p1 : Int32) (p2 : Int32) : Option (Int32 × (Nat → Int32)) :=
  if (f10_in p1 1 12) = 0 then
    some ((-1), f0)
  else
    if (f10_in p2 0 7) = 0 then
      some ((-1), f0)
    else
      if (2 * p1) ≤ (f0 8) then
        letv (upd f0 8 0) fun f0_1 =>
        f10_share_l42 A0 p1 p2 NF f0_1 0 0
      else
        some ((-1), f0)
noncomputable def f10_gcd_b4 (p0 : Int32) (p1 : Int32) (k4 : Int32 → Int32 → Option (Int32)) (l2 : Int32) (l3 : Int32) : Option (Int32) :=
  if l3 = 0 then
    some l2
  else
    if l3 = 0 then none else
    k4 l3 (irm l2 l3)
noncomputable def f10_gcd_l4 (p0 : Int32) (p1 : Int32) : Nat → Int32 → Int32 → Option (Int32)
  | 0 => fun _ _ => none
  | n + 1 => fun l2 l3 => f10_gcd_b4 p0 p1  (f10_gcd_l4 p0 p1  n) l2 l3
noncomputable def f10_gcd (p0 : Int32) (p1 : Int32) : Option (Int32) :=
  f10_gcd_l4 p0 p1 NF p0 p1
noncomputable def f10_odds_b125 (A0 : Nat → Nat → Int32) (p1 : Int32) (p2 : Int32) (f0 : Nat → Int32) (l3 : Int32) (s0 : Int32) : Option (Int32 × (Nat → Int32)) :=
  (f10_gcd l3 s0).bind fun q_2 =>
  if (irm p2 2) = 0 then
    if q_2 = 0 then none else
    some (s0 / q_2, f0)
  else
    if q_2 = 0 then none else
    some (l3 / q_2, f0)
noncomputable def f10_odds_b45 (A0 : Nat → Nat → Int32) (p1 : Int32) (p2 : Int32) (k45 : (Nat → Int32) → Int32 → Int32 → Int32 → Int32 → Option (Int32 × (Nat → Int32))) (f0 : Nat → Int32) (l3 : Int32) (l4 : Int32) (l5 : Int32) (l6 : Int32) : Option (Int32 × (Nat → Int32)) :=
  if p1 ≤ l6 then
    if 2 ≤ p2 then
      if 4 ≤ p2 then
        f10_odds_b125 A0 p1 p2 f0 l3 (l3 - l5)
      else
        f10_odds_b125 A0 p1 p2 f0 l3 l5
    else
      f10_odds_b125 A0 p1 p2 f0 l3 l4
  else
    (f10_octet f0 A0 l6).bind fun q_3 =>
    if q_3 ≤ 10 then
      (f10_octet f0 A0 l6).bind fun q_4 =>
      (f10_octet f0 A0 l6).bind fun q_5 =>
      k45 f0 (l3 * 10) (l4 * q_4) (l5 * (10 - q_5)) (l6 + 1)
    else
      some ((-2), f0)
noncomputable def f10_odds_l45 (A0 : Nat → Nat → Int32) (p1 : Int32) (p2 : Int32) : Nat → (Nat → Int32) → Int32 → Int32 → Int32 → Int32 → Option (Int32 × (Nat → Int32))
  | 0 => fun _ _ _ _ _ => none
  | n + 1 => fun f0 l3 l4 l5 l6 => f10_odds_b45 A0 p1 p2  (f10_odds_l45 A0 p1 p2  n) f0 l3 l4 l5 l6
noncomputable def f10_odds (f0 : Nat → Int32) (A0 : Nat → Nat → Int32) (p1 : Int32) (p2 : Int32) : Option (Int32 × (Nat → Int32)) :=
  if (f10_in p1 1 9) = 0 then
    some ((-1), f0)
  else
    if (f10_in p2 0 5) = 0 then
      some ((-1), f0)
    else
      if p1 ≤ (f0 8) then
        letv (upd f0 8 0) fun f0_1 =>
        f10_odds_l45 A0 p1 p2 NF f0_1 1 1 1 0
      else
        some ((-1), f0)
noncomputable def f10_seed (f0 : Nat → Int32) (A0 : Nat → Nat → Int32) (p1 : Int32) : Option (Int32 × (Nat → Nat → Int32)) :=
  if (f10_in p1 0 65535) = 0 then
    some (0, A0)
  else
    letv (updA A0 0 (ux (A0 0) 75 p1)) fun A0_1 =>
    some (1, A0_1)
noncomputable def f10_keep (f0 : Nat → Int32) (A0 : Nat → Nat → Int32) : Option (Int32 × (Nat → Nat → Int32) × (Nat → Int32)) :=
  letv (upd f0 51 1) fun f0_1 =>
  (f10_copies 76 (A0 0) 76 (A0 2)).bind fun q_2 =>
  letv (updA A0 2 q_2) fun A0_3 =>
  some (gx (A0_3 0) 74, A0_3, f0_1)
noncomputable def f10_undo (f0 : Nat → Int32) (A0 : Nat → Nat → Int32) : Option (Int32 × (Nat → Nat → Int32)) :=
  if (f0 51) = 0 then
    some (0, A0)
  else
    (f10_copies 76 (A0 2) 76 (A0 0)).bind fun q_1 =>
    letv (updA A0 0 q_1) fun A0_2 =>
    some (1, A0_2)
noncomputable def f10_check_b28 (A0 : Nat → Nat → Int32) (p1 : Int32) (k28 : (Nat → Int32) → Int32 → Option (Int32 × (Nat → Int32))) (f0 : Nat → Int32) (l2 : Int32) : Option (Int32 × (Nat → Int32)) :=
  if p1 ≤ l2 then
    some ((-1), f0)
  else
    (f10_octet f0 A0 l2).bind fun q_2 =>
    if (f10_isTold f0 A0 l2) = 0 then
      if q_2 = 255 then
        k28 f0 (l2 + 1)
      else
        some (l2, f0)
    else
      if (0 + l2) < 0 ∨ 76 ≤ (0 + l2).toNatClampNeg then none else
      if q_2 = (gx (A0 0) (0 + l2)) then
        k28 f0 (l2 + 1)
      else
        some (l2, f0)
noncomputable def f10_check_l28 (A0 : Nat → Nat → Int32) (p1 : Int32) : Nat → (Nat → Int32) → Int32 → Option (Int32 × (Nat → Int32))
  | 0 => fun _ _ => none
  | n + 1 => fun f0 l2 => f10_check_b28 A0 p1  (f10_check_l28 A0 p1  n) f0 l2
noncomputable def f10_check (f0 : Nat → Int32) (A0 : Nat → Nat → Int32) (p1 : Int32) : Option (Int32 × (Nat → Int32)) :=
  if (f10_in p1 0 16) = 0 then
    some ((-2), f0)
  else
    if p1 ≤ (f0 8) then
      letv (upd f0 8 0) fun f0_1 =>
      f10_check_l28 A0 p1 NF f0_1 0
    else
      some ((-2), f0)
noncomputable def f10_menSet_b4 (f0 : Nat → Int32) (A0 : Nat → Nat → Int32) (k4 : Int32 → Int32 → Option (Int32)) (l1 : Int32) (l2 : Int32) : Option (Int32) :=
  if 8 ≤ l2 then
    some l1
  else
    (f10_isMan f0 A0 l2).bind fun q_1 =>
    if q_1 = 0 then
      k4 l1 (l2 + 1)
    else
      k4 (l1 ||| (shl 1 l2)) (l2 + 1)
noncomputable def f10_menSet_l4 (f0 : Nat → Int32) (A0 : Nat → Nat → Int32) : Nat → Int32 → Int32 → Option (Int32)
  | 0 => fun _ _ => none
  | n + 1 => fun l1 l2 => f10_menSet_b4 f0 A0  (f10_menSet_l4 f0 A0  n) l1 l2
noncomputable def f10_menSet (f0 : Nat → Int32) (A0 : Nat → Nat → Int32) : Option (Int32) :=
  f10_menSet_l4 f0 A0 NF 0 0
noncomputable def f10_wages_b4 (f0 : Nat → Int32) (A0 : Nat → Nat → Int32) (k4 : Int32 → Int32 → Option (Int32)) (l1 : Int32) (l2 : Int32) : Option (Int32) :=
  if 8 ≤ l2 then
    some l1
  else
    (f10_isMan f0 A0 l2).bind fun q_1 =>
    if q_1 = 0 then
      k4 l1 (l2 + 1)
    else
      if (64 + l2) < 0 ∨ 76 ≤ (64 + l2).toNatClampNeg then none else
      k4 (l1 + (gx (A0 0) (64 + l2))) (l2 + 1)
noncomputable def f10_wages_l4 (f0 : Nat → Int32) (A0 : Nat → Nat → Int32) : Nat → Int32 → Int32 → Option (Int32)
  | 0 => fun _ _ => none
  | n + 1 => fun l1 l2 => f10_wages_b4 f0 A0  (f10_wages_l4 f0 A0  n) l1 l2
noncomputable def f10_wages (f0 : Nat → Int32) (A0 : Nat → Nat → Int32) : Option (Int32) :=
  f10_wages_l4 f0 A0 NF 0 0
noncomputable def f10_count (f0 : Nat → Int32) (A0 : Nat → Nat → Int32) (p1 : Int32) : Option (Int32) :=
  if p1 = 0 then
    some (gx (A0 0) 74)
  else
  if p1 = 1 then
    some (gx (A0 0) 73)
  else
  if p1 = 2 then
    some (gx (A0 0) 72)
  else
  if p1 = 3 then
    some (f0 6)
  else
  if p1 = 4 then
    (f10_menSet f0 A0).bind fun q_1 =>
    some q_1
  else
  if p1 = 5 then
    (f10_wages f0 A0).bind fun q_2 =>
    some q_2
  else
  if p1 = 6 then
    some (f0 17)
  else
  if p1 = 7 then
    some (f0 8)
  else
  if p1 = 8 then
    some (gx (A0 0) 75)
  else
  some (-1)
