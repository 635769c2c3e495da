/-! ===== an abstract machine: ids for addresses, the heap as functions ===== -/
abbrev AHP : Type := (Nat → Nat → Int32) × (Nat → Nat → Int64) × (Nat → Nat → Nat) × Nat
abbrev ARS : Type := Option Value × AHP
abbrev ALS : Type := List (Option Value)
abbrev AOP : Type := (Nat → List Value → AHP → Option ARS) → (Nat → ALS → List Value → AHP → Option ARS) → ALS → List Value → AHP → Option ARS
def hN (h : AHP) : Nat := h.2.2.2
def up2 {α : Type} (f : Nat → Nat → α) (a i : Nat) (v : α) : Nat → Nat → α := fun b j => if b = a then (if j = i then v else f b j) else f b j
def row2 {α : Type} (f : Nat → Nat → α) (a : Nat) (r : Nat → α) : Nat → Nat → α := fun b j => if b = a then r j else f b j
def sI (h : AHP) (a i : Nat) (v : Int32) : AHP := (up2 h.1 a i v, h.2.1, h.2.2.1, h.2.2.2)
def sJ (h : AHP) (a i : Nat) (v : Int64) : AHP := (h.1, up2 h.2.1 a i v, h.2.2.1, h.2.2.2)
def sR (h : AHP) (a i : Nat) (v : Nat) : AHP := (h.1, h.2.1, up2 h.2.2.1 a i v, h.2.2.2)
def rowI (h : AHP) (a : Nat) (r : Nat → Int32) : AHP := (row2 h.1 a r, h.2.1, h.2.2.1, h.2.2.2)
/-- a new cell, all of it 0 -/
def anw (h : AHP) : AHP := (row2 h.1 (h.2.2.2 + 1) (fun _ => 0), row2 h.2.1 (h.2.2.2 + 1) (fun _ => 0), row2 h.2.2.1 (h.2.2.2 + 1) (fun _ => 0), h.2.2.2 + 1)
/-- locals -/
def lg : ALS → Nat → Option Value
  | [], _ => none
  | a :: _, 0 => a
  | _ :: l, i + 1 => lg l i
def isL (v : Option Value) : Bool := match v with | some v => v.category == 2 | none => false
def cut1 : ALS → Nat → ALS
  | [], _ => []
  | a :: l, 0 => a :: l
  | a :: l, 1 => (if isL a then none else a) :: l
  | a :: l, i + 2 => a :: cut1 l (i + 1)
def lset : ALS → Nat → Option Value → ALS
  | [], _, _ => []
  | _ :: l, 0, v => v :: l
  | a :: l, i + 1, v => a :: lset l i v
def st1 (ls : ALS) (i : Nat) (v : Value) : ALS := lset (cut1 ls i) i (some v)
def st2 (ls : ALS) (i : Nat) (v : Value) : ALS := lset (lset (cut1 ls i) i (some v)) (i + 1) none
def en1 : List Value → ALS
  | [] => []
  | v :: l => if v.category = 2 then some v :: none :: en1 l else some v :: en1 l
def en0 (n : Nat) (as : List Value) : ALS := en1 as ++ List.replicate (n - (en1 as).length) none
/-- the layout, the kinds of fields -/
def okc (h : AHP) (a c : Nat) : Prop := (lay a).1 = c ∧ 0 < a ∧ a ≤ h.2.2.2 ∧ a ≤ NT
def dec_okc (h : AHP) (a c : Nat) : Decidable (okc h a c) := by unfold okc; exact inferInstance
def iff_ {ρ : Type} (c : Prop) (d : Decidable c) (a b : ρ) : ρ := @ite ρ c d a b
/-- ops -/
def o_ci (n : Nat) (v : Int32) : AOP := fun _ G ls st h => G n ls (.int v :: st) h
def o_cl (n : Nat) (v : Int64) : AOP := fun _ G ls st h => G n ls (.long v :: st) h
def o_iload (n i : Nat) : AOP := fun _ G ls st h => match lg ls i with | some (.int x) => G n ls (.int x :: st) h | _ => none
def o_lload (n i : Nat) : AOP := fun _ G ls st h => match lg ls i with | some (.long x) => G n ls (.long x :: st) h | _ => none
def o_aload (n i : Nat) : AOP := fun _ G ls st h => match lg ls i with | some (.ref x) => G n ls (.ref x :: st) h | _ => none
def o_istore (n i : Nat) : AOP := fun _ G ls st h => match st with | .int x :: st => if i < ls.length then G n (st1 ls i (.int x)) st h else none | _ => none
def o_lstore (n i : Nat) : AOP := fun _ G ls st h => match st with | .long x :: st => if i + 1 < ls.length then G n (st2 ls i (.long x)) st h else none | _ => none
def o_astore (n i : Nat) : AOP := fun _ G ls st h => match st with | .ref x :: st => if i < ls.length then G n (st1 ls i (.ref x)) st h else none | _ => none
def o_iinc (n i : Nat) (c : Int32) : AOP := fun _ G ls st h => match lg ls i with | some (.int x) => G n (st1 ls i (.int (x + c))) st h | _ => none
def o_i2 (n : Nat) (f : Int32 → Int32 → Int32) : AOP := fun _ G ls st h => match st with | .int y :: .int x :: st => G n ls (.int (f x y) :: st) h | _ => none
def o_i2d (n : Nat) (f : Int32 → Int32 → Int32) : AOP := fun _ G ls st h => match st with | .int y :: .int x :: st => if y = 0 then none else G n ls (.int (f x y) :: st) h | _ => none
def o_l2 (n : Nat) (f : Int64 → Int64 → Int64) : AOP := fun _ G ls st h => match st with | .long y :: .long x :: st => G n ls (.long (f x y) :: st) h | _ => none
def o_l2d (n : Nat) (f : Int64 → Int64 → Int64) : AOP := fun _ G ls st h => match st with | .long y :: .long x :: st => if y = 0 then none else G n ls (.long (f x y) :: st) h | _ => none
def o_lsh (n : Nat) (f : Int64 → Int32 → Int64) : AOP := fun _ G ls st h => match st with | .int y :: .long x :: st => G n ls (.long (f x y) :: st) h | _ => none
def o_i1 (n : Nat) (f : Int32 → Int32) : AOP := fun _ G ls st h => match st with | .int x :: st => G n ls (.int (f x) :: st) h | _ => none
def o_i2l (n : Nat) : AOP := fun _ G ls st h => match st with | .int x :: st => G n ls (.long x.toInt64 :: st) h | _ => none
def o_l2i (n : Nat) : AOP := fun _ G ls st h => match st with | .long x :: st => G n ls (.int x.toInt32 :: st) h | _ => none
def o_lcmp (n : Nat) : AOP := fun _ G ls st h => match st with | .long y :: .long x :: st => G n ls (.int (lg_cmp x y) :: st) h | _ => none
def o_dupI (n : Nat) : AOP := fun _ G ls st h => match st with | .int x :: st => G n ls (.int x :: .int x :: st) h | _ => none
def o_dupA (n : Nat) : AOP := fun _ G ls st h => match st with | .ref x :: st => G n ls (.ref x :: .ref x :: st) h | _ => none
def o_dup2 (n : Nat) : AOP := fun _ G ls st h => match st with | .int y :: .ref x :: st => G n ls (.int y :: .ref x :: .int y :: .ref x :: st) h | _ => none
def o_popI (n : Nat) : AOP := fun _ G ls st h => match st with | .int _ :: st => G n ls st h | _ => none
def o_if (n t : Nat) (c : Int32 → Prop) (d : DecidablePred c) : AOP := fun _ G ls st h => match st with | .int x :: st => iff_ (c x) (d x) (G t ls st h) (G n ls st h) | _ => none
def o_icmp (n t : Nat) (c : Int32 → Int32 → Prop) (d : ∀ x y, Decidable (c x y)) : AOP := fun _ G ls st h => match st with | .int y :: .int x :: st => iff_ (c x y) (d x y) (G t ls st h) (G n ls st h) | _ => none
def o_acmpEq (n t : Nat) : AOP := fun _ G ls st h => match st with | .ref y :: .ref x :: st => if 200000 ≤ x ∧ x < 200025 ∧ 200000 ≤ y ∧ y < 200025 then (if x = y then G t ls st h else G n ls st h) else none | _ => none
def o_acmpNe (n t : Nat) : AOP := fun _ G ls st h => match st with | .ref y :: .ref x :: st => if 200000 ≤ x ∧ x < 200025 ∧ 200000 ≤ y ∧ y < 200025 then (if x = y then G n ls st h else G t ls st h) else none | _ => none
def o_goto (t : Nat) : AOP := fun _ G ls st h => G t ls st h
def o_sw (f : Int32 → Nat) : AOP := fun _ G ls st h => match st with | .int x :: st => G (f x) ls st h | _ => none
def o_getI (n c k : Nat) : AOP := fun _ G ls st h => match st with | .ref a :: st => iff_ (okc h a c) (dec_okc h a c) (G n ls (.int (h.1 a k) :: st) h) none | _ => none
def o_getJ (n c k : Nat) : AOP := fun _ G ls st h => match st with | .ref a :: st => iff_ (okc h a c) (dec_okc h a c) (G n ls (.long (h.2.1 a k) :: st) h) none | _ => none
def o_getR (n c k : Nat) : AOP := fun _ G ls st h => match st with | .ref a :: st => iff_ (okc h a c) (dec_okc h a c) (if h.2.2.1 a k = 0 then none else G n ls (.ref (h.2.2.1 a k) :: st) h) none | _ => none
def o_putI (n c k : Nat) : AOP := fun _ G ls st h => match st with | .int x :: .ref a :: st => iff_ (okc h a c) (dec_okc h a c) (G n ls st (sI h a k x)) none | _ => none
def o_putZ (n c k : Nat) : AOP := fun _ G ls st h => match st with | .int x :: .ref a :: st => iff_ (okc h a c) (dec_okc h a c) (if x = 0 ∨ x = 1 then G n ls st (sI h a k x) else none) none | _ => none
def o_putJ (n c k : Nat) : AOP := fun _ G ls st h => match st with | .long x :: .ref a :: st => iff_ (okc h a c) (dec_okc h a c) (G n ls st (sJ h a k x)) none | _ => none
def o_putR (n c k : Nat) : AOP := fun _ G ls st h => match st with | .ref x :: .ref a :: st => iff_ (okc h a c) (dec_okc h a c) (if x = 0 then none else G n ls st (sR h a k x)) none | _ => none
def o_iald (n : Nat) : AOP := fun _ G ls st h => match st with | .int i :: .ref a :: st => iff_ (okc h a 20) (dec_okc h a 20) (if i < 0 ∨ (lay a).2 ≤ i.toNatClampNeg then none else G n ls (.int (h.1 a i.toNatClampNeg) :: st) h) none | _ => none
def o_zald (n : Nat) : AOP := fun _ G ls st h => match st with | .int i :: .ref a :: st => iff_ (okc h a 22) (dec_okc h a 22) (if i < 0 ∨ (lay a).2 ≤ i.toNatClampNeg then none else G n ls (.int (h.1 a i.toNatClampNeg) :: st) h) none | _ => none
def o_lald (n : Nat) : AOP := fun _ G ls st h => match st with | .int i :: .ref a :: st => iff_ (okc h a 21) (dec_okc h a 21) (if i < 0 ∨ (lay a).2 ≤ i.toNatClampNeg then none else G n ls (.long (h.2.1 a i.toNatClampNeg) :: st) h) none | _ => none
def o_aald (n c : Nat) : AOP := fun _ G ls st h => match st with | .int i :: .ref a :: st => iff_ (okc h a c) (dec_okc h a c) (if i < 0 ∨ (lay a).2 ≤ i.toNatClampNeg then none else if h.2.2.1 a i.toNatClampNeg = 0 then none else G n ls (.ref (h.2.2.1 a i.toNatClampNeg) :: st) h) none | _ => none
def o_iast (n : Nat) : AOP := fun _ G ls st h => match st with | .int x :: .int i :: .ref a :: st => iff_ (okc h a 20) (dec_okc h a 20) (if i < 0 ∨ (lay a).2 ≤ i.toNatClampNeg then none else G n ls st (sI h a i.toNatClampNeg x)) none | _ => none
def o_zast (n : Nat) : AOP := fun _ G ls st h => match st with | .int x :: .int i :: .ref a :: st => iff_ (okc h a 22) (dec_okc h a 22) (if i < 0 ∨ (lay a).2 ≤ i.toNatClampNeg then none else if x = 0 ∨ x = 1 then G n ls st (sI h a i.toNatClampNeg x) else none) none | _ => none
def o_last (n : Nat) : AOP := fun _ G ls st h => match st with | .long x :: .int i :: .ref a :: st => iff_ (okc h a 21) (dec_okc h a 21) (if i < 0 ∨ (lay a).2 ≤ i.toNatClampNeg then none else G n ls st (sJ h a i.toNatClampNeg x)) none | _ => none
/-- c: the array's tag, e: the class of its things -/
def o_aast (n c e : Nat) : AOP := fun _ G ls st h => match st with | .ref x :: .int i :: .ref a :: st => iff_ (okc h a c) (dec_okc h a c) (iff_ (okc h x e) (dec_okc h x e) (if i < 0 ∨ (lay a).2 ≤ i.toNatClampNeg then none else G n ls st (sR h a i.toNatClampNeg x)) none) none | _ => none
/-- what stands in statics: the rows BESIDE (200200), Key.ALL (200100), the keys (200000 ..), the script (300000) -/
def o_gets (n a : Nat) : AOP := fun _ G ls st h => G n ls (.ref a :: st) h
def o_ialdB (n : Nat) : AOP := fun _ G ls st h => match st with | .int i :: .ref a :: st => if a = 200200 ∧ ¬ (i < 0 ∨ 12 ≤ i.toNatClampNeg) then G n ls (.int (bes i.toNatClampNeg) :: st) h else none | _ => none
def o_aaldK (n : Nat) : AOP := fun _ G ls st h => match st with | .int i :: .ref a :: st => if a = 200100 ∧ ¬ (i < 0 ∨ 25 ≤ i.toNatClampNeg) then G n ls (.ref (200000 + i.toNatClampNeg) :: st) h else none | _ => none
def o_alenK (n : Nat) : AOP := fun _ G ls st h => match st with | .ref a :: st => if a = 200100 then G n ls (.int 25 :: st) h else none | _ => none
def o_keyJ (n : Nat) (f : Nat → Int64) : AOP := fun _ G ls st h => match st with | .ref a :: st => if 200000 ≤ a ∧ a < 200025 then G n ls (.long (f (a - 200000)) :: st) h else none | _ => none
def o_keyI (n : Nat) (f : Nat → Int32) : AOP := fun _ G ls st h => match st with | .ref a :: st => if 200000 ≤ a ∧ a < 200025 then G n ls (.int (f (a - 200000)) :: st) h else none | _ => none
def o_sld (n : Nat) : AOP := fun _ G ls st h => match st with | .int i :: .ref a :: st => if a = 300000 ∧ ¬ (i < 0 ∨ h.2.2.1 300000 0 ≤ i.toNatClampNeg) then G n ls (.int (h.1 300000 i.toNatClampNeg) :: st) h else none | _ => none
def o_slen (n : Nat) : AOP := fun _ G ls st h => match st with | .ref a :: st => if a = 300000 then G n ls (.int (nI (h.2.2.1 300000 0)) :: st) h else none | _ => none
def o_new (n c N : Nat) : AOP := fun _ G ls st h => if lay (h.2.2.2 + 1) = (c, N) ∧ h.2.2.2 + 1 ≤ NT then G n ls (.ref (h.2.2.2 + 1) :: st) (anw h) else none
def o_newa (n c : Nat) : AOP := fun _ G ls st h => match st with | .int x :: st => if ¬ x < 0 ∧ lay (h.2.2.2 + 1) = (c, x.toNatClampNeg) ∧ h.2.2.2 + 1 ≤ NT then G n ls (.ref (h.2.2.2 + 1) :: st) (anw h) else none | _ => none
def o_pop1 (n : Nat) : AOP := fun _ G ls st h => match st with | .ref _ :: st => if (st.map fun v => v.category).sum ≤ 8 then G n ls st h else none | _ => none
def o_min (n : Nat) : AOP := fun _ G ls st h => match st with | .int y :: .int x :: st => if (st.map fun v => v.category).sum ≤ 8 then G n ls (.int (if y < x then y else x) :: st) h else none | _ => none
def o_max (n : Nat) : AOP := fun _ G ls st h => match st with | .int y :: .int x :: st => if (st.map fun v => v.category).sum ≤ 8 then G n ls (.int (if x < y then y else x) :: st) h else none | _ => none
/-- System.arraycopy of ints, from one array into another -/
def o_acopy (n : Nat) : AOP := fun _ G ls st h => match st with | .int k :: .int dp :: .ref b :: .int sp :: .ref a :: st => iff_ (okc h a 20) (dec_okc h a 20) (iff_ (okc h b 20) (dec_okc h b 20) (if ¬ sp < 0 ∧ ¬ dp < 0 ∧ ¬ k < 0 ∧ sp.toNatClampNeg + k.toNatClampNeg ≤ (lay a).2 ∧ dp.toNatClampNeg + k.toNatClampNeg ≤ (lay b).2 ∧ (st.map fun v => v.category).sum ≤ 8 then G n ls st (rowI h b (va_cpy (h.1 a) (h.1 b) sp.toNatClampNeg dp.toNatClampNeg k.toNatClampNeg)) else none) none) none | _ => none
/-- calls: k the method, j how many values it takes (the receiver, too), c the receiver's class -/
def o_callV (n k j c : Nat) : AOP := fun C G ls st h => match (st.take j).reverse with
  | .ref a :: as => iff_ (okc h a c) (dec_okc h a c) (if as.length + 1 = j ∧ ((st.drop j).map fun v => v.category).sum ≤ 8 then (match C k (.ref a :: as) h with | some (v, h2) => G n ls (v.toList ++ st.drop j) h2 | none => none) else none) none
  | _ => none
def o_callS (n k j : Nat) : AOP := fun C G ls st h => if (st.take j).length = j ∧ ((st.drop j).map fun v => v.category).sum ≤ 8 then (match C k (st.take j).reverse h with | some (v, h2) => G n ls (v.toList ++ st.drop j) h2 | none => none) else none
/-- ends -/
def o_iret : AOP := fun _ _ _ st h => match st with | [.int x] => some (some (.int x), h) | _ => none
def o_zret : AOP := fun _ _ _ st h => match st with | [.int x] => if x = 0 ∨ x = 1 then some (some (.int x), h) else none | _ => none
def o_lret : AOP := fun _ _ _ st h => match st with | [.long x] => some (some (.long x), h) | _ => none
def o_aret : AOP := fun _ _ _ st h => match st with | [.ref x] => some (some (.ref x), h) | _ => none
def o_vret : AOP := fun _ _ _ st h => match st with | [] => some (none, h) | _ => none
