section STQ
variable {h : AHP} {a b c k n m v t : Nat} {ls : ALS} {st : List Value} {i x y : Int32} {u z : Int64}
theorem g_if {n t : Nat} {c : Int32 → Prop} {d : DecidablePred c} : ∀ C G, o_if n t c d C G ls (.int x :: st) h = @ite _ (c x) (d x) (G t ls st h) (G n ls st h) := fun _ _ => rfl
theorem g_icmp {n t : Nat} {c : Int32 → Int32 → Prop} {d : ∀ x y, Decidable (c x y)} : ∀ C G, o_icmp n t c d C G ls (.int y :: .int x :: st) h = @ite _ (c x y) (d x y) (G t ls st h) (G n ls st h) := fun _ _ => rfl
theorem g_zret (hx : x = 0 ∨ x = 1) : ∀ C G, o_zret C G ls [.int x] h = some (some (.int x), h) := fun _ _ => if_pos hx
theorem g_min (hr : (st.map fun v => v.category).sum ≤ 8) : ∀ C G, o_min n C G ls (.int y :: .int x :: st) h = G n ls (.int (if y < x then y else x) :: st) h := fun _ _ => if_pos hr
theorem g_max (hr : (st.map fun v => v.category).sum ≤ 8) : ∀ C G, o_max n C G ls (.int y :: .int x :: st) h = G n ls (.int (if x < y then y else x) :: st) h := fun _ _ => if_pos hr
theorem g_i2d {f : Int32 → Int32 → Int32} (hy : ¬ y = 0) : ∀ C G, o_i2d n f C G ls (.int y :: .int x :: st) h = G n ls (.int (f x y) :: st) h := fun _ _ => if_neg hy
theorem g_l2d {f : Int64 → Int64 → Int64} (hy : ¬ z = 0) : ∀ C G, o_l2d n f C G ls (.long z :: .long u :: st) h = G n ls (.long (f u z) :: st) h := fun _ _ => if_neg hy
theorem g_ialdB (hi : inb i 12) : ∀ C G, o_ialdB n C G ls (.int i :: .ref 200200 :: st) h = G n ls (.int (bes i.toNatClampNeg) :: st) h := fun _ _ => if_pos ⟨rfl, hi⟩
theorem g_aaldK (hi : inb i 25) : ∀ C G, o_aaldK n C G ls (.int i :: .ref 200100 :: st) h = G n ls (.ref (200000 + i.toNatClampNeg) :: st) h := fun _ _ => if_pos ⟨rfl, hi⟩
theorem g_alenK : ∀ C G, o_alenK n C G ls (.ref 200100 :: st) h = G n ls (.int 25 :: st) h := fun _ _ => by simp [o_alenK]
theorem g_keyJ {f : Nat → Int64} (hk : 200000 ≤ a ∧ a < 200025) : ∀ C G, o_keyJ n f C G ls (.ref a :: st) h = G n ls (.long (f (a - 200000)) :: st) h := fun _ _ => if_pos hk
theorem g_keyI {f : Nat → Int32} (hk : 200000 ≤ a ∧ a < 200025) : ∀ C G, o_keyI n f C G ls (.ref a :: st) h = G n ls (.int (f (a - 200000)) :: st) h := fun _ _ => if_pos hk
theorem g_acmpEq (hk : 200000 ≤ a ∧ a < 200025 ∧ 200000 ≤ b ∧ b < 200025) : ∀ C G, o_acmpEq n t C G ls (.ref b :: .ref a :: st) h = if a = b then G t ls st h else G n ls st h := fun _ _ => if_pos hk
theorem g_acmpNe (hk : 200000 ≤ a ∧ a < 200025 ∧ 200000 ≤ b ∧ b < 200025) : ∀ C G, o_acmpNe n t C G ls (.ref b :: .ref a :: st) h = if a = b then G n ls st h else G t ls st h := fun _ _ => if_pos hk
theorem inb_iff {n : Nat} : inb i n ↔ 0 ≤ i.toInt ∧ i.toInt < n := by
  have e0 : (0 : Int32).toInt = 0 := rfl
  have e1 : i.toNatClampNeg = i.toInt.toNat := rfl
  constructor
  · intro hi
    have a0 : ¬ i.toInt < 0 := fun q => hi (Or.inl (Int32.lt_iff_toInt_lt.mpr q))
    have a1 : ¬ n ≤ i.toNatClampNeg := fun q => hi (Or.inr q)
    omega
  · rintro ⟨a0, a1⟩ (q | q)
    · have := Int32.lt_iff_toInt_lt.mp q
      omega
    · omega
theorem inb_1 {m : Int32} {n : Nat} (h0 : ¬ i < 0) (h1 : ¬ m ≤ i) (hm : m.toInt = n) : inb i n := by
  have a0 : ¬ i.toInt < 0 := fun q => h0 (Int32.lt_iff_toInt_lt.mpr q)
  have a1 : ¬ m.toInt ≤ i.toInt := fun q => h1 (Int32.le_iff_toInt_le.mpr q)
  exact inb_iff.mpr (by omega)
theorem inb_n {j n : Nat} (hj : j < n) (hn : n < 2 ^ 31) : inb (nI j) n := nI_in hj hn
end STQ
noncomputable def b2i (p : Prop) : Int32 := @ite _ p (Classical.propDecidable p) 1 0
theorem b2i_t {p : Prop} (h : p) : b2i p = 1 := if_pos h
theorem b2i_f {p : Prop} (h : ¬ p) : b2i p = 0 := if_neg h
theorem b2i_ne {p : Prop} : b2i p = 0 ↔ ¬ p := by
  by_cases h : p
  · rw [b2i_t h]; simp [h]
  · rw [b2i_f h]; simp [h]
theorem b2i_01 {p : Prop} : b2i p = 0 ∨ b2i p = 1 := by
  by_cases h : p
  · exact Or.inr (b2i_t h)
  · exact Or.inl (b2i_f h)
section TTQ
variable {d k pc pc' : Nat} {ls ls' : ALS} {st st' : List Value} {h h' : AHP} {Q : Option Value → AHP → Prop} {op : AOP}
theorem t_go (hf : fe k pc = some op) (ho : ∀ C G, op C G ls st h = G pc' ls' st' h') (kk : TT d k pc' ls' st' h' Q) : TT d k pc ls st h Q := (T_go hf ho).mpr kk
theorem t_ite {c : Prop} {dc : Decidable c} {pc2 : Nat} {ls2 : ALS} {st2 : List Value} {h2 : AHP} (hf : fe k pc = some op) (ho : ∀ C G, op C G ls st h = @ite _ c dc (G pc' ls' st' h') (G pc2 ls2 st2 h2)) (kt : c → TT d k pc' ls' st' h' Q) (kf : ¬ c → TT d k pc2 ls2 st2 h2 Q) : TT d k pc ls st h Q := (T_ite hf ho).mpr (if_split kt kf)
theorem t_ret {v : Option Value} (hf : fe k pc = some op) (ho : ∀ C G, op C G ls st h = some (v, h')) (kk : Q v h') : TT d k pc ls st h Q := (T_ret hf ho).mpr kk
theorem t_call {k' : Nat} {as rest : List Value} (hf : fe k pc = some op) (ho : ∀ C G, op C G ls st h = match C k' as h with | some (v, h2) => G pc' ls (v.toList ++ rest) h2 | none => none) (kk : MM d k' as h (fun v h2 => TT (d + 1) k pc' ls (v.toList ++ rest) h2 Q)) : TT (d + 1) k pc ls st h Q := (T_call hf ho).mpr kk
theorem t_swL {q : Int × Nat} {l : List (Int × Nat)} {dd : Nat} {x : Int32} (kt : x.toInt = q.1 → TT d k q.2 ls st h Q) (kf : ¬ x.toInt = q.1 → TT d k (swL l dd x) ls st h Q) : TT d k (swL (q :: l) dd x) ls st h Q := by
  unfold swL
  by_cases c : x.toInt = q.1
  · rw [if_pos c]; exact kt c
  · rw [if_neg c]; exact kf c
theorem t_swT {lo : Int} {ts : List Nat} {dd : Nat} {x : Int32} (ko : (x.toInt < lo ∨ lo + ts.length ≤ x.toInt) → TT d k dd ls st h Q) (ki : ∀ j, j < ts.length → x.toInt = lo + j → TT d k (ts.getD j dd) ls st h Q) : TT d k (swT lo ts dd x) ls st h Q := by
  unfold swT
  by_cases c1 : x.toInt < lo
  · rw [if_pos c1]; exact ko (Or.inl c1)
  · rw [if_neg c1]
    by_cases c2 : lo + ts.length ≤ x.toInt
    · rw [if_pos c2]; exact ko (Or.inr c2)
    · rw [if_neg c2]; exact ki _ (by omega) (by omega)
end TTQ
