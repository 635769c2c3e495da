/-! ===== the law, bits ===== -/
def ushI (x y : Int32) : Int32 := (x.toUInt32 >>> (y.toUInt32 &&& Int32.toUInt32 31)).toInt32
def bc1 (x : Int32) : Int32 := x - (ushI x 1 &&& 1431655765)
def bc2 (x : Int32) : Int32 := (x &&& 858993459) + (ushI x 2 &&& 858993459)
def bc3 (x : Int32) : Int32 := (x + ushI x 4) &&& 252645135
def bc4 (x : Int32) : Int32 := x + ushI x 8
def bc5 (x : Int32) : Int32 := x + ushI x 16
def bcI (x : Int32) : Int32 := bc5 (bc4 (bc3 (bc2 (bc1 x)))) &&& 63
def joinV (s a b : Int32) : Int32 := if s.toInt = -61 then (if a = b then 1 else 0) else if s.toInt = -60 then (if b ≤ a then 0 else 1) else if s.toInt = -45 then a - b else if s.toInt = -43 then a + b else if s.toInt = -42 then a * b else if s.toInt = -6 then (if a = 0 then 0 else if b = 0 then 0 else 1) else (if a = 0 then (if b = 0 then 0 else 1) else 1)
theorem m_bitCount {d : Nat} {h : AHP} {x : Int32} : MM d 270 [.int x] h (fun v h2 => v = some (.int (bcI x)) ∧ h2 = h) := by
  refine ⟨Nat.le_of_ble_eq_true rfl, ?_⟩
  refine t_go (op := o_iload 1 0) (fe_J6_bitCount_0f7a4 0) (fun _ _ => rfl) ?_
  refine t_go (op := o_iload 2 0) (fe_J6_bitCount_0f7a4 1) (fun _ _ => rfl) ?_
  refine t_go (op := o_ci 3 1) (fe_J6_bitCount_0f7a4 2) (fun _ _ => rfl) ?_
  refine t_go (op := o_i2 4 (fun x y => (x.toUInt32 >>> (y.toUInt32 &&& Int32.toUInt32 31)).toInt32)) (fe_J6_bitCount_0f7a4 3) (fun _ _ => rfl) ?_
  refine t_go (op := o_ci 7 1431655765) (fe_J6_bitCount_0f7a4 4) (fun _ _ => rfl) ?_
  refine t_go (op := o_i2 8 (fun x y => x &&& y)) (fe_J6_bitCount_0f7a4 7) (fun _ _ => rfl) ?_
  refine t_go (op := o_i2 9 (fun x y => x - y)) (fe_J6_bitCount_0f7a4 8) (fun _ _ => rfl) ?_
  refine t_go (op := o_istore 10 0) (fe_J6_bitCount_0f7a4 9) (fun _ _ => rfl) ?_
  refine t_go (op := o_iload 11 0) (fe_J6_bitCount_0f7a4 10) (fun _ _ => rfl) ?_
  refine t_go (op := o_ci 14 858993459) (fe_J6_bitCount_0f7a4 11) (fun _ _ => rfl) ?_
  refine t_go (op := o_i2 15 (fun x y => x &&& y)) (fe_J6_bitCount_0f7a4 14) (fun _ _ => rfl) ?_
  refine t_go (op := o_iload 16 0) (fe_J6_bitCount_0f7a4 15) (fun _ _ => rfl) ?_
  refine t_go (op := o_ci 17 2) (fe_J6_bitCount_0f7a4 16) (fun _ _ => rfl) ?_
  refine t_go (op := o_i2 18 (fun x y => (x.toUInt32 >>> (y.toUInt32 &&& Int32.toUInt32 31)).toInt32)) (fe_J6_bitCount_0f7a4 17) (fun _ _ => rfl) ?_
  refine t_go (op := o_ci 21 858993459) (fe_J6_bitCount_0f7a4 18) (fun _ _ => rfl) ?_
  refine t_go (op := o_i2 22 (fun x y => x &&& y)) (fe_J6_bitCount_0f7a4 21) (fun _ _ => rfl) ?_
  refine t_go (op := o_i2 23 (fun x y => x + y)) (fe_J6_bitCount_0f7a4 22) (fun _ _ => rfl) ?_
  refine t_go (op := o_istore 24 0) (fe_J6_bitCount_0f7a4 23) (fun _ _ => rfl) ?_
  refine t_go (op := o_iload 25 0) (fe_J6_bitCount_0f7a4 24) (fun _ _ => rfl) ?_
  refine t_go (op := o_iload 26 0) (fe_J6_bitCount_0f7a4 25) (fun _ _ => rfl) ?_
  refine t_go (op := o_ci 27 4) (fe_J6_bitCount_0f7a4 26) (fun _ _ => rfl) ?_
  refine t_go (op := o_i2 28 (fun x y => (x.toUInt32 >>> (y.toUInt32 &&& Int32.toUInt32 31)).toInt32)) (fe_J6_bitCount_0f7a4 27) (fun _ _ => rfl) ?_
  refine t_go (op := o_i2 29 (fun x y => x + y)) (fe_J6_bitCount_0f7a4 28) (fun _ _ => rfl) ?_
  refine t_go (op := o_ci 32 252645135) (fe_J6_bitCount_0f7a4 29) (fun _ _ => rfl) ?_
  refine t_go (op := o_i2 33 (fun x y => x &&& y)) (fe_J6_bitCount_0f7a4 32) (fun _ _ => rfl) ?_
  refine t_go (op := o_istore 34 0) (fe_J6_bitCount_0f7a4 33) (fun _ _ => rfl) ?_
  refine t_go (op := o_iload 35 0) (fe_J6_bitCount_0f7a4 34) (fun _ _ => rfl) ?_
  refine t_go (op := o_iload 36 0) (fe_J6_bitCount_0f7a4 35) (fun _ _ => rfl) ?_
  refine t_go (op := o_ci 38 8) (fe_J6_bitCount_0f7a4 36) (fun _ _ => rfl) ?_
  refine t_go (op := o_i2 39 (fun x y => (x.toUInt32 >>> (y.toUInt32 &&& Int32.toUInt32 31)).toInt32)) (fe_J6_bitCount_0f7a4 38) (fun _ _ => rfl) ?_
  refine t_go (op := o_i2 40 (fun x y => x + y)) (fe_J6_bitCount_0f7a4 39) (fun _ _ => rfl) ?_
  refine t_go (op := o_istore 41 0) (fe_J6_bitCount_0f7a4 40) (fun _ _ => rfl) ?_
  refine t_go (op := o_iload 42 0) (fe_J6_bitCount_0f7a4 41) (fun _ _ => rfl) ?_
  refine t_go (op := o_iload 43 0) (fe_J6_bitCount_0f7a4 42) (fun _ _ => rfl) ?_
  refine t_go (op := o_ci 45 16) (fe_J6_bitCount_0f7a4 43) (fun _ _ => rfl) ?_
  refine t_go (op := o_i2 46 (fun x y => (x.toUInt32 >>> (y.toUInt32 &&& Int32.toUInt32 31)).toInt32)) (fe_J6_bitCount_0f7a4 45) (fun _ _ => rfl) ?_
  refine t_go (op := o_i2 47 (fun x y => x + y)) (fe_J6_bitCount_0f7a4 46) (fun _ _ => rfl) ?_
  refine t_go (op := o_istore 48 0) (fe_J6_bitCount_0f7a4 47) (fun _ _ => rfl) ?_
  refine t_go (op := o_iload 49 0) (fe_J6_bitCount_0f7a4 48) (fun _ _ => rfl) ?_
  refine t_go (op := o_ci 51 63) (fe_J6_bitCount_0f7a4 49) (fun _ _ => rfl) ?_
  refine t_go (op := o_i2 52 (fun x y => x &&& y)) (fe_J6_bitCount_0f7a4 51) (fun _ _ => rfl) ?_
  refine t_ret (op := o_iret) (fe_J6_bitCount_0f7a4 52) (fun _ _ => rfl) ?_
  exact ⟨rfl, rfl⟩
theorem m_join {d : Nat} {h : AHP} {s a b : Int32} : MM d 61 [.int s, .int a, .int b] h (fun v h2 => v = some (.int (joinV s a b)) ∧ h2 = h) := by
  refine ⟨Nat.le_of_ble_eq_true rfl, ?_⟩
  refine t_go (op := o_iload 1 0) (fe_X5_join 0) (fun _ _ => rfl) ?_
  refine t_go (op := o_sw (swL [(-61, 83), (-60, 72), (-45, 64), (-43, 60), (-42, 68), (-6, 94)] 108)) (fe_X5_join 1) (fun _ _ => rfl) ?_
  refine t_swL (fun c1 => ?_) (fun c1 => ?_)
  · refine t_go (op := o_iload 84 1) (fe_X5_join 83) (fun _ _ => rfl) ?_
    refine t_go (op := o_iload 85 2) (fe_X5_join 84) (fun _ _ => rfl) ?_
    refine t_ite (op := o_icmp 92 88 (fun x y => x = y) (fun _ _ => inferInstance)) (fe_X5_join 85) g_icmp (fun c2 => ?_) (fun c2 => ?_)
    · refine t_go (op := o_ci 89 1) (fe_X5_join 88) (fun _ _ => rfl) ?_
      refine t_go (op := o_goto 93) (fe_X5_join 89) (fun _ _ => rfl) ?_
      refine t_ret (op := o_iret) (fe_X5_join 93) (fun _ _ => rfl) ?_
      exact ⟨by unfold joinV; rw [if_pos c1, if_pos c2], rfl⟩
    · refine t_go (op := o_ci 93 0) (fe_X5_join 92) (fun _ _ => rfl) ?_
      refine t_ret (op := o_iret) (fe_X5_join 93) (fun _ _ => rfl) ?_
      exact ⟨by unfold joinV; rw [if_pos c1, if_neg c2], rfl⟩
  refine t_swL (fun c3 => ?_) (fun c3 => ?_)
  · refine t_go (op := o_iload 73 1) (fe_X5_join 72) (fun _ _ => rfl) ?_
    refine t_go (op := o_iload 74 2) (fe_X5_join 73) (fun _ _ => rfl) ?_
    refine t_ite (op := o_icmp 77 81 (fun x y => y ≤ x) (fun _ _ => inferInstance)) (fe_X5_join 74) g_icmp (fun c4 => ?_) (fun c4 => ?_)
    · refine t_go (op := o_ci 82 0) (fe_X5_join 81) (fun _ _ => rfl) ?_
      refine t_ret (op := o_iret) (fe_X5_join 82) (fun _ _ => rfl) ?_
      exact ⟨by unfold joinV; rw [if_neg c1, if_pos c3, if_pos c4], rfl⟩
    · refine t_go (op := o_ci 78 1) (fe_X5_join 77) (fun _ _ => rfl) ?_
      refine t_go (op := o_goto 82) (fe_X5_join 78) (fun _ _ => rfl) ?_
      refine t_ret (op := o_iret) (fe_X5_join 82) (fun _ _ => rfl) ?_
      exact ⟨by unfold joinV; rw [if_neg c1, if_pos c3, if_neg c4], rfl⟩
  refine t_swL (fun c5 => ?_) (fun c5 => ?_)
  · refine t_go (op := o_iload 65 1) (fe_X5_join 64) (fun _ _ => rfl) ?_
    refine t_go (op := o_iload 66 2) (fe_X5_join 65) (fun _ _ => rfl) ?_
    refine t_go (op := o_i2 67 (fun x y => x - y)) (fe_X5_join 66) (fun _ _ => rfl) ?_
    refine t_ret (op := o_iret) (fe_X5_join 67) (fun _ _ => rfl) ?_
    exact ⟨by unfold joinV; rw [if_neg c1, if_neg c3, if_pos c5], rfl⟩
  refine t_swL (fun c6 => ?_) (fun c6 => ?_)
  · refine t_go (op := o_iload 61 1) (fe_X5_join 60) (fun _ _ => rfl) ?_
    refine t_go (op := o_iload 62 2) (fe_X5_join 61) (fun _ _ => rfl) ?_
    refine t_go (op := o_i2 63 (fun x y => x + y)) (fe_X5_join 62) (fun _ _ => rfl) ?_
    refine t_ret (op := o_iret) (fe_X5_join 63) (fun _ _ => rfl) ?_
    exact ⟨by unfold joinV; rw [if_neg c1, if_neg c3, if_neg c5, if_pos c6], rfl⟩
  refine t_swL (fun c7 => ?_) (fun c7 => ?_)
  · refine t_go (op := o_iload 69 1) (fe_X5_join 68) (fun _ _ => rfl) ?_
    refine t_go (op := o_iload 70 2) (fe_X5_join 69) (fun _ _ => rfl) ?_
    refine t_go (op := o_i2 71 (fun x y => x * y)) (fe_X5_join 70) (fun _ _ => rfl) ?_
    refine t_ret (op := o_iret) (fe_X5_join 71) (fun _ _ => rfl) ?_
    exact ⟨by unfold joinV; rw [if_neg c1, if_neg c3, if_neg c5, if_neg c6, if_pos c7], rfl⟩
  refine t_swL (fun c8 => ?_) (fun c8 => ?_)
  · refine t_go (op := o_iload 95 1) (fe_X5_join 94) (fun _ _ => rfl) ?_
    refine t_ite (op := o_if 98 106 (fun x => x = 0) (fun _ => inferInstance)) (fe_X5_join 95) g_if (fun c9 => ?_) (fun c9 => ?_)
    · refine t_go (op := o_ci 107 0) (fe_X5_join 106) (fun _ _ => rfl) ?_
      refine t_ret (op := o_iret) (fe_X5_join 107) (fun _ _ => rfl) ?_
      exact ⟨by unfold joinV; rw [if_neg c1, if_neg c3, if_neg c5, if_neg c6, if_neg c7, if_pos c8, if_pos c9], rfl⟩
    · refine t_go (op := o_iload 99 2) (fe_X5_join 98) (fun _ _ => rfl) ?_
      refine t_ite (op := o_if 102 106 (fun x => x = 0) (fun _ => inferInstance)) (fe_X5_join 99) g_if (fun c10 => ?_) (fun c10 => ?_)
      · refine t_go (op := o_ci 107 0) (fe_X5_join 106) (fun _ _ => rfl) ?_
        refine t_ret (op := o_iret) (fe_X5_join 107) (fun _ _ => rfl) ?_
        exact ⟨by unfold joinV; rw [if_neg c1, if_neg c3, if_neg c5, if_neg c6, if_neg c7, if_pos c8, if_neg c9, if_pos c10], rfl⟩
      · refine t_go (op := o_ci 103 1) (fe_X5_join 102) (fun _ _ => rfl) ?_
        refine t_go (op := o_goto 107) (fe_X5_join 103) (fun _ _ => rfl) ?_
        refine t_ret (op := o_iret) (fe_X5_join 107) (fun _ _ => rfl) ?_
        exact ⟨by unfold joinV; rw [if_neg c1, if_neg c3, if_neg c5, if_neg c6, if_neg c7, if_pos c8, if_neg c9, if_neg c10], rfl⟩
  refine t_go (op := o_iload 109 1) (fe_X5_join 108) (fun _ _ => rfl) ?_
  refine t_ite (op := o_if 116 112 (fun x => x = 0) (fun _ => inferInstance)) (fe_X5_join 109) g_if (fun c11 => ?_) (fun c11 => ?_)
  · refine t_go (op := o_iload 113 2) (fe_X5_join 112) (fun _ _ => rfl) ?_
    refine t_ite (op := o_if 116 120 (fun x => x = 0) (fun _ => inferInstance)) (fe_X5_join 113) g_if (fun c12 => ?_) (fun c12 => ?_)
    · refine t_go (op := o_ci 121 0) (fe_X5_join 120) (fun _ _ => rfl) ?_
      refine t_ret (op := o_iret) (fe_X5_join 121) (fun _ _ => rfl) ?_
      exact ⟨by unfold joinV; rw [if_neg c1, if_neg c3, if_neg c5, if_neg c6, if_neg c7, if_neg c8, if_pos c11, if_pos c12], rfl⟩
    · refine t_go (op := o_ci 117 1) (fe_X5_join 116) (fun _ _ => rfl) ?_
      refine t_go (op := o_goto 121) (fe_X5_join 117) (fun _ _ => rfl) ?_
      refine t_ret (op := o_iret) (fe_X5_join 121) (fun _ _ => rfl) ?_
      exact ⟨by unfold joinV; rw [if_neg c1, if_neg c3, if_neg c5, if_neg c6, if_neg c7, if_neg c8, if_pos c11, if_neg c12], rfl⟩
  · refine t_go (op := o_ci 117 1) (fe_X5_join 116) (fun _ _ => rfl) ?_
    refine t_go (op := o_goto 121) (fe_X5_join 117) (fun _ _ => rfl) ?_
    refine t_ret (op := o_iret) (fe_X5_join 121) (fun _ _ => rfl) ?_
    exact ⟨by unfold joinV; rw [if_neg c1, if_neg c3, if_neg c5, if_neg c6, if_neg c7, if_neg c8, if_neg c11], rfl⟩
def lawH (h : AHP) (l : Nat) (fr r : Nat → Int32) : AHP := rowI (rowI h (l + 2) fr) (l + 3) r
theorem lawH_3 {h : AHP} {l i : Nat} {v : Int32} {fr r : Nat → Int32} : sI (lawH h l fr r) (l + 3) i v = lawH h l fr (fup r i v) := by
  refine AHP_ext (fun a j => ?_) rfl
  simp only [lawH, rowI, row2, sI, up2, fup]
  by_cases e : a = l + 3
  · simp [e]
  · simp [e]
theorem lawH_2 {h : AHP} {l i : Nat} {v : Int32} {fr r : Nat → Int32} : sI (lawH h l fr r) (l + 2) i v = lawH h l (fup fr i v) r := by
  refine AHP_ext (fun a j => ?_) rfl
  simp only [lawH, rowI, row2, sI, up2, fup]
  by_cases e : a = l + 2
  · simp [e]
  · simp [e]
theorem lawH_id {h : AHP} {l : Nat} : lawH h l (h.1 (l + 2)) (h.1 (l + 3)) = h := by
  refine AHP_ext (fun a j => ?_) rfl
  simp only [lawH, rowI, row2]
  by_cases e : a = l + 3
  · simp [e]
  · by_cases e2 : a = l + 2
    · simp [e2]
    · simp [e, e2]
theorem lawH_r3 {h : AHP} {l : Nat} {fr r : Nat → Int32} : (lawH h l fr r).1 (l + 3) = r := by funext j; simp [lawH, rowI, row2]
theorem lawH_r2 {h : AHP} {l : Nat} {fr r : Nat → Int32} : (lawH h l fr r).1 (l + 2) = fr := by funext j; simp [lawH, rowI, row2]
theorem lawH_at {h : AHP} {l a : Nat} {fr r : Nat → Int32} (h2 : a ≠ l + 2) (h3 : a ≠ l + 3) : (lawH h l fr r).1 a = h.1 a := by funext j; simp [lawH, rowI, row2, h2, h3]
def stpL (op : Int32) (fr : Nat → Int32) (s : Nat × (Nat → Int32)) : Nat × (Nat → Int32) :=
  if op < -4 then (if op = -5 then (if nI s.1 < 1 then s else (s.1, fup s.2 (nI s.1 - 1).toNatClampNeg (if s.2 (nI s.1 - 1).toNatClampNeg = 0 then 1 else 0)))
    else (if nI s.1 < 2 then s else (s.1 - 1, fup s.2 (nI (s.1 - 1) - 1).toNatClampNeg (joinV op (s.2 (nI (s.1 - 1) - 1).toNatClampNeg) (s.2 (nI (s.1 - 1)).toNatClampNeg)))))
  else (if 24 ≤ nI s.1 then s else (s.1 + 1, fup s.2 (nI s.1).toNatClampNeg (if op < 0 then fr (-1 - op).toNatClampNeg else op)))
theorem stpL_le {op : Int32} {fr : Nat → Int32} {s : Nat × (Nat → Int32)} (h : s.1 ≤ 24) : (stpL op fr s).1 ≤ 24 := by
  unfold stpL
  split
  · split
    · split <;> simp_all
    · split <;> simp_all <;> omega
  · split
    · exact h
    · rename_i q
      have : ¬ nI 24 ≤ nI s.1 := q
      rw [nI_leI (by omega) (by omega)] at this
      show s.1 + 1 ≤ 24
      omega
def fact4 (a b c e : Int32) (r : Nat → Int32) : Nat → Int32 := fup (fup (fup (fup r 0 a) 1 b) 2 c) 3 e
def tellsV (st : Nat → Int32) (n : Nat) (r2 r3 : Nat → Int32) (a b c e : Int32) : Int32 := if n = 0 then a + b * 2 + c - 3 else (it (fun i => stpL (st i) (fact4 a b c e r2)) n 0 (0, r3)).2 0
theorem inb_sub1 {t n : Nat} (h1 : 1 ≤ t) (h2 : t ≤ n) (hn : n < 2 ^ 31) : inb (nI t - 1) n := by
  rw [show nI t - 1 = nI (t - 1) by rw [show (1 : Int32) = nI 1 from rfl, pk_sub h1]]
  exact inb_n (by omega) hn
theorem inb_fact {x : Int32} (h1 : ¬ x < -4) (h2 : x < 0) : inb (-1 - x) 4 := by
  have a1 : ¬ x.toInt < -4 := fun q => h1 (Int32.lt_iff_toInt_lt.mpr q)
  have a2 : x.toInt < 0 := Int32.lt_iff_toInt_lt.mp h2
  refine inb_iff.mpr ?_
  have e : (-1 - x).toInt = -1 - x.toInt := by
    rw [Int32.toInt_sub]
    rw [show (-1 : Int32).toInt = -1 from rfl]
    exact Int.bmod_eq_of_le (by omega) (by omega)
  omega
theorem l_tells {d : Nat} {h : AHP} {l n : Nat} {fr : Nat → Int32} {x1 x2 x3 x4 : Int32} (hS : Std h) (hl : (lay l).1 = 4) (hlen : h.1 l 3 = nI n) (hn : n ≤ 1000)  {Q : Option Value → AHP → Prop} : ∀ (j i : Nat) (S : Nat × (Nat → Int32)) (x7 : Option Value), i + j = n → S.1 ≤ 24 → Q (some (.int ((it (fun i => stpL (h.1 (l + 1) i) fr) j i S).2 0))) (lawH h l fr (it (fun i => stpL (h.1 (l + 1) i) fr) j i S).2) → TT (d + 1) 60 52 [some (.ref l), some (.int x1), some (.int x2), some (.int x3), some (.int x4), some (.int (nI S.1)), some (.int (nI i)), x7] [] (lawH h l fr S.2) Q := by
  intro j
  induction j with
  | zero =>
    intro i S x7 hi hT hq
    have hN : i = n := by omega
    have hl3 : (lawH h l fr S.2).1 l 3 = nI n := (congrFun (lawH_at (by omega) (by omega)) 3).trans hlen
    have hst : (lawH h l fr S.2).1 (l + 1) (nI i).toNatClampNeg = h.1 (l + 1) i := (congrFun (lawH_at (by omega) (by omega)) _).trans (by rw [nI_clamp (by omega)])
    refine t_go (op := o_iload 54 6) (fe_X5_tells 52) (fun _ _ => rfl) ?_
    refine t_go (op := o_aload 55 0) (fe_X5_tells 54) (fun _ _ => rfl) ?_
    refine t_go (op := o_getI 58 4 3) (fe_X5_tells 55) (g_getI hS hl (by decide)) ?_
    rw [hl3]
    refine t_ite (op := o_icmp 61 211 (fun x y => y ≤ x) (fun _ _ => inferInstance)) (fe_X5_tells 58) g_icmp (fun c1 => ?_) (fun c1 => ?_)
    · refine t_go (op := o_aload 212 0) (fe_X5_tells 211) (fun _ _ => rfl) ?_
      refine t_go (op := o_getR 215 4 2) (fe_X5_tells 212) (g_getR hS hl (by decide) (fr_4_2 hS hl) (Nat.succ_pos _)) ?_
      refine t_go (op := o_ci 216 0) (fe_X5_tells 215) (fun _ _ => rfl) ?_
      refine t_go (op := o_iald 217) (fe_X5_tells 216) (g_iald hS (ly_4_3 hl) (by decide)) ?_
      refine t_ret (op := o_iret) (fe_X5_tells 217) (fun _ _ => rfl) ?_
      rw [lawH_r3]
      exact hq
    · exact absurd (by rw [hN]; exact Int32.le_refl _) c1
  | succ j ih =>
    intro i S x7 hi hT hq
    have hi2 : i < n := by omega
    have hl3 : (lawH h l fr S.2).1 l 3 = nI n := (congrFun (lawH_at (by omega) (by omega)) 3).trans hlen
    have hst : (lawH h l fr S.2).1 (l + 1) (nI i).toNatClampNeg = h.1 (l + 1) i := (congrFun (lawH_at (by omega) (by omega)) _).trans (by rw [nI_clamp (by omega)])
    refine t_go (op := o_iload 54 6) (fe_X5_tells 52) (fun _ _ => rfl) ?_
    refine t_go (op := o_aload 55 0) (fe_X5_tells 54) (fun _ _ => rfl) ?_
    refine t_go (op := o_getI 58 4 3) (fe_X5_tells 55) (g_getI hS hl (by decide)) ?_
    rw [hl3]
    refine t_ite (op := o_icmp 61 211 (fun x y => y ≤ x) (fun _ _ => inferInstance)) (fe_X5_tells 58) g_icmp (fun c1 => ?_) (fun c1 => ?_)
    · exact absurd c1 (nI_ge hi2 (by omega))
    · refine t_go (op := o_iload 63 6) (fe_X5_tells 61) (fun _ _ => rfl) ?_
      refine t_go (op := o_ci 66 1000) (fe_X5_tells 63) (fun _ _ => rfl) ?_
      refine t_ite (op := o_icmp 69 211 (fun x y => y ≤ x) (fun _ _ => inferInstance)) (fe_X5_tells 66) g_icmp (fun c2 => ?_) (fun c2 => ?_)
      · exact absurd c2 (nI_ge (show i < 1000 by omega) (by decide))
      · refine t_go (op := o_aload 70 0) (fe_X5_tells 69) (fun _ _ => rfl) ?_
        refine t_go (op := o_getR 73 4 0) (fe_X5_tells 70) (g_getR hS hl (by decide) (fr_4_0 hS hl) (Nat.succ_pos _)) ?_
        refine t_go (op := o_iload 75 6) (fe_X5_tells 73) (fun _ _ => rfl) ?_
        refine t_go (op := o_iald 76) (fe_X5_tells 75) (g_iald hS (ly_4_1 hl) (inb_n (show i < 1000 by omega) (by decide))) ?_
        rw [hst]
        refine t_go (op := o_istore 78 7) (fe_X5_tells 76) (fun _ _ => rfl) ?_
        refine t_go (op := o_iload 80 7) (fe_X5_tells 78) (fun _ _ => rfl) ?_
        refine t_go (op := o_ci 82 (-4)) (fe_X5_tells 80) (fun _ _ => rfl) ?_
        refine t_ite (op := o_icmp 85 124 (fun x y => x < y) (fun _ _ => inferInstance)) (fe_X5_tells 82) g_icmp (fun c3 => ?_) (fun c3 => ?_)
        · refine t_go (op := o_iload 126 7) (fe_X5_tells 124) (fun _ _ => rfl) ?_
          refine t_go (op := o_ci 128 (-5)) (fe_X5_tells 126) (fun _ _ => rfl) ?_
          refine t_ite (op := o_icmp 166 131 (fun x y => x = y) (fun _ _ => inferInstance)) (fe_X5_tells 128) g_icmp (fun c4 => ?_) (fun c4 => ?_)
          · refine t_go (op := o_iload 133 5) (fe_X5_tells 131) (fun _ _ => rfl) ?_
            refine t_go (op := o_ci 134 1) (fe_X5_tells 133) (fun _ _ => rfl) ?_
            refine t_ite (op := o_icmp 137 205 (fun x y => x < y) (fun _ _ => inferInstance)) (fe_X5_tells 134) g_icmp (fun c5 => ?_) (fun c5 => ?_)
            · refine t_go (op := o_iinc 208 6 1) (fe_X5_tells 205) (fun _ _ => rfl) ?_
              refine t_go (op := o_goto 52) (fe_X5_tells 208) (fun _ _ => rfl) ?_
              have hs : stpL (h.1 (l + 1) i) fr S = S := by unfold stpL; rw [if_pos c3, if_pos c4, if_pos c5]
              have hle := stpL_le (op := h.1 (l + 1) i) (fr := fr) hT
              have hq2 : Q (some (.int ((it (fun i => stpL (h.1 (l + 1) i) fr) j (i + 1) (stpL (h.1 (l + 1) i) fr S)).2 0))) (lawH h l fr (it (fun i => stpL (h.1 (l + 1) i) fr) j (i + 1) (stpL (h.1 (l + 1) i) fr S)).2) := hq
              rw [hs] at hq2 hle
              rw [nI_1 i]
              exact ih (i + 1) S _ (by omega) hle hq2
            · have h1 : 1 ≤ S.1 := by
                have q : ¬ nI S.1 < nI 1 := c5
                rw [nI_ltI (by omega) (by omega)] at q
                omega
              refine t_go (op := o_aload 138 0) (fe_X5_tells 137) (fun _ _ => rfl) ?_
              refine t_go (op := o_getR 141 4 2) (fe_X5_tells 138) (g_getR hS hl (by decide) (fr_4_2 hS hl) (Nat.succ_pos _)) ?_
              refine t_go (op := o_iload 143 5) (fe_X5_tells 141) (fun _ _ => rfl) ?_
              refine t_go (op := o_ci 144 1) (fe_X5_tells 143) (fun _ _ => rfl) ?_
              refine t_go (op := o_i2 145 (fun x y => x - y)) (fe_X5_tells 144) (fun _ _ => rfl) ?_
              refine t_go (op := o_aload 146 0) (fe_X5_tells 145) (fun _ _ => rfl) ?_
              refine t_go (op := o_getR 149 4 2) (fe_X5_tells 146) (g_getR hS hl (by decide) (fr_4_2 hS hl) (Nat.succ_pos _)) ?_
              refine t_go (op := o_iload 151 5) (fe_X5_tells 149) (fun _ _ => rfl) ?_
              refine t_go (op := o_ci 152 1) (fe_X5_tells 151) (fun _ _ => rfl) ?_
              refine t_go (op := o_i2 153 (fun x y => x - y)) (fe_X5_tells 152) (fun _ _ => rfl) ?_
              refine t_go (op := o_iald 154) (fe_X5_tells 153) (g_iald hS (ly_4_3 hl) (inb_sub1 h1 hT (by decide))) ?_
              rw [lawH_r3]
              refine t_ite (op := o_if 161 157 (fun x => x = 0) (fun _ => inferInstance)) (fe_X5_tells 154) g_if (fun c6 => ?_) (fun c6 => ?_)
              · refine t_go (op := o_ci 158 1) (fe_X5_tells 157) (fun _ _ => rfl) ?_
                refine t_go (op := o_goto 162) (fe_X5_tells 158) (fun _ _ => rfl) ?_
                refine t_go (op := o_iast 163) (fe_X5_tells 162) (g_iast hS (ly_4_3 hl) (inb_sub1 h1 hT (by decide))) ?_
                refine t_go (op := o_goto 205) (fe_X5_tells 163) (fun _ _ => rfl) ?_
                refine t_go (op := o_iinc 208 6 1) (fe_X5_tells 205) (fun _ _ => rfl) ?_
                refine t_go (op := o_goto 52) (fe_X5_tells 208) (fun _ _ => rfl) ?_
                rw [lawH_3]
                have hs : stpL (h.1 (l + 1) i) fr S = (S.1, fup S.2 (nI S.1 - 1).toNatClampNeg 1) := by unfold stpL; rw [if_pos c3, if_pos c4, if_neg c5, if_pos c6]
                have hle := stpL_le (op := h.1 (l + 1) i) (fr := fr) hT
                have hq2 : Q (some (.int ((it (fun i => stpL (h.1 (l + 1) i) fr) j (i + 1) (stpL (h.1 (l + 1) i) fr S)).2 0))) (lawH h l fr (it (fun i => stpL (h.1 (l + 1) i) fr) j (i + 1) (stpL (h.1 (l + 1) i) fr S)).2) := hq
                rw [hs] at hq2 hle
                rw [nI_1 i]
                exact ih (i + 1) (S.1, fup S.2 (nI S.1 - 1).toNatClampNeg 1) _ (by omega) hle hq2
              · refine t_go (op := o_ci 162 0) (fe_X5_tells 161) (fun _ _ => rfl) ?_
                refine t_go (op := o_iast 163) (fe_X5_tells 162) (g_iast hS (ly_4_3 hl) (inb_sub1 h1 hT (by decide))) ?_
                refine t_go (op := o_goto 205) (fe_X5_tells 163) (fun _ _ => rfl) ?_
                refine t_go (op := o_iinc 208 6 1) (fe_X5_tells 205) (fun _ _ => rfl) ?_
                refine t_go (op := o_goto 52) (fe_X5_tells 208) (fun _ _ => rfl) ?_
                rw [lawH_3]
                have hs : stpL (h.1 (l + 1) i) fr S = (S.1, fup S.2 (nI S.1 - 1).toNatClampNeg 0) := by unfold stpL; rw [if_pos c3, if_pos c4, if_neg c5, if_neg c6]
                have hle := stpL_le (op := h.1 (l + 1) i) (fr := fr) hT
                have hq2 : Q (some (.int ((it (fun i => stpL (h.1 (l + 1) i) fr) j (i + 1) (stpL (h.1 (l + 1) i) fr S)).2 0))) (lawH h l fr (it (fun i => stpL (h.1 (l + 1) i) fr) j (i + 1) (stpL (h.1 (l + 1) i) fr S)).2) := hq
                rw [hs] at hq2 hle
                rw [nI_1 i]
                exact ih (i + 1) (S.1, fup S.2 (nI S.1 - 1).toNatClampNeg 0) _ (by omega) hle hq2
          · refine t_go (op := o_iload 168 5) (fe_X5_tells 166) (fun _ _ => rfl) ?_
            refine t_go (op := o_ci 169 2) (fe_X5_tells 168) (fun _ _ => rfl) ?_
            refine t_ite (op := o_icmp 172 205 (fun x y => x < y) (fun _ _ => inferInstance)) (fe_X5_tells 169) g_icmp (fun c7 => ?_) (fun c7 => ?_)
            · refine t_go (op := o_iinc 208 6 1) (fe_X5_tells 205) (fun _ _ => rfl) ?_
              refine t_go (op := o_goto 52) (fe_X5_tells 208) (fun _ _ => rfl) ?_
              have hs : stpL (h.1 (l + 1) i) fr S = S := by unfold stpL; rw [if_pos c3, if_neg c4, if_pos c7]
              have hle := stpL_le (op := h.1 (l + 1) i) (fr := fr) hT
              have hq2 : Q (some (.int ((it (fun i => stpL (h.1 (l + 1) i) fr) j (i + 1) (stpL (h.1 (l + 1) i) fr S)).2 0))) (lawH h l fr (it (fun i => stpL (h.1 (l + 1) i) fr) j (i + 1) (stpL (h.1 (l + 1) i) fr S)).2) := hq
              rw [hs] at hq2 hle
              rw [nI_1 i]
              exact ih (i + 1) S _ (by omega) hle hq2
            · have h2 : 2 ≤ S.1 := by
                have q : ¬ nI S.1 < nI 2 := c7
                rw [nI_ltI (by omega) (by omega)] at q
                omega
              refine t_go (op := o_iinc 175 5 (-1)) (fe_X5_tells 172) (fun _ _ => rfl) ?_
              rw [show nI S.1 + (-1) = nI (S.1 - 1) by rw [show S.1 = S.1 - 1 + 1 by omega, pk_m1, Nat.add_sub_cancel]]
              refine t_go (op := o_aload 176 0) (fe_X5_tells 175) (fun _ _ => rfl) ?_
              refine t_go (op := o_getR 179 4 2) (fe_X5_tells 176) (g_getR hS hl (by decide) (fr_4_2 hS hl) (Nat.succ_pos _)) ?_
              refine t_go (op := o_iload 181 5) (fe_X5_tells 179) (fun _ _ => rfl) ?_
              refine t_go (op := o_ci 182 1) (fe_X5_tells 181) (fun _ _ => rfl) ?_
              refine t_go (op := o_i2 183 (fun x y => x - y)) (fe_X5_tells 182) (fun _ _ => rfl) ?_
              refine t_go (op := o_iload 185 7) (fe_X5_tells 183) (fun _ _ => rfl) ?_
              refine t_go (op := o_aload 186 0) (fe_X5_tells 185) (fun _ _ => rfl) ?_
              refine t_go (op := o_getR 189 4 2) (fe_X5_tells 186) (g_getR hS hl (by decide) (fr_4_2 hS hl) (Nat.succ_pos _)) ?_
              refine t_go (op := o_iload 191 5) (fe_X5_tells 189) (fun _ _ => rfl) ?_
              refine t_go (op := o_ci 192 1) (fe_X5_tells 191) (fun _ _ => rfl) ?_
              refine t_go (op := o_i2 193 (fun x y => x - y)) (fe_X5_tells 192) (fun _ _ => rfl) ?_
              refine t_go (op := o_iald 194) (fe_X5_tells 193) (g_iald hS (ly_4_3 hl) (inb_sub1 (show 1 ≤ S.1 - 1 by omega) (show S.1 - 1 ≤ 24 by omega) (by decide))) ?_
              refine t_go (op := o_aload 195 0) (fe_X5_tells 194) (fun _ _ => rfl) ?_
              refine t_go (op := o_getR 198 4 2) (fe_X5_tells 195) (g_getR hS hl (by decide) (fr_4_2 hS hl) (Nat.succ_pos _)) ?_
              refine t_go (op := o_iload 200 5) (fe_X5_tells 198) (fun _ _ => rfl) ?_
              refine t_go (op := o_iald 201) (fe_X5_tells 200) (g_iald hS (ly_4_3 hl) (inb_n (show S.1 - 1 < 24 by omega) (by decide))) ?_
              rw [lawH_r3]
              refine t_call (op := o_callS 204 61 3) (fe_X5_tells 201) (g_callS rfl rfl rfl (Nat.le_of_ble_eq_true rfl)) ?_
              refine M_mono ?_ (m_join)
              rintro v h2 ⟨q1, q2⟩
              rw [q1, q2]; clear q1 q2 v h2
              refine t_go (op := o_iast 205) (fe_X5_tells 204) (g_iast hS (ly_4_3 hl) (inb_sub1 (show 1 ≤ S.1 - 1 by omega) (show S.1 - 1 ≤ 24 by omega) (by decide))) ?_
              refine t_go (op := o_iinc 208 6 1) (fe_X5_tells 205) (fun _ _ => rfl) ?_
              refine t_go (op := o_goto 52) (fe_X5_tells 208) (fun _ _ => rfl) ?_
              rw [lawH_3]
              have hs : stpL (h.1 (l + 1) i) fr S = (S.1 - 1, fup S.2 (nI (S.1 - 1) - 1).toNatClampNeg (joinV (h.1 (l + 1) i) (S.2 (nI (S.1 - 1) - 1).toNatClampNeg) (S.2 (nI (S.1 - 1)).toNatClampNeg))) := by unfold stpL; rw [if_pos c3, if_neg c4, if_neg c7]
              have hle := stpL_le (op := h.1 (l + 1) i) (fr := fr) hT
              have hq2 : Q (some (.int ((it (fun i => stpL (h.1 (l + 1) i) fr) j (i + 1) (stpL (h.1 (l + 1) i) fr S)).2 0))) (lawH h l fr (it (fun i => stpL (h.1 (l + 1) i) fr) j (i + 1) (stpL (h.1 (l + 1) i) fr S)).2) := hq
              rw [hs] at hq2 hle
              rw [nI_1 i]
              exact ih (i + 1) (S.1 - 1, fup S.2 (nI (S.1 - 1) - 1).toNatClampNeg (joinV (h.1 (l + 1) i) (S.2 (nI (S.1 - 1) - 1).toNatClampNeg) (S.2 (nI (S.1 - 1)).toNatClampNeg))) _ (by omega) hle hq2
        · refine t_go (op := o_iload 87 5) (fe_X5_tells 85) (fun _ _ => rfl) ?_
          refine t_go (op := o_ci 89 24) (fe_X5_tells 87) (fun _ _ => rfl) ?_
          refine t_ite (op := o_icmp 92 205 (fun x y => y ≤ x) (fun _ _ => inferInstance)) (fe_X5_tells 89) g_icmp (fun c8 => ?_) (fun c8 => ?_)
          · refine t_go (op := o_iinc 208 6 1) (fe_X5_tells 205) (fun _ _ => rfl) ?_
            refine t_go (op := o_goto 52) (fe_X5_tells 208) (fun _ _ => rfl) ?_
            have hs : stpL (h.1 (l + 1) i) fr S = S := by unfold stpL; rw [if_neg c3, if_pos c8]
            have hle := stpL_le (op := h.1 (l + 1) i) (fr := fr) hT
            have hq2 : Q (some (.int ((it (fun i => stpL (h.1 (l + 1) i) fr) j (i + 1) (stpL (h.1 (l + 1) i) fr S)).2 0))) (lawH h l fr (it (fun i => stpL (h.1 (l + 1) i) fr) j (i + 1) (stpL (h.1 (l + 1) i) fr S)).2) := hq
            rw [hs] at hq2 hle
            rw [nI_1 i]
            exact ih (i + 1) S _ (by omega) hle hq2
          · have h24 : S.1 < 24 := by
              have q : ¬ nI 24 ≤ nI S.1 := c8
              rw [nI_leI (by omega) (by omega)] at q
              omega
            refine t_go (op := o_aload 93 0) (fe_X5_tells 92) (fun _ _ => rfl) ?_
            refine t_go (op := o_getR 96 4 2) (fe_X5_tells 93) (g_getR hS hl (by decide) (fr_4_2 hS hl) (Nat.succ_pos _)) ?_
            refine t_go (op := o_iload 98 5) (fe_X5_tells 96) (fun _ _ => rfl) ?_
            refine t_go (op := o_iload 100 7) (fe_X5_tells 98) (fun _ _ => rfl) ?_
            refine t_ite (op := o_if 103 108 (fun x => x < 0) (fun _ => inferInstance)) (fe_X5_tells 100) g_if (fun c9 => ?_) (fun c9 => ?_)
            · refine t_go (op := o_aload 109 0) (fe_X5_tells 108) (fun _ _ => rfl) ?_
              refine t_go (op := o_getR 112 4 1) (fe_X5_tells 109) (g_getR hS hl (by decide) (fr_4_1 hS hl) (Nat.succ_pos _)) ?_
              refine t_go (op := o_ci 113 (-1)) (fe_X5_tells 112) (fun _ _ => rfl) ?_
              refine t_go (op := o_iload 115 7) (fe_X5_tells 113) (fun _ _ => rfl) ?_
              refine t_go (op := o_i2 116 (fun x y => x - y)) (fe_X5_tells 115) (fun _ _ => rfl) ?_
              refine t_go (op := o_iald 117) (fe_X5_tells 116) (g_iald hS (ly_4_2 hl) (inb_fact c3 c9)) ?_
              refine t_go (op := o_iast 118) (fe_X5_tells 117) (g_iast hS (ly_4_3 hl) (inb_n h24 (by decide))) ?_
              refine t_go (op := o_iinc 121 5 1) (fe_X5_tells 118) (fun _ _ => rfl) ?_
              refine t_go (op := o_goto 205) (fe_X5_tells 121) (fun _ _ => rfl) ?_
              refine t_go (op := o_iinc 208 6 1) (fe_X5_tells 205) (fun _ _ => rfl) ?_
              refine t_go (op := o_goto 52) (fe_X5_tells 208) (fun _ _ => rfl) ?_
              rw [lawH_r2]
              rw [lawH_3]
              rw [nI_1]
              have hs : stpL (h.1 (l + 1) i) fr S = (S.1 + 1, fup S.2 (nI S.1).toNatClampNeg (fr (-1 - h.1 (l + 1) i).toNatClampNeg)) := by unfold stpL; rw [if_neg c3, if_neg c8, if_pos c9]
              have hle := stpL_le (op := h.1 (l + 1) i) (fr := fr) hT
              have hq2 : Q (some (.int ((it (fun i => stpL (h.1 (l + 1) i) fr) j (i + 1) (stpL (h.1 (l + 1) i) fr S)).2 0))) (lawH h l fr (it (fun i => stpL (h.1 (l + 1) i) fr) j (i + 1) (stpL (h.1 (l + 1) i) fr S)).2) := hq
              rw [hs] at hq2 hle
              rw [nI_1 i]
              exact ih (i + 1) (S.1 + 1, fup S.2 (nI S.1).toNatClampNeg (fr (-1 - h.1 (l + 1) i).toNatClampNeg)) _ (by omega) hle hq2
            · refine t_go (op := o_iload 105 7) (fe_X5_tells 103) (fun _ _ => rfl) ?_
              refine t_go (op := o_goto 117) (fe_X5_tells 105) (fun _ _ => rfl) ?_
              refine t_go (op := o_iast 118) (fe_X5_tells 117) (g_iast hS (ly_4_3 hl) (inb_n h24 (by decide))) ?_
              refine t_go (op := o_iinc 121 5 1) (fe_X5_tells 118) (fun _ _ => rfl) ?_
              refine t_go (op := o_goto 205) (fe_X5_tells 121) (fun _ _ => rfl) ?_
              refine t_go (op := o_iinc 208 6 1) (fe_X5_tells 205) (fun _ _ => rfl) ?_
              refine t_go (op := o_goto 52) (fe_X5_tells 208) (fun _ _ => rfl) ?_
              rw [lawH_3]
              rw [nI_1]
              have hs : stpL (h.1 (l + 1) i) fr S = (S.1 + 1, fup S.2 (nI S.1).toNatClampNeg (h.1 (l + 1) i)) := by unfold stpL; rw [if_neg c3, if_neg c8, if_neg c9]
              have hle := stpL_le (op := h.1 (l + 1) i) (fr := fr) hT
              have hq2 : Q (some (.int ((it (fun i => stpL (h.1 (l + 1) i) fr) j (i + 1) (stpL (h.1 (l + 1) i) fr S)).2 0))) (lawH h l fr (it (fun i => stpL (h.1 (l + 1) i) fr) j (i + 1) (stpL (h.1 (l + 1) i) fr S)).2) := hq
              rw [hs] at hq2 hle
              rw [nI_1 i]
              exact ih (i + 1) (S.1 + 1, fup S.2 (nI S.1).toNatClampNeg (h.1 (l + 1) i)) _ (by omega) hle hq2
theorem m_tells {d : Nat} {h : AHP} {l n : Nat} {r2 r3 : Nat → Int32} {a b c e : Int32} (hS : Std h) (hl : (lay l).1 = 4) (hlen : h.1 l 3 = nI n) (hn : n ≤ 1000) : MM (d + 1) 60 [.ref l, .int a, .int b, .int c, .int e] (lawH h l r2 r3) (fun v h2 => v = some (.int (tellsV (h.1 (l + 1)) n r2 r3 a b c e)) ∧ ∃ fr r, h2 = lawH h l fr r) := by
  refine ⟨Nat.le_of_ble_eq_true rfl, ?_⟩
  refine t_go (op := o_aload 1 0) (fe_X5_tells 0) (fun _ _ => rfl) ?_
  refine t_go (op := o_getI 4 4 3) (fe_X5_tells 1) (g_getI hS hl (by decide)) ?_
  rw [show (lawH h l r2 r3).1 l 3 = nI n from (congrFun (lawH_at (by omega) (by omega)) 3).trans hlen]
  refine t_ite (op := o_if 17 7 (fun x => x = 0) (fun _ => inferInstance)) (fe_X5_tells 4) g_if (fun c1 => ?_) (fun c1 => ?_)
  · refine t_go (op := o_iload 8 1) (fe_X5_tells 7) (fun _ _ => rfl) ?_
    refine t_go (op := o_iload 9 2) (fe_X5_tells 8) (fun _ _ => rfl) ?_
    refine t_go (op := o_ci 10 2) (fe_X5_tells 9) (fun _ _ => rfl) ?_
    refine t_go (op := o_i2 11 (fun x y => x * y)) (fe_X5_tells 10) (fun _ _ => rfl) ?_
    refine t_go (op := o_i2 12 (fun x y => x + y)) (fe_X5_tells 11) (fun _ _ => rfl) ?_
    refine t_go (op := o_iload 13 3) (fe_X5_tells 12) (fun _ _ => rfl) ?_
    refine t_go (op := o_i2 14 (fun x y => x + y)) (fe_X5_tells 13) (fun _ _ => rfl) ?_
    refine t_go (op := o_ci 15 3) (fe_X5_tells 14) (fun _ _ => rfl) ?_
    refine t_go (op := o_i2 16 (fun x y => x - y)) (fe_X5_tells 15) (fun _ _ => rfl) ?_
    refine t_ret (op := o_iret) (fe_X5_tells 16) (fun _ _ => rfl) ?_
    refine ⟨?_, r2, r3, rfl⟩
    have h0 : n = 0 := by
      rcases Nat.eq_zero_or_pos n with q | q
      · exact q
      · exact absurd c1 (nI_ne0 q (by omega))
    unfold tellsV
    rw [if_pos h0]
  · refine t_go (op := o_aload 18 0) (fe_X5_tells 17) (fun _ _ => rfl) ?_
    refine t_go (op := o_getR 21 4 1) (fe_X5_tells 18) (g_getR hS hl (by decide) (fr_4_1 hS hl) (Nat.succ_pos _)) ?_
    refine t_go (op := o_ci 22 0) (fe_X5_tells 21) (fun _ _ => rfl) ?_
    refine t_go (op := o_iload 23 1) (fe_X5_tells 22) (fun _ _ => rfl) ?_
    refine t_go (op := o_iast 24) (fe_X5_tells 23) (g_iast hS (ly_4_2 hl) (by decide)) ?_
    rw [lawH_2]
    refine t_go (op := o_aload 25 0) (fe_X5_tells 24) (fun _ _ => rfl) ?_
    refine t_go (op := o_getR 28 4 1) (fe_X5_tells 25) (g_getR hS hl (by decide) (fr_4_1 hS hl) (Nat.succ_pos _)) ?_
    refine t_go (op := o_ci 29 1) (fe_X5_tells 28) (fun _ _ => rfl) ?_
    refine t_go (op := o_iload 30 2) (fe_X5_tells 29) (fun _ _ => rfl) ?_
    refine t_go (op := o_iast 31) (fe_X5_tells 30) (g_iast hS (ly_4_2 hl) (by decide)) ?_
    rw [lawH_2]
    refine t_go (op := o_aload 32 0) (fe_X5_tells 31) (fun _ _ => rfl) ?_
    refine t_go (op := o_getR 35 4 1) (fe_X5_tells 32) (g_getR hS hl (by decide) (fr_4_1 hS hl) (Nat.succ_pos _)) ?_
    refine t_go (op := o_ci 36 2) (fe_X5_tells 35) (fun _ _ => rfl) ?_
    refine t_go (op := o_iload 37 3) (fe_X5_tells 36) (fun _ _ => rfl) ?_
    refine t_go (op := o_iast 38) (fe_X5_tells 37) (g_iast hS (ly_4_2 hl) (by decide)) ?_
    rw [lawH_2]
    refine t_go (op := o_aload 39 0) (fe_X5_tells 38) (fun _ _ => rfl) ?_
    refine t_go (op := o_getR 42 4 1) (fe_X5_tells 39) (g_getR hS hl (by decide) (fr_4_1 hS hl) (Nat.succ_pos _)) ?_
    refine t_go (op := o_ci 43 3) (fe_X5_tells 42) (fun _ _ => rfl) ?_
    refine t_go (op := o_iload 45 4) (fe_X5_tells 43) (fun _ _ => rfl) ?_
    refine t_go (op := o_iast 46) (fe_X5_tells 45) (g_iast hS (ly_4_2 hl) (by decide)) ?_
    rw [lawH_2]
    refine t_go (op := o_ci 47 0) (fe_X5_tells 46) (fun _ _ => rfl) ?_
    refine t_go (op := o_istore 49 5) (fe_X5_tells 47) (fun _ _ => rfl) ?_
    refine t_go (op := o_ci 50 0) (fe_X5_tells 49) (fun _ _ => rfl) ?_
    refine t_go (op := o_istore 52 6) (fe_X5_tells 50) (fun _ _ => rfl) ?_
    have h0 : ¬ n = 0 := fun q => c1 (by rw [q]; rfl)
    exact l_tells hS hl hlen hn n 0 (0, r3) none (by omega) (Nat.zero_le _) ⟨by unfold tellsV; rw [if_neg h0]; rfl, _, _, rfl⟩
