/-! ===== the law, bits ===== -/
def ushI (x y : Int32) : Int32 := (x.toUInt32 >>> (y.toUInt32 &&& Int32.toUInt32 31)).toInt32
def bc1 (x : Int32) : Int32 := x - (ushI x 1 &&& 1431655765)
def bc2 (x : Int32) : Int32 := (x &&& 858993459) + (ushI x 2 &&& 858993459)
def bc3 (x : Int32) : Int32 := (x + ushI x 4) &&& 252645135
def bc4 (x : Int32) : Int32 := x + ushI x 8
def bc5 (x : Int32) : Int32 := x + ushI x 16
def bcI (x : Int32) : Int32 := bc5 (bc4 (bc3 (bc2 (bc1 x)))) &&& 63
def joinV (s a b : Int32) : Int32 := if s.toInt = -61 then (if a = b then 1 else 0) else if s.toInt = -60 then (if b ≤ a then 0 else 1) else if s.toInt = -45 then a - b else if s.toInt = -43 then a + b else if s.toInt = -42 then a * b else if s.toInt = -6 then (if a = 0 then 0 else if b = 0 then 0 else 1) else (if a = 0 then (if b = 0 then 0 else 1) else 1)
theorem m_bitCount {d : Nat} {h : AHP} {x : Int32} : MM d 270 [.int x] h (fun v h2 => v = some (.int (bcI x)) ∧ h2 = h) := by
  refine ⟨Nat.le_of_ble_eq_true rfl, ?_⟩
  refine t_go (op := o_iload 1 0) (fe_J6_bitCount_0f7a4 0) (fun _ _ => rfl) ?_
  refine t_go (op := o_iload 2 0) (fe_J6_bitCount_0f7a4 1) (fun _ _ => rfl) ?_
  refine t_go (op := o_ci 3 1) (fe_J6_bitCount_0f7a4 2) (fun _ _ => rfl) ?_
  refine t_go (op := o_i2 4 (fun x y => (x.toUInt32 >>> (y.toUInt32 &&& Int32.toUInt32 31)).toInt32)) (fe_J6_bitCount_0f7a4 3) (fun _ _ => rfl) ?_
  refine t_go (op := o_ci 7 1431655765) (fe_J6_bitCount_0f7a4 4) (fun _ _ => rfl) ?_
  refine t_go (op := o_i2 8 (fun x y => x &&& y)) (fe_J6_bitCount_0f7a4 7) (fun _ _ => rfl) ?_
  refine t_go (op := o_i2 9 (fun x y => x - y)) (fe_J6_bitCount_0f7a4 8) (fun _ _ => rfl) ?_
  refine t_go (op := o_istore 10 0) (fe_J6_bitCount_0f7a4 9) (fun _ _ => rfl) ?_
  refine t_go (op := o_iload 11 0) (fe_J6_bitCount_0f7a4 10) (fun _ _ => rfl) ?_
  refine t_go (op := o_ci 14 858993459) (fe_J6_bitCount_0f7a4 11) (fun _ _ => rfl) ?_
  refine t_go (op := o_i2 15 (fun x y => x &&& y)) (fe_J6_bitCount_0f7a4 14) (fun _ _ => rfl) ?_
  refine t_go (op := o_iload 16 0) (fe_J6_bitCount_0f7a4 15) (fun _ _ => rfl) ?_
  refine t_go (op := o_ci 17 2) (fe_J6_bitCount_0f7a4 16) (fun _ _ => rfl) ?_
  refine t_go (op := o_i2 18 (fun x y => (x.toUInt32 >>> (y.toUInt32 &&& Int32.toUInt32 31)).toInt32)) (fe_J6_bitCount_0f7a4 17) (fun _ _ => rfl) ?_
  refine t_go (op := o_ci 21 858993459) (fe_J6_bitCount_0f7a4 18) (fun _ _ => rfl) ?_
  refine t_go (op := o_i2 22 (fun x y => x &&& y)) (fe_J6_bitCount_0f7a4 21) (fun _ _ => rfl) ?_
  refine t_go (op := o_i2 23 (fun x y => x + y)) (fe_J6_bitCount_0f7a4 22) (fun _ _ => rfl) ?_
  refine t_go (op := o_istore 24 0) (fe_J6_bitCount_0f7a4 23) (fun _ _ => rfl) ?_
  refine t_go (op := o_iload 25 0) (fe_J6_bitCount_0f7a4 24) (fun _ _ => rfl) ?_
  refine t_go (op := o_iload 26 0) (fe_J6_bitCount_0f7a4 25) (fun _ _ => rfl) ?_
  refine t_go (op := o_ci 27 4) (fe_J6_bitCount_0f7a4 26) (fun _ _ => rfl) ?_
  refine t_go (op := o_i2 28 (fun x y => (x.toUInt32 >>> (y.toUInt32 &&& Int32.toUInt32 31)).toInt32)) (fe_J6_bitCount_0f7a4 27) (fun _ _ => rfl) ?_
  refine t_go (op := o_i2 29 (fun x y => x + y)) (fe_J6_bitCount_0f7a4 28) (fun _ _ => rfl) ?_
  refine t_go (op := o_ci 32 252645135) (fe_J6_bitCount_0f7a4 29) (fun _ _ => rfl) ?_
  refine t_go (op := o_i2 33 (fun x y => x &&& y)) (fe_J6_bitCount_0f7a4 32) (fun _ _ => rfl) ?_
  refine t_go (op := o_istore 34 0) (fe_J6_bitCount_0f7a4 33) (fun _ _ => rfl) ?_
  refine t_go (op := o_iload 35 0) (fe_J6_bitCount_0f7a4 34) (fun _ _ => rfl) ?_
  refine t_go (op := o_iload 36 0) (fe_J6_bitCount_0f7a4 35) (fun _ _ => rfl) ?_
  refine t_go (op := o_ci 38 8) (fe_J6_bitCount_0f7a4 36) (fun _ _ => rfl) ?_
  refine t_go (op := o_i2 39 (fun x y => (x.toUInt32 >>> (y.toUInt32 &&& Int32.toUInt32 31)).toInt32)) (fe_J6_bitCount_0f7a4 38) (fun _ _ => rfl) ?_
  refine t_go (op := o_i2 40 (fun x y => x + y)) (fe_J6_bitCount_0f7a4 39) (fun _ _ => rfl) ?_
  refine t_go (op := o_istore 41 0) (fe_J6_bitCount_0f7a4 40) (fun _ _ => rfl) ?_
  refine t_go (op := o_iload 42 0) (fe_J6_bitCount_0f7a4 41) (fun _ _ => rfl) ?_
  refine t_go (op := o_iload 43 0) (fe_J6_bitCount_0f7a4 42) (fun _ _ => rfl) ?_
  refine t_go (op := o_ci 45 16) (fe_J6_bitCount_0f7a4 43) (fun _ _ => rfl) ?_
  refine t_go (op := o_i2 46 (fun x y => (x.toUInt32 >>> (y.toUInt32 &&& Int32.toUInt32 31)).toInt32)) (fe_J6_bitCount_0f7a4 45) (fun _ _ => rfl) ?_
  refine t_go (op := o_i2 47 (fun x y => x + y)) (fe_J6_bitCount_0f7a4 46) (fun _ _ => rfl) ?_
  refine t_go (op := o_istore 48 0) (fe_J6_bitCount_0f7a4 47) (fun _ _ => rfl) ?_
  refine t_go (op := o_iload 49 0) (fe_J6_bitCount_0f7a4 48) (fun _ _ => rfl) ?_
  refine t_go (op := o_ci 51 63) (fe_J6_bitCount_0f7a4 49) (fun _ _ => rfl) ?_
  refine t_go (op := o_i2 52 (fun x y => x &&& y)) (fe_J6_bitCount_0f7a4 51) (fun _ _ => rfl) ?_
  refine t_ret (op := o_iret) (fe_J6_bitCount_0f7a4 52) (fun _ _ => rfl) ?_
  exact ⟨rfl, rfl⟩
theorem m_join {d : Nat} {h : AHP} {s a b : Int32} : MM d 61 [.int s, .int a, .int b] h (fun v h2 => v = some (.int (joinV s a b)) ∧ h2 = h) := by
  refine ⟨Nat.le_of_ble_eq_true rfl, ?_⟩
  refine t_go (op := o_iload 1 0) (fe_X5_join 0) (fun _ _ => rfl) ?_
  refine t_go (op := o_sw (swL [(-61, 83), (-60, 72), (-45, 64), (-43, 60), (-42, 68), (-6, 94)] 108)) (fe_X5_join 1) (fun _ _ => rfl) ?_
  refine t_swL (fun c1 => ?_) (fun c1 => ?_)
  · refine t_go (op := o_iload 84 1) (fe_X5_join 83) (fun _ _ => rfl) ?_
    refine t_go (op := o_iload 85 2) (fe_X5_join 84) (fun _ _ => rfl) ?_
    refine t_ite (op := o_icmp 92 88 (fun x y => x = y) (fun _ _ => inferInstance)) (fe_X5_join 85) g_icmp (fun c2 => ?_) (fun c2 => ?_)
    · refine t_go (op := o_ci 89 1) (fe_X5_join 88) (fun _ _ => rfl) ?_
      refine t_go (op := o_goto 93) (fe_X5_join 89) (fun _ _ => rfl) ?_
      refine t_ret (op := o_iret) (fe_X5_join 93) (fun _ _ => rfl) ?_
      exact ⟨by unfold joinV; rw [if_pos c1, if_pos c2], rfl⟩
    · refine t_go (op := o_ci 93 0) (fe_X5_join 92) (fun _ _ => rfl) ?_
      refine t_ret (op := o_iret) (fe_X5_join 93) (fun _ _ => rfl) ?_
      exact ⟨by unfold joinV; rw [if_pos c1, if_neg c2], rfl⟩
  refine t_swL (fun c3 => ?_) (fun c3 => ?_)
  · refine t_go (op := o_iload 73 1) (fe_X5_join 72) (fun _ _ => rfl) ?_
    refine t_go (op := o_iload 74 2) (fe_X5_join 73) (fun _ _ => rfl) ?_
    refine t_ite (op := o_icmp 77 81 (fun x y => y ≤ x) (fun _ _ => inferInstance)) (fe_X5_join 74) g_icmp (fun c4 => ?_) (fun c4 => ?_)
    · refine t_go (op := o_ci 82 0) (fe_X5_join 81) (fun _ _ => rfl) ?_
      refine t_ret (op := o_iret) (fe_X5_join 82) (fun _ _ => rfl) ?_
      exact ⟨by unfold joinV; rw [if_neg c1, if_pos c3, if_pos c4], rfl⟩
    · refine t_go (op := o_ci 78 1) (fe_X5_join 77) (fun _ _ => rfl) ?_
      refine t_go (op := o_goto 82) (fe_X5_join 78) (fun _ _ => rfl) ?_
      refine t_ret (op := o_iret) (fe_X5_join 82) (fun _ _ => rfl) ?_
      exact ⟨by unfold joinV; rw [if_neg c1, if_pos c3, if_neg c4], rfl⟩
  refine t_swL (fun c5 => ?_) (fun c5 => ?_)
  · refine t_go (op := o_iload 65 1) (fe_X5_join 64) (fun _ _ => rfl) ?_
    refine t_go (op := o_iload 66 2) (fe_X5_join 65) (fun _ _ => rfl) ?_
    refine t_go (op := o_i2 67 (fun x y => x - y)) (fe_X5_join 66) (fun _ _ => rfl) ?_
    refine t_ret (op := o_iret) (fe_X5_join 67) (fun _ _ => rfl) ?_
    exact ⟨by unfold joinV; rw [if_neg c1, if_neg c3, if_pos c5], rfl⟩
  refine t_swL (fun c6 => ?_) (fun c6 => ?_)
  · refine t_go (op := o_iload 61 1) (fe_X5_join 60) (fun _ _ => rfl) ?_
    refine t_go (op := o_iload 62 2) (fe_X5_join 61) (fun _ _ => rfl) ?_
    refine t_go (op := o_i2 63 (fun x y => x + y)) (fe_X5_join 62) (fun _ _ => rfl) ?_
    refine t_ret (op := o_iret) (fe_X5_join 63) (fun _ _ => rfl) ?_
    exact ⟨by unfold joinV; rw [if_neg c1, if_neg c3, if_neg c5, if_pos c6], rfl⟩
  refine t_swL (fun c7 => ?_) (fun c7 => ?_)
  · refine t_go (op := o_iload 69 1) (fe_X5_join 68) (fun _ _ => rfl) ?_
    refine t_go (op := o_iload 70 2) (fe_X5_join 69) (fun _ _ => rfl) ?_
    refine t_go (op := o_i2 71 (fun x y => x * y)) (fe_X5_join 70) (fun _ _ => rfl) ?_
    refine t_ret (op := o_iret) (fe_X5_join 71) (fun _ _ => rfl) ?_
    exact ⟨by unfold joinV; rw [if_neg c1, if_neg c3, if_neg c5, if_neg c6, if_pos c7], rfl⟩
  refine t_swL (fun c8 => ?_) (fun c8 => ?_)
  · refine t_go (op := o_iload 95 1) (fe_X5_join 94) (fun _ _ => rfl) ?_
    refine t_ite (op := o_if 98 106 (fun x => x = 0) (fun _ => inferInstance)) (fe_X5_join 95) g_if (fun c9 => ?_) (fun c9 => ?_)
    · refine t_go (op := o_ci 107 0) (fe_X5_join 106) (fun _ _ => rfl) ?_
      refine t_ret (op := o_iret) (fe_X5_join 107) (fun _ _ => rfl) ?_
      exact ⟨by unfold joinV; rw [if_neg c1, if_neg c3, if_neg c5, if_neg c6, if_neg c7, if_pos c8, if_pos c9], rfl⟩
    · refine t_go (op := o_iload 99 2) (fe_X5_join 98) (fun _ _ => rfl) ?_
      refine t_ite (op := o_if 102 106 (fun x => x = 0) (fun _ => inferInstance)) (fe_X5_join 99) g_if (fun c10 => ?_) (fun c10 => ?_)
      · refine t_go (op := o_ci 107 0) (fe_X5_join 106) (fun _ _ => rfl) ?_
        refine t_ret (op := o_iret) (fe_X5_join 107) (fun _ _ => rfl) ?_
        exact ⟨by unfold joinV; rw [if_neg c1, if_neg c3, if_neg c5, if_neg c6, if_neg c7, if_pos c8, if_neg c9, if_pos c10], rfl⟩
      · refine t_go (op := o_ci 103 1) (fe_X5_join 102) (fun _ _ => rfl) ?_
        refine t_go (op := o_goto 107) (fe_X5_join 103) (fun _ _ => rfl) ?_
        refine t_ret (op := o_iret) (fe_X5_join 107) (fun _ _ => rfl) ?_
        exact ⟨by unfold joinV; rw [if_neg c1, if_neg c3, if_neg c5, if_neg c6, if_neg c7, if_pos c8, if_neg c9, if_neg c10], rfl⟩
  refine t_go (op := o_iload 109 1) (fe_X5_join 108) (fun _ _ => rfl) ?_
  refine t_ite (op := o_if 116 112 (fun x => x = 0) (fun _ => inferInstance)) (fe_X5_join 109) g_if (fun c11 => ?_) (fun c11 => ?_)
  · refine t_go (op := o_iload 113 2) (fe_X5_join 112) (fun _ _ => rfl) ?_
    refine t_ite (op := o_if 116 120 (fun x => x = 0) (fun _ => inferInstance)) (fe_X5_join 113) g_if (fun c12 => ?_) (fun c12 => ?_)
    · refine t_go (op := o_ci 121 0) (fe_X5_join 120) (fun _ _ => rfl) ?_
      refine t_ret (op := o_iret) (fe_X5_join 121) (fun _ _ => rfl) ?_
      exact ⟨by unfold joinV; rw [if_neg c1, if_neg c3, if_neg c5, if_neg c6, if_neg c7, if_neg c8, if_pos c11, if_pos c12], rfl⟩
    · refine t_go (op := o_ci 117 1) (fe_X5_join 116) (fun _ _ => rfl) ?_
      refine t_go (op := o_goto 121) (fe_X5_join 117) (fun _ _ => rfl) ?_
      refine t_ret (op := o_iret) (fe_X5_join 121) (fun _ _ => rfl) ?_
      exact ⟨by unfold joinV; rw [if_neg c1, if_neg c3, if_neg c5, if_neg c6, if_neg c7, if_neg c8, if_pos c11, if_neg c12], rfl⟩
  · refine t_go (op := o_ci 117 1) (fe_X5_join 116) (fun _ _ => rfl) ?_
    refine t_go (op := o_goto 121) (fe_X5_join 117) (fun _ _ => rfl) ?_
    refine t_ret (op := o_iret) (fe_X5_join 121) (fun _ _ => rfl) ?_
    exact ⟨by unfold joinV; rw [if_neg c1, if_neg c3, if_neg c5, if_neg c6, if_neg c7, if_neg c8, if_neg c11], rfl⟩
def lawH (h : AHP) (l : Nat) (fr r : Nat → Int32) : AHP := rowI (rowI h (l + 2) fr) (l + 3) r
theorem lawH_3 {h : AHP} {l i : Nat} {v : Int32} {fr r : Nat → Int32} : sI (lawH h l fr r) (l + 3) i v = lawH h l fr (fup r i v) := by
  refine AHP_ext (fun a j => ?_) rfl
  simp only [lawH, rowI, row2, sI, up2, fup]
  by_cases e : a = l + 3
  · simp [e]
  · simp [e]
theorem lawH_2 {h : AHP} {l i : Nat} {v : Int32} {fr r : Nat → Int32} : sI (lawH h l fr r) (l + 2) i v = lawH h l (fup fr i v) r := by
  refine AHP_ext (fun a j => ?_) rfl
  simp only [lawH, rowI, row2, sI, up2, fup]
  by_cases e : a = l + 2
  · simp [e]
  · simp [e]
theorem lawH_id {h : AHP} {l : Nat} : lawH h l (h.1 (l + 2)) (h.1 (l + 3)) = h := by
  refine AHP_ext (fun a j => ?_) rfl
  simp only [lawH, rowI, row2]
  by_cases e : a = l + 3
  · simp [e]
  · by_cases e2 : a = l + 2
    · simp [e2]
    · simp [e, e2]
theorem lawH_r3 {h : AHP} {l : Nat} {fr r : Nat → Int32} : (lawH h l fr r).1 (l + 3) = r := by funext j; simp [lawH, rowI, row2]
theorem lawH_r2 {h : AHP} {l : Nat} {fr r : Nat → Int32} : (lawH h l fr r).1 (l + 2) = fr := by funext j; simp [lawH, rowI, row2]
theorem lawH_at {h : AHP} {l a : Nat} {fr r : Nat → Int32} (h2 : a ≠ l + 2) (h3 : a ≠ l + 3) : (lawH h l fr r).1 a = h.1 a := by funext j; simp [lawH, rowI, row2, h2, h3]
def stpL (op : Int32) (fr : Nat → Int32) (s : Nat × (Nat → Int32)) : Nat × (Nat → Int32) :=
  if op < -4 then (if op = -5 then (if nI s.1 < 1 then s else (s.1, fup s.2 (nI s.1 - 1).toNatClampNeg (if s.2 (nI s.1 - 1).toNatClampNeg = 0 then 1 else 0)))
    else (if nI s.1 < 2 then s else (s.1 - 1, fup s.2 (nI (s.1 - 1) - 1).toNatClampNeg (joinV op (s.2 (nI (s.1 - 1) - 1).toNatClampNeg) (s.2 (nI (s.1 - 1)).toNatClampNeg)))))
  else (if 24 ≤ nI s.1 then s else (s.1 + 1, fup s.2 (nI s.1).toNatClampNeg (if op < 0 then fr (-1 - op).toNatClampNeg else op)))
theorem stpL_le {op : Int32} {fr : Nat → Int32} {s : Nat × (Nat → Int32)} (h : s.1 ≤ 24) : (stpL op fr s).1 ≤ 24 := by
  unfold stpL
  split
  · split
    · split <;> simp_all
    · split <;> simp_all <;> omega
  · split
    · exact h
    · rename_i q
      have : ¬ nI 24 ≤ nI s.1 := q
      rw [nI_leI (by omega) (by omega)] at this
      show s.1 + 1 ≤ 24
      omega
def fact4 (a b c e : Int32) (r : Nat → Int32) : Nat → Int32 := fup (fup (fup (fup r 0 a) 1 b) 2 c) 3 e
def tellsV (st : Nat → Int32) (n : Nat) (r2 r3 : Nat → Int32) (a b c e : Int32) : Int32 := if n = 0 then a + b * 2 + c - 3 else (it (fun i => stpL (st i) (fact4 a b c e r2)) n 0 (0, r3)).2 0
theorem inb_sub1 {t n : Nat} (h1 : 1 ≤ t) (h2 : t ≤ n) (hn : n < 2 ^ 31) : inb (nI t - 1) n := by
  rw [show nI t - 1 = nI (t - 1) by rw [show (1 : Int32) = nI 1 from rfl, pk_sub h1]]
  exact inb_n (by omega) hn
theorem inb_fact {x : Int32} (h1 : ¬ x < -4) (h2 : x < 0) : inb (-1 - x) 4 := by
  have a1 : ¬ x.toInt < -4 := fun q => h1 (Int32.lt_iff_toInt_lt.mpr q)
  have a2 : x.toInt < 0 := Int32.lt_iff_toInt_lt.mp h2
  refine inb_iff.mpr ?_
  have e : (-1 - x).toInt = -1 - x.toInt := by
    rw [Int32.toInt_sub]
    rw [show (-1 : Int32).toInt = -1 from rfl]
    exact Int.bmod_eq_of_le (by omega) (by omega)
  omega
