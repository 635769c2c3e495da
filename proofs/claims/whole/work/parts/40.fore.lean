section A3
variable {d : Nat} {h k : AHP} {f g n : Nat} {F : FS} {b e c x : Int32}
theorem a_has (hS : Std k) (hf : (lay f).1 = 1) (hF : fs k f = F) : MM d 8 [.ref f, .int e] k (fun v h2 => v = some (.int (b2i (hasF F e))) ∧ h2 = k) := by
  have q := n_has (d := d) (h := k) (f := f) (F := fs k f) (e := e) hS hf
  rw [setF_fs, hF] at q
  exact q
theorem a_isFree (hS : Std k) (hf : (lay f).1 = 1) (hF : fs k f = F) : MM d 9 [.ref f, .int c] k (fun v h2 => v = some (.int (b2i (freeF F c))) ∧ h2 = k) := by
  have q := n_isFree (d := d) (h := k) (f := f) (F := fs k f) (c := c) hS hf
  rw [setF_fs, hF] at q
  exact q
theorem a_takeOut (hS : Std h) (hX : X h k) (hf : f = 136 ∨ f = 143) (hF : fs k f = F) : MM (d + 1) 11 [.ref f, .int e] k (fun v h2 => v = none ∧ X h h2 ∧ fs h2 f = takeOutF F e ∧ Keeps k h2) := by
  have hl : (lay f).1 = 1 := by rcases hf with rfl | rfl <;> rfl
  have q := n_takeOut (d := d) (h := k) (f := f) (F := fs k f) (e := e) (hX.std hS) hl
  rw [setF_fs, hF] at q
  refine M_mono ?_ q
  rintro v h2 ⟨q1, q2⟩
  refine ⟨q1, ?_, ?_, ?_⟩
  · rw [q2]; exact X_setF hX hf
  · rw [q2, fs_setF]
  · rw [q2]; exact ⟨setF_row (by omega), setF_row (by omega), rfl⟩
theorem a_carry (hS : Std h) (hX : X h k) (hf : f = 136 ∨ f = 143) (hF : fs k f = F) : MM (d + 1) 14 [.ref f, .int e, .int c] k (fun v h2 => v = none ∧ X h h2 ∧ fs h2 f = carryF F e c ∧ Keeps k h2) := by
  have hl : (lay f).1 = 1 := by rcases hf with rfl | rfl <;> rfl
  have q := n_carry (d := d) (h := k) (f := f) (F := fs k f) (e := e) (c := c) (hX.std hS) hl
  rw [setF_fs, hF] at q
  refine M_mono ?_ q
  rintro v h2 ⟨q1, q2⟩
  refine ⟨q1, ?_, ?_, ?_⟩
  · rw [q2]; exact X_setF hX hf
  · rw [q2, fs_setF]
  · rw [q2]; exact ⟨setF_row (by omega), setF_row (by omega), rfl⟩
theorem a_stoke (hS : Std h) (hX : X h k) (hf : f = 136 ∨ f = 143) (hF : fs k f = F) : MM (d + 2) 15 [.ref f, .int e] k (fun v h2 => v = none ∧ X h h2 ∧ fs h2 f = stokeF F e ∧ Keeps k h2) := by
  have hl : (lay f).1 = 1 := by rcases hf with rfl | rfl <;> rfl
  have q := n_stoke (d := d) (h := k) (f := f) (F := fs k f) (e := e) (hX.std hS) hl
  rw [setF_fs, hF] at q
  refine M_mono ?_ q
  rintro v h2 ⟨q1, q2⟩
  refine ⟨q1, ?_, ?_, ?_⟩
  · rw [q2]; exact X_setF hX hf
  · rw [q2, fs_setF]
  · rw [q2]; exact ⟨setF_row (by omega), setF_row (by omega), rfl⟩
theorem a_addFuel (hS : Std h) (hX : X h k) (hf : f = 136 ∨ f = 143) (hF : fs k f = F) : MM (d + 1) 16 [.ref f, .int e, .int x] k (fun v h2 => v = none ∧ X h h2 ∧ fs h2 f = addFuelF F e x ∧ Keeps k h2) := by
  have hl : (lay f).1 = 1 := by rcases hf with rfl | rfl <;> rfl
  have q := n_addFuel (d := d) (h := k) (f := f) (F := fs k f) (e := e) (x := x) (hX.std hS) hl
  rw [setF_fs, hF] at q
  refine M_mono ?_ q
  rintro v h2 ⟨q1, q2⟩
  refine ⟨q1, ?_, ?_, ?_⟩
  · rw [q2]; exact X_setF hX hf
  · rw [q2, fs_setF]
  · rw [q2]; exact ⟨setF_row (by omega), setF_row (by omega), rfl⟩
theorem a_takeOutAll (hS : Std h) (hX : X h k) (hf : f = 136 ∨ f = 143) (hF : fs k f = F) : MM (d + 2) 12 [.ref f, .int b] k (fun v h2 => v = none ∧ X h h2 ∧ fs h2 f = it (takeS b) 7 0 F ∧ Keeps k h2) := by
  have hl : (lay f).1 = 1 := by rcases hf with rfl | rfl <;> rfl
  have q := m_takeOutAll (d := d) (h := k) (f := f) (F := fs k f) (b := b) (hX.std hS) hl
  rw [setF_fs, hF] at q
  refine M_mono ?_ q
  rintro v h2 ⟨q1, q2⟩
  refine ⟨q1, ?_, ?_, ?_⟩
  · rw [q2]; exact X_setF hX hf
  · rw [q2, fs_setF]
  · rw [q2]; exact ⟨setF_row (by omega), setF_row (by omega), rfl⟩
theorem a_giveFullHeat (hS : Std h) (hX : X h k) (hf : f = 136 ∨ f = 143) (hF : fs k f = F) : MM (d + 1) 13 [.ref f, .int b] k (fun v h2 => v = none ∧ X h h2 ∧ fs h2 f = it (fullS b) 7 0 F ∧ Keeps k h2) := by
  have hl : (lay f).1 = 1 := by rcases hf with rfl | rfl <;> rfl
  have q := m_giveFullHeat (d := d) (h := k) (f := f) (F := fs k f) (b := b) (hX.std hS) hl
  rw [setF_fs, hF] at q
  refine M_mono ?_ q
  rintro v h2 ⟨q1, q2⟩
  refine ⟨q1, ?_, ?_, ?_⟩
  · rw [q2]; exact X_setF hX hf
  · rw [q2, fs_setF]
  · rw [q2]; exact ⟨setF_row (by omega), setF_row (by omega), rfl⟩
end A3
def outR (r : Nat → Int32) (e : Int32) : Nat → Int32
  | 0 => -1
  | j + 1 => if bitI (r j) e then nI j + 1 else outR r e j
def outV (r : Nat → Int32) (e : Int32) : Int32 := if bitI (r 40) e then -1 else outR r e 40
def firstR (r : Nat → Int32) (e : Int32) : Nat → Nat → Int32
  | 0, _ => -1
  | j + 1, i => if bitI (r i) e then nI i else firstR r e j (i + 1)
theorem outR_congr {r q : Nat → Int32} {e : Int32} : ∀ j, (∀ t, t < j → r t = q t) → outR r e j = outR q e j := by
  intro j
  induction j with
  | zero => intro _; rfl
  | succ j ih =>
    intro h
    rw [outR, outR, h j (by omega), ih (fun t ht => h t (by omega))]
theorem outV_congr {r q : Nat → Int32} {e : Int32} (h : ∀ t, t < 41 → r t = q t) : outV r e = outV q e := by
  unfold outV
  rw [h 40 (by omega), outR_congr 40 (fun t ht => h t (by omega))]
theorem firstR_congr {r q : Nat → Int32} {e : Int32} : ∀ j i, (∀ t, t < i + j → r t = q t) → firstR r e j i = firstR q e j i := by
  intro j
  induction j with
  | zero => intro i _; rfl
  | succ j ih =>
    intro i h
    rw [firstR, firstR, h i (by omega), ih (i + 1) (fun t ht => h t (by omega))]
theorem l_outOf {d : Nat} {k : AHP} {e : Int32} (hS : Std k) {Q : Option Value → AHP → Prop} : ∀ (j : Nat), j ≤ 40 → Q (some (.int (outR (k.1 141) e j))) k → TT d 33 20 [some (.ref 135), some (.int e), some (.int (nI j - 1))] [] k Q := by
  intro j
  induction j with
  | zero =>
    intro _ hq
    refine t_go (op := o_iload 21 2) (fe_X2_outOf 20) (fun _ _ => rfl) ?_
    refine t_ite (op := o_if 24 48 (fun x => x < 0) (fun _ => inferInstance)) (fe_X2_outOf 21) g_if (fun c1 => ?_) (fun c1 => ?_)
    · refine t_go (op := o_ci 49 (-1)) (fe_X2_outOf 48) (fun _ _ => rfl) ?_
      refine t_ret (op := o_iret) (fe_X2_outOf 49) (fun _ _ => rfl) ?_
      exact hq
    · exact absurd (show nI 0 - 1 < 0 by decide) c1
  | succ j ih =>
    intro hj hq
    rw [nI_pred]
    refine t_go (op := o_iload 21 2) (fe_X2_outOf 20) (fun _ _ => rfl) ?_
    refine t_ite (op := o_if 24 48 (fun x => x < 0) (fun _ => inferInstance)) (fe_X2_outOf 21) g_if (fun c1 => ?_) (fun c1 => ?_)
    · exact absurd c1 (nI_pos (by omega))
    · refine t_go (op := o_aload 25 0) (fe_X2_outOf 24) (fun _ _ => rfl) ?_
      refine t_go (op := o_getR 28 2 1) (fe_X2_outOf 25) (g_getR hS (by decide) (by decide) (fr_2_1 hS) (by decide)) ?_
      refine t_go (op := o_iload 29 2) (fe_X2_outOf 28) (fun _ _ => rfl) ?_
      refine t_go (op := o_iald 30) (fe_X2_outOf 29) (g_iald hS (show lay 141 = (20, 41) by decide) (inb_n (show j < 41 by omega) (by decide))) ?_
      refine t_go (op := o_iload 31 1) (fe_X2_outOf 30) (fun _ _ => rfl) ?_
      refine t_go (op := o_i2 32 (fun x y => x >>> (y &&& 31))) (fe_X2_outOf 31) (fun _ _ => rfl) ?_
      refine t_go (op := o_ci 33 1) (fe_X2_outOf 32) (fun _ _ => rfl) ?_
      refine t_go (op := o_i2 34 (fun x y => x &&& y)) (fe_X2_outOf 33) (fun _ _ => rfl) ?_
      refine t_go (op := o_ci 35 1) (fe_X2_outOf 34) (fun _ _ => rfl) ?_
      rw [nI_clamp (show j < 2 ^ 31 by omega)]
      refine t_ite (op := o_icmp 42 38 (fun x y => x = y) (fun _ _ => inferInstance)) (fe_X2_outOf 35) g_icmp (fun c2 => ?_) (fun c2 => ?_)
      · refine t_go (op := o_iload 39 2) (fe_X2_outOf 38) (fun _ _ => rfl) ?_
        refine t_go (op := o_ci 40 1) (fe_X2_outOf 39) (fun _ _ => rfl) ?_
        refine t_go (op := o_i2 41 (fun x y => x + y)) (fe_X2_outOf 40) (fun _ _ => rfl) ?_
        refine t_ret (op := o_iret) (fe_X2_outOf 41) (fun _ _ => rfl) ?_
        rw [outR, if_pos c2] at hq
        exact hq
      · refine t_go (op := o_iinc 45 2 (-1)) (fe_X2_outOf 42) (fun _ _ => rfl) ?_
        refine t_go (op := o_goto 20) (fe_X2_outOf 45) (fun _ _ => rfl) ?_
        rw [outR, if_neg c2] at hq
        rw [show nI j + (-1) = nI j - 1 from (Int32.sub_eq_add_neg _ _).symm]
        exact ih (by omega) hq
theorem m_outOf {d : Nat} {k : AHP} {e : Int32} (hS : Std k) : MM d 33 [.ref 135, .int e] k (fun v h2 => v = some (.int (outV (k.1 141) e)) ∧ h2 = k) := by
  refine ⟨Nat.le_of_ble_eq_true rfl, ?_⟩
  refine t_go (op := o_aload 1 0) (fe_X2_outOf 0) (fun _ _ => rfl) ?_
  refine t_go (op := o_getR 4 2 1) (fe_X2_outOf 1) (g_getR hS (by decide) (by decide) (fr_2_1 hS) (by decide)) ?_
  refine t_go (op := o_ci 6 40) (fe_X2_outOf 4) (fun _ _ => rfl) ?_
  refine t_go (op := o_iald 7) (fe_X2_outOf 6) (g_iald hS (show lay 141 = (20, 41) by decide) (by decide)) ?_
  refine t_go (op := o_iload 8 1) (fe_X2_outOf 7) (fun _ _ => rfl) ?_
  refine t_go (op := o_i2 9 (fun x y => x >>> (y &&& 31))) (fe_X2_outOf 8) (fun _ _ => rfl) ?_
  refine t_go (op := o_ci 10 1) (fe_X2_outOf 9) (fun _ _ => rfl) ?_
  refine t_go (op := o_i2 11 (fun x y => x &&& y)) (fe_X2_outOf 10) (fun _ _ => rfl) ?_
  refine t_go (op := o_ci 12 1) (fe_X2_outOf 11) (fun _ _ => rfl) ?_
  refine t_ite (op := o_icmp 17 15 (fun x y => x = y) (fun _ _ => inferInstance)) (fe_X2_outOf 12) g_icmp (fun c1 => ?_) (fun c1 => ?_)
  · refine t_go (op := o_ci 16 (-1)) (fe_X2_outOf 15) (fun _ _ => rfl) ?_
    refine t_ret (op := o_iret) (fe_X2_outOf 16) (fun _ _ => rfl) ?_
    exact ⟨by unfold outV; rw [if_pos (show bitI (k.1 141 40) e from c1)], rfl⟩
  · refine t_go (op := o_ci 19 39) (fe_X2_outOf 17) (fun _ _ => rfl) ?_
    refine t_go (op := o_istore 20 2) (fe_X2_outOf 19) (fun _ _ => rfl) ?_
    exact l_outOf hS 40 (Nat.le_refl _) ⟨by unfold outV; rw [if_neg (show ¬ bitI (k.1 141 40) e from c1)], rfl⟩
theorem l_firstLit {d : Nat} {k : AHP} {e : Int32} (hS : Std k)  {Q : Option Value → AHP → Prop} : ∀ (j i : Nat) (S : Unit), i + j = 41 → Q (some (.int (firstR (k.1 141) e j i))) k → TT d 34 2 [some (.ref 135), some (.int e), some (.int (nI i))] [] k Q := by
  intro j
  induction j with
  | zero =>
    intro i S hi  hq
    have hN : i = 41 := by omega
    refine t_go (op := o_iload 3 2) (fe_X2_firstLit 2) (fun _ _ => rfl) ?_
    refine t_go (op := o_ci 5 40) (fe_X2_firstLit 3) (fun _ _ => rfl) ?_
    refine t_ite (op := o_icmp 8 30 (fun x y => y < x) (fun _ _ => inferInstance)) (fe_X2_firstLit 5) g_icmp (fun c1 => ?_) (fun c1 => ?_)
    · refine t_go (op := o_ci 31 (-1)) (fe_X2_firstLit 30) (fun _ _ => rfl) ?_
      refine t_ret (op := o_iret) (fe_X2_firstLit 31) (fun _ _ => rfl) ?_
      exact hq
    · exact absurd (by rw [hN]; decide) c1
  | succ j ih =>
    intro i S hi  hq
    have hb : inb (nI i) 41 := inb_n (by omega) (by decide)
    refine t_go (op := o_iload 3 2) (fe_X2_firstLit 2) (fun _ _ => rfl) ?_
    refine t_go (op := o_ci 5 40) (fe_X2_firstLit 3) (fun _ _ => rfl) ?_
    refine t_ite (op := o_icmp 8 30 (fun x y => y < x) (fun _ _ => inferInstance)) (fe_X2_firstLit 5) g_icmp (fun c1 => ?_) (fun c1 => ?_)
    · exact absurd c1 (nI_nlt (show i ≤ 40 by omega) (by decide))
    · refine t_go (op := o_aload 9 0) (fe_X2_firstLit 8) (fun _ _ => rfl) ?_
      refine t_go (op := o_getR 12 2 1) (fe_X2_firstLit 9) (g_getR hS (by decide) (by decide) (fr_2_1 hS) (by decide)) ?_
      refine t_go (op := o_iload 13 2) (fe_X2_firstLit 12) (fun _ _ => rfl) ?_
      refine t_go (op := o_iald 14) (fe_X2_firstLit 13) (g_iald hS (show lay 141 = (20, 41) by decide) hb) ?_
      refine t_go (op := o_iload 15 1) (fe_X2_firstLit 14) (fun _ _ => rfl) ?_
      refine t_go (op := o_i2 16 (fun x y => x >>> (y &&& 31))) (fe_X2_firstLit 15) (fun _ _ => rfl) ?_
      refine t_go (op := o_ci 17 1) (fe_X2_firstLit 16) (fun _ _ => rfl) ?_
      refine t_go (op := o_i2 18 (fun x y => x &&& y)) (fe_X2_firstLit 17) (fun _ _ => rfl) ?_
      refine t_go (op := o_ci 19 1) (fe_X2_firstLit 18) (fun _ _ => rfl) ?_
      rw [nI_clamp (show i < 2 ^ 31 by omega)]
      refine t_ite (op := o_icmp 24 22 (fun x y => x = y) (fun _ _ => inferInstance)) (fe_X2_firstLit 19) g_icmp (fun c2 => ?_) (fun c2 => ?_)
      · refine t_go (op := o_iload 23 2) (fe_X2_firstLit 22) (fun _ _ => rfl) ?_
        refine t_ret (op := o_iret) (fe_X2_firstLit 23) (fun _ _ => rfl) ?_
        rw [firstR, if_pos c2] at hq
        exact hq
      · refine t_go (op := o_iinc 27 2 1) (fe_X2_firstLit 24) (fun _ _ => rfl) ?_
        refine t_go (op := o_goto 2) (fe_X2_firstLit 27) (fun _ _ => rfl) ?_
        rw [firstR, if_neg c2] at hq
        rw [nI_1]
        exact ih (i + 1) () (by omega) hq
theorem m_firstLit {d : Nat} {k : AHP} {e : Int32} (hS : Std k) : MM d 34 [.ref 135, .int e] k (fun v h2 => v = some (.int (firstR (k.1 141) e 41 0)) ∧ h2 = k) := by
  refine ⟨Nat.le_of_ble_eq_true rfl, ?_⟩
  refine t_go (op := o_ci 1 0) (fe_X2_firstLit 0) (fun _ _ => rfl) ?_
  refine t_go (op := o_istore 2 2) (fe_X2_firstLit 1) (fun _ _ => rfl) ?_
  exact l_firstLit hS 41 0 () rfl ⟨rfl, rfl⟩
def bestS (v : Nat → Int32) (e : Nat) (s : Int32 × Int32) : Int32 × Int32 := if v e ≤ s.2 then s else (nI e, v e)
theorem l_longest {d : Nat} {k : AHP} {g : Nat} {x1 : Option Value} (hS : Std k)  {Q : Option Value → AHP → Prop} : ∀ (j i : Nat) (S : Int32 × Int32) (x6 : Option Value), i + j = 7 → Q (some (.int (it (bestS (fun e => outV (k.1 141) (nI e))) j i S).1)) k → TT (d + 1) 35 14 [some (.ref 135), x1, some (.ref 5), some (.int S.1), some (.int S.2), some (.int (nI i)), x6] [] k Q := by
  intro j
  induction j with
  | zero =>
    intro i S x6 hi  hq
    have hN : i = 7 := by omega
    refine t_go (op := o_iload 16 5) (fe_X2_longest 14) (fun _ _ => rfl) ?_
    refine t_go (op := o_ci 18 7) (fe_X2_longest 16) (fun _ _ => rfl) ?_
    refine t_ite (op := o_icmp 21 49 (fun x y => y ≤ x) (fun _ _ => inferInstance)) (fe_X2_longest 18) g_icmp (fun c1 => ?_) (fun c1 => ?_)
    · refine t_go (op := o_iload 50 3) (fe_X2_longest 49) (fun _ _ => rfl) ?_
      refine t_ret (op := o_iret) (fe_X2_longest 50) (fun _ _ => rfl) ?_
      exact hq
    · exact absurd (by rw [hN]; exact Int32.le_refl _) c1
  | succ j ih =>
    intro i S x6 hi  hq
    have hb : inb (nI i) 7 := inb_n (by omega) (by decide)
    refine t_go (op := o_iload 16 5) (fe_X2_longest 14) (fun _ _ => rfl) ?_
    refine t_go (op := o_ci 18 7) (fe_X2_longest 16) (fun _ _ => rfl) ?_
    refine t_ite (op := o_icmp 21 49 (fun x y => y ≤ x) (fun _ _ => inferInstance)) (fe_X2_longest 18) g_icmp (fun c1 => ?_) (fun c1 => ?_)
    · exact absurd c1 (nI_ge (show i < 7 by omega) (by decide))
    · refine t_go (op := o_aload 22 0) (fe_X2_longest 21) (fun _ _ => rfl) ?_
      refine t_go (op := o_iload 24 5) (fe_X2_longest 22) (fun _ _ => rfl) ?_
      refine t_call (op := o_callV 27 33 2 2) (fe_X2_longest 24) (g_callV hS (by decide) (by decide) rfl rfl rfl (Nat.le_of_ble_eq_true rfl)) ?_
      refine M_mono ?_ (m_outOf hS)
      rintro v h2 ⟨q1, q2⟩
      rw [q1, q2]; clear q1 q2 v h2
      refine t_go (op := o_istore 29 6) (fe_X2_longest 27) (fun _ _ => rfl) ?_
      refine t_go (op := o_iload 31 6) (fe_X2_longest 29) (fun _ _ => rfl) ?_
      refine t_go (op := o_iload 33 4) (fe_X2_longest 31) (fun _ _ => rfl) ?_
      refine t_ite (op := o_icmp 36 43 (fun x y => x ≤ y) (fun _ _ => inferInstance)) (fe_X2_longest 33) g_icmp (fun c2 => ?_) (fun c2 => ?_)
      · refine t_go (op := o_iinc 46 5 1) (fe_X2_longest 43) (fun _ _ => rfl) ?_
        refine t_go (op := o_goto 14) (fe_X2_longest 46) (fun _ _ => rfl) ?_
        have hs : bestS (fun e => outV (k.1 141) (nI e)) i S = S := if_pos c2
        have hq2 : Q (some (.int (it (bestS (fun e => outV (k.1 141) (nI e))) j (i + 1) (bestS (fun e => outV (k.1 141) (nI e)) i S)).1)) k := hq
        rw [hs] at hq2
        rw [nI_1]
        exact ih (i + 1) S _ (by omega) hq2
      · refine t_go (op := o_iload 38 6) (fe_X2_longest 36) (fun _ _ => rfl) ?_
        refine t_go (op := o_istore 40 4) (fe_X2_longest 38) (fun _ _ => rfl) ?_
        refine t_go (op := o_iload 42 5) (fe_X2_longest 40) (fun _ _ => rfl) ?_
        refine t_go (op := o_istore 43 3) (fe_X2_longest 42) (fun _ _ => rfl) ?_
        refine t_go (op := o_iinc 46 5 1) (fe_X2_longest 43) (fun _ _ => rfl) ?_
        refine t_go (op := o_goto 14) (fe_X2_longest 46) (fun _ _ => rfl) ?_
        have hs : bestS (fun e => outV (k.1 141) (nI e)) i S = (nI i, outV (k.1 141) (nI i)) := if_neg c2
        have hq2 : Q (some (.int (it (bestS (fun e => outV (k.1 141) (nI e))) j (i + 1) (bestS (fun e => outV (k.1 141) (nI e)) i S)).1)) k := hq
        rw [hs] at hq2
        rw [nI_1]
        exact ih (i + 1) (nI i, outV (k.1 141) (nI i)) _ (by omega) hq2
theorem m_longest {d : Nat} {h k : AHP} {g n : Nat} (hS0 : Std h) (hg : (lay g).1 = 3) (hL : LawOK h g n) (hX : X h k) (hN : NF (fs k 136)) (hz : h.1 5 5 = 0 ∨ h.1 5 5 = 1) (hN2 : NF (fs h 5)) : MM (d + 6) 35 [.ref 135, .ref g, .ref 5] k (fun v h2 => v = some (.int (it (bestS (fun e => outV (fun t => litH h g n (HN h g n t (fs h 5))) (nI e))) 7 0 (-1, -1)).1) ∧ X h h2 ∧ NF (fs h2 136)) := by
  refine ⟨Nat.le_of_ble_eq_true rfl, ?_⟩
  have hS := hX.std hS0
  refine t_go (op := o_aload 1 0) (fe_X2_longest 0) (fun _ _ => rfl) ?_
  refine t_go (op := o_aload 2 1) (fe_X2_longest 1) (fun _ _ => rfl) ?_
  refine t_go (op := o_aload 3 2) (fe_X2_longest 2) (fun _ _ => rfl) ?_
  refine t_call (op := o_callV 6 32 3 2) (fe_X2_longest 3) (g_callV hS (by decide) (by decide) rfl rfl rfl (Nat.le_of_ble_eq_true rfl)) ?_
  refine M_mono ?_ (m_watch hS0 hg hL hX hN hz hN2)
  rintro v h2 ⟨q1, hX2, hN3, hW⟩
  rw [q1]; clear q1 v
  replace hS := hX2.std hS0
  refine t_go (op := o_ci 7 (-1)) (fe_X2_longest 6) (fun _ _ => rfl) ?_
  refine t_go (op := o_istore 8 3) (fe_X2_longest 7) (fun _ _ => rfl) ?_
  refine t_go (op := o_ci 9 (-1)) (fe_X2_longest 8) (fun _ _ => rfl) ?_
  refine t_go (op := o_istore 11 4) (fe_X2_longest 9) (fun _ _ => rfl) ?_
  refine t_go (op := o_ci 12 0) (fe_X2_longest 11) (fun _ _ => rfl) ?_
  refine t_go (op := o_istore 14 5) (fe_X2_longest 12) (fun _ _ => rfl) ?_
  refine l_longest (g := g) hS 7 0 (-1, -1) _ rfl ⟨?_, hX2, hN3⟩
  rw [show (fun e => outV (h2.1 141) (nI e)) = (fun e => outV (fun t => litH h g n (HN h g n t (fs h 5))) (nI e)) from funext fun e => outV_congr hW]
noncomputable def hotS (h : AHP) (g n : Nat) (i : Nat) (s : (Int32 × Int32) × FS) : (Int32 × Int32) × FS := (if it (sumS (HF h g n s.2).2.1) 7 0 0 ≤ s.1.2 then s.1 else (nI i, it (sumS (HF h g n s.2).2.1) 7 0 0), HF h g n s.2)
theorem l_hottest {d : Nat} {h : AHP} {g n : Nat} (hS0 : Std h) (hg : (lay g).1 = 3) (hL : LawOK h g n)  {Q : Option Value → AHP → Prop} : ∀ (j i : Nat) (S : (Int32 × Int32) × FS) (k : AHP) (x6 : Option Value), i + j = 41 → X h k → fs k 136 = S.2 → NF S.2 → (∀ k2, X h k2 → NF (fs k2 136) → Q (some (.int (it (hotS h g n) j i S).1.1)) k2) → TT (d + 5) 36 22 [some (.ref 135), some (.ref g), some (.ref 5), some (.int S.1.1), some (.int S.1.2), some (.int (nI i)), x6] [] k Q := by
  intro j
  induction j with
  | zero =>
    intro i S k x6 hi hX hF hNS hq
    have hN : i = 41 := by omega
    have hS := hX.std hS0
    refine t_go (op := o_iload 24 5) (fe_X2_hottestHour 22) (fun _ _ => rfl) ?_
    refine t_go (op := o_ci 26 40) (fe_X2_hottestHour 24) (fun _ _ => rfl) ?_
    refine t_ite (op := o_icmp 29 68 (fun x y => y < x) (fun _ _ => inferInstance)) (fe_X2_hottestHour 26) g_icmp (fun c1 => ?_) (fun c1 => ?_)
    · refine t_go (op := o_iload 69 3) (fe_X2_hottestHour 68) (fun _ _ => rfl) ?_
      refine t_ret (op := o_iret) (fe_X2_hottestHour 69) (fun _ _ => rfl) ?_
      exact hq k hX (by rw [hF]; exact hNS)
    · exact absurd (by rw [hN]; decide) c1
  | succ j ih =>
    intro i S k x6 hi hX hF hNS hq
    have hb : inb (nI i) 41 := inb_n (by omega) (by decide)
    have hS := hX.std hS0
    refine t_go (op := o_iload 24 5) (fe_X2_hottestHour 22) (fun _ _ => rfl) ?_
    refine t_go (op := o_ci 26 40) (fe_X2_hottestHour 24) (fun _ _ => rfl) ?_
    refine t_ite (op := o_icmp 29 68 (fun x y => y < x) (fun _ _ => inferInstance)) (fe_X2_hottestHour 26) g_icmp (fun c1 => ?_) (fun c1 => ?_)
    · exact absurd c1 (nI_nlt (show i ≤ 40 by omega) (by decide))
    · refine t_go (op := o_aload 30 0) (fe_X2_hottestHour 29) (fun _ _ => rfl) ?_
      refine t_go (op := o_getR 33 2 0) (fe_X2_hottestHour 30) (g_getR hS (by decide) (by decide) (fr_2_0 hS) (by decide)) ?_
      refine t_go (op := o_aload 34 1) (fe_X2_hottestHour 33) (fun _ _ => rfl) ?_
      refine t_go (op := o_ci 35 1) (fe_X2_hottestHour 34) (fun _ _ => rfl) ?_
      refine t_call (op := o_callV 38 17 3 1) (fe_X2_hottestHour 35) (g_callV hS (by decide) (by decide) rfl rfl rfl (Nat.le_of_ble_eq_true rfl)) ?_
      refine M_mono ?_ (a_pass hS0 hg hL hX (Or.inl rfl) hF)
      rintro v h2 ⟨q1, hX2, hF2, hK2⟩
      rw [q1]; clear q1 v
      replace hS := hX2.std hS0
      refine t_go (op := o_popI 39) (fe_X2_hottestHour 38) (fun _ _ => rfl) ?_
      refine t_go (op := o_aload 40 0) (fe_X2_hottestHour 39) (fun _ _ => rfl) ?_
      refine t_go (op := o_getR 43 2 0) (fe_X2_hottestHour 40) (g_getR hS (by decide) (by decide) (fr_2_0 hS) (by decide)) ?_
      refine t_call (op := o_callV 46 21 1 1) (fe_X2_hottestHour 43) (g_callV hS (by decide) (by decide) rfl rfl rfl (Nat.le_of_ble_eq_true rfl)) ?_
      refine M_mono ?_ (a_heatOfAll hS (by decide) hF2)
      rintro v h3 ⟨q1, q2⟩
      rw [q1, q2]; clear q1 q2 v h3
      refine t_go (op := o_istore 48 6) (fe_X2_hottestHour 46) (fun _ _ => rfl) ?_
      refine t_go (op := o_iload 50 6) (fe_X2_hottestHour 48) (fun _ _ => rfl) ?_
      refine t_go (op := o_iload 52 4) (fe_X2_hottestHour 50) (fun _ _ => rfl) ?_
      refine t_ite (op := o_icmp 55 62 (fun x y => x ≤ y) (fun _ _ => inferInstance)) (fe_X2_hottestHour 52) g_icmp (fun c2 => ?_) (fun c2 => ?_)
      · refine t_go (op := o_iinc 65 5 1) (fe_X2_hottestHour 62) (fun _ _ => rfl) ?_
        refine t_go (op := o_goto 22) (fe_X2_hottestHour 65) (fun _ _ => rfl) ?_
        have hs : hotS h g n i S = ((S.1.1, S.1.2), HF h g n S.2) := by unfold hotS; rw [if_pos (show it (sumS (HF h g n S.2).2.1) 7 0 0 ≤ S.1.2 from c2)]
        have hq2 : ∀ k2, X h k2 → NF (fs k2 136) → Q (some (.int (it (hotS h g n) j (i + 1) (hotS h g n i S)).1.1)) k2 := hq
        rw [hs] at hq2
        rw [nI_1]
        exact ih (i + 1) ((S.1.1, S.1.2), HF h g n S.2) _ _ (by omega) hX2 hF2 (NF_HF hNS) hq2
      · refine t_go (op := o_iload 57 6) (fe_X2_hottestHour 55) (fun _ _ => rfl) ?_
        refine t_go (op := o_istore 59 4) (fe_X2_hottestHour 57) (fun _ _ => rfl) ?_
        refine t_go (op := o_iload 61 5) (fe_X2_hottestHour 59) (fun _ _ => rfl) ?_
        refine t_go (op := o_istore 62 3) (fe_X2_hottestHour 61) (fun _ _ => rfl) ?_
        refine t_go (op := o_iinc 65 5 1) (fe_X2_hottestHour 62) (fun _ _ => rfl) ?_
        refine t_go (op := o_goto 22) (fe_X2_hottestHour 65) (fun _ _ => rfl) ?_
        have hs : hotS h g n i S = ((nI i, it (sumS (HF h g n S.2).2.1) 7 0 0), HF h g n S.2) := by unfold hotS; rw [if_neg (show ¬ it (sumS (HF h g n S.2).2.1) 7 0 0 ≤ S.1.2 from c2)]
        have hq2 : ∀ k2, X h k2 → NF (fs k2 136) → Q (some (.int (it (hotS h g n) j (i + 1) (hotS h g n i S)).1.1)) k2 := hq
        rw [hs] at hq2
        rw [nI_1]
        exact ih (i + 1) ((nI i, it (sumS (HF h g n S.2).2.1) 7 0 0), HF h g n S.2) _ _ (by omega) hX2 hF2 (NF_HF hNS) hq2
theorem m_hottestHour {d : Nat} {h k : AHP} {g n : Nat} (hS0 : Std h) (hg : (lay g).1 = 3) (hL : LawOK h g n) (hX : X h k) (hN : NF (fs k 136)) (hz : h.1 5 5 = 0 ∨ h.1 5 5 = 1) (hN2 : NF (fs h 5)) : MM (d + 5) 36 [.ref 135, .ref g, .ref 5] k (fun v h2 => v = some (.int (it (hotS h g n) 40 1 ((0, it (sumS (fs h 5).2.1) 7 0 0), fs h 5)).1.1) ∧ X h h2 ∧ NF (fs h2 136)) := by
  refine ⟨Nat.le_of_ble_eq_true rfl, ?_⟩
  have hS := hX.std hS0
  refine t_go (op := o_aload 1 0) (fe_X2_hottestHour 0) (fun _ _ => rfl) ?_
  refine t_go (op := o_getR 4 2 0) (fe_X2_hottestHour 1) (g_getR hS (by decide) (by decide) (fr_2_0 hS) (by decide)) ?_
  refine t_go (op := o_aload 5 2) (fe_X2_hottestHour 4) (fun _ _ => rfl) ?_
  refine t_call (op := o_callV 8 7 2 1) (fe_X2_hottestHour 5) (g_callV hS (by decide) (by decide) rfl rfl rfl (Nat.le_of_ble_eq_true rfl)) ?_
  refine M_mono ?_ (a_become hS0 hX (Or.inl rfl) (by decide) (Or.inl (by decide)) hz hN hN2)
  rintro v h2 ⟨q1, hX2, hF2, hK2⟩
  rw [q1]; clear q1 v
  replace hS := hX2.std hS0
  refine t_go (op := o_ci 9 0) (fe_X2_hottestHour 8) (fun _ _ => rfl) ?_
  refine t_go (op := o_istore 10 3) (fe_X2_hottestHour 9) (fun _ _ => rfl) ?_
  refine t_go (op := o_aload 11 0) (fe_X2_hottestHour 10) (fun _ _ => rfl) ?_
  refine t_go (op := o_getR 14 2 0) (fe_X2_hottestHour 11) (g_getR hS (by decide) (by decide) (fr_2_0 hS) (by decide)) ?_
  refine t_call (op := o_callV 17 21 1 1) (fe_X2_hottestHour 14) (g_callV hS (by decide) (by decide) rfl rfl rfl (Nat.le_of_ble_eq_true rfl)) ?_
  refine M_mono ?_ (a_heatOfAll hS (by decide) hF2)
  rintro v h3 ⟨q1, q2⟩
  rw [q1, q2]; clear q1 q2 v h3
  refine t_go (op := o_istore 19 4) (fe_X2_hottestHour 17) (fun _ _ => rfl) ?_
  refine t_go (op := o_ci 20 1) (fe_X2_hottestHour 19) (fun _ _ => rfl) ?_
  refine t_go (op := o_istore 22 5) (fe_X2_hottestHour 20) (fun _ _ => rfl) ?_
  exact l_hottest hS0 hg hL 40 1 ((0, it (sumS (fs h 5).2.1) 7 0 0), fs h 5) _ _ rfl hX2 hF2 hN2 (fun k2 x1 x2 => ⟨rfl, x1, x2⟩)
theorem m_gainBy {d : Nat} {h k : AHP} {g n : Nat} (hS0 : Std h) (hg : (lay g).1 = 3) (hL : LawOK h g n) (hX : X h k) (hN : NF (fs k 136)) (hz : h.1 5 5 = 0 ∨ h.1 5 5 = 1) (hN2 : NF (fs h 5)) {e : Int32} : MM (d + 6) 42 [.ref 135, .ref g, .ref 5, .int e] k (fun v h2 => v = some (.int (lastsV h g n (-1) 41 0 (fs h 5) - lastsV h g n (-1) 41 0 (takeOutF (fs h 5) e))) ∧ X h h2 ∧ NF (fs h2 136)) := by
  refine ⟨Nat.le_of_ble_eq_true rfl, ?_⟩
  have hS := hX.std hS0
  refine t_go (op := o_aload 1 0) (fe_X2_gainBy 0) (fun _ _ => rfl) ?_
  refine t_go (op := o_getR 4 2 0) (fe_X2_gainBy 1) (g_getR hS (by decide) (by decide) (fr_2_0 hS) (by decide)) ?_
  refine t_go (op := o_aload 5 2) (fe_X2_gainBy 4) (fun _ _ => rfl) ?_
  refine t_call (op := o_callV 8 7 2 1) (fe_X2_gainBy 5) (g_callV hS (by decide) (by decide) rfl rfl rfl (Nat.le_of_ble_eq_true rfl)) ?_
  refine M_mono ?_ (a_become hS0 hX (Or.inl rfl) (by decide) (Or.inl (by decide)) hz hN hN2)
  rintro v h2 ⟨q1, hX2, hF2, hK2⟩
  rw [q1]; clear q1 v
  replace hS := hX2.std hS0
  refine t_go (op := o_aload 9 0) (fe_X2_gainBy 8) (fun _ _ => rfl) ?_
  refine t_go (op := o_aload 10 1) (fe_X2_gainBy 9) (fun _ _ => rfl) ?_
  refine t_go (op := o_ci 11 (-1)) (fe_X2_gainBy 10) (fun _ _ => rfl) ?_
  refine t_call (op := o_callV 14 48 3 2) (fe_X2_gainBy 11) (g_callV hS (by decide) (by decide) rfl rfl rfl (Nat.le_of_ble_eq_true rfl)) ?_
  refine M_mono ?_ (m_trialLasts hS0 hg hL hX2 hF2 hN2)
  rintro v h2 ⟨q1, hX3, hN3⟩
  rw [q1]; clear q1 v
  replace hS := hX3.std hS0
  refine t_go (op := o_istore 16 4) (fe_X2_gainBy 14) (fun _ _ => rfl) ?_
  refine t_go (op := o_aload 17 0) (fe_X2_gainBy 16) (fun _ _ => rfl) ?_
  refine t_go (op := o_getR 20 2 0) (fe_X2_gainBy 17) (g_getR hS (by decide) (by decide) (fr_2_0 hS) (by decide)) ?_
  refine t_go (op := o_aload 21 2) (fe_X2_gainBy 20) (fun _ _ => rfl) ?_
  refine t_call (op := o_callV 24 7 2 1) (fe_X2_gainBy 21) (g_callV hS (by decide) (by decide) rfl rfl rfl (Nat.le_of_ble_eq_true rfl)) ?_
  refine M_mono ?_ (a_become hS0 hX3 (Or.inl rfl) (by decide) (Or.inl (by decide)) hz hN3 hN2)
  rintro v h2 ⟨q1, hX2, hF2, hK2⟩
  rw [q1]; clear q1 v
  replace hS := hX2.std hS0
  refine t_go (op := o_aload 25 0) (fe_X2_gainBy 24) (fun _ _ => rfl) ?_
  refine t_go (op := o_getR 28 2 0) (fe_X2_gainBy 25) (g_getR hS (by decide) (by decide) (fr_2_0 hS) (by decide)) ?_
  refine t_go (op := o_iload 29 3) (fe_X2_gainBy 28) (fun _ _ => rfl) ?_
  refine t_call (op := o_callV 32 11 2 1) (fe_X2_gainBy 29) (g_callV hS (by decide) (by decide) rfl rfl rfl (Nat.le_of_ble_eq_true rfl)) ?_
  refine M_mono ?_ (a_takeOut hS0 hX2 (Or.inl rfl) hF2)
  rintro v h2 ⟨q1, hX4, hF4, hK4⟩
  rw [q1]; clear q1 v
  replace hS := hX4.std hS0
  refine t_go (op := o_iload 34 4) (fe_X2_gainBy 32) (fun _ _ => rfl) ?_
  refine t_go (op := o_aload 35 0) (fe_X2_gainBy 34) (fun _ _ => rfl) ?_
  refine t_go (op := o_aload 36 1) (fe_X2_gainBy 35) (fun _ _ => rfl) ?_
  refine t_go (op := o_ci 37 (-1)) (fe_X2_gainBy 36) (fun _ _ => rfl) ?_
  refine t_call (op := o_callV 40 48 3 2) (fe_X2_gainBy 37) (g_callV hS (by decide) (by decide) rfl rfl rfl (Nat.le_of_ble_eq_true rfl)) ?_
  refine M_mono ?_ (m_trialLasts hS0 hg hL hX4 hF4 (NF_take hN2))
  rintro v h2 ⟨q1, hX3, hN3⟩
  rw [q1]; clear q1 v
  replace hS := hX3.std hS0
  refine t_go (op := o_i2 41 (fun x y => x - y)) (fe_X2_gainBy 40) (fun _ _ => rfl) ?_
  refine t_ret (op := o_iret) (fe_X2_gainBy 41) (fun _ _ => rfl) ?_
  exact ⟨rfl, hX3, hN3⟩
noncomputable def fallB (F G : FS) (e : Nat) (s : Int32) : Int32 := @ite _ (hasF F (nI e) ∧ ¬ F.1 (nI e).toNatClampNeg = G.1 (nI e).toNatClampNeg) (Classical.propDecidable _) (s ||| (1 <<< (nI e &&& 31))) s
theorem l_falls {d : Nat} {k : AHP} {g : Nat} {F G : FS} {x1 : Option Value} (hS : Std k) (hF : fs k 136 = F) (hG : fs k 5 = G)  {Q : Option Value → AHP → Prop} : ∀ (j i : Nat) (S : Int32), i + j = 7 → Q (some (.int (it (fallB F G) j i S))) k → TT (d + 1) 41 23 [some (.ref 135), x1, some (.ref 5), some (.int S), some (.int (nI i))] [] k Q := by
  intro j
  induction j with
  | zero =>
    intro i S hi  hq
    have hN : i = 7 := by omega
    refine t_go (op := o_iload 25 4) (fe_X2_nextFalls 23) (fun _ _ => rfl) ?_
    refine t_go (op := o_ci 27 7) (fe_X2_nextFalls 25) (fun _ _ => rfl) ?_
    refine t_ite (op := o_icmp 30 75 (fun x y => y ≤ x) (fun _ _ => inferInstance)) (fe_X2_nextFalls 27) g_icmp (fun c1 => ?_) (fun c1 => ?_)
    · refine t_go (op := o_iload 76 3) (fe_X2_nextFalls 75) (fun _ _ => rfl) ?_
      refine t_ret (op := o_iret) (fe_X2_nextFalls 76) (fun _ _ => rfl) ?_
      exact hq
    · exact absurd (by rw [hN]; exact Int32.le_refl _) c1
  | succ j ih =>
    intro i S hi  hq
    have hb : inb (nI i) 7 := inb_n (by omega) (by decide)
    refine t_go (op := o_iload 25 4) (fe_X2_nextFalls 23) (fun _ _ => rfl) ?_
    refine t_go (op := o_ci 27 7) (fe_X2_nextFalls 25) (fun _ _ => rfl) ?_
    refine t_ite (op := o_icmp 30 75 (fun x y => y ≤ x) (fun _ _ => inferInstance)) (fe_X2_nextFalls 27) g_icmp (fun c1 => ?_) (fun c1 => ?_)
    · exact absurd c1 (nI_ge (show i < 7 by omega) (by decide))
    · refine t_go (op := o_aload 31 0) (fe_X2_nextFalls 30) (fun _ _ => rfl) ?_
      refine t_go (op := o_getR 34 2 0) (fe_X2_nextFalls 31) (g_getR hS (by decide) (by decide) (fr_2_0 hS) (by decide)) ?_
      refine t_go (op := o_iload 36 4) (fe_X2_nextFalls 34) (fun _ _ => rfl) ?_
      refine t_call (op := o_callV 39 8 2 1) (fe_X2_nextFalls 36) (g_callV hS (by decide) (by decide) rfl rfl rfl (Nat.le_of_ble_eq_true rfl)) ?_
      refine M_mono ?_ (a_has hS (by decide) hF)
      rintro v h2 ⟨q1, q2⟩
      rw [q1, q2]; clear q1 q2 v h2
      refine t_ite (op := o_if 42 69 (fun x => x = 0) (fun _ => inferInstance)) (fe_X2_nextFalls 39) g_if (fun c2 => ?_) (fun c2 => ?_)
      · refine t_go (op := o_iinc 72 4 1) (fe_X2_nextFalls 69) (fun _ _ => rfl) ?_
        refine t_go (op := o_goto 23) (fe_X2_nextFalls 72) (fun _ _ => rfl) ?_
        have hs : fallB F G i S = _ := if_neg (fun q => b2i_ne.mp c2 q.1)
        have hq2 : Q (some (.int (it (fallB F G) j (i + 1) (fallB F G i S)))) k := hq
        rw [hs] at hq2
        rw [nI_1]
        exact ih (i + 1) _ (by omega) hq2
      · refine t_go (op := o_aload 43 0) (fe_X2_nextFalls 42) (fun _ _ => rfl) ?_
        refine t_go (op := o_getR 46 2 0) (fe_X2_nextFalls 43) (g_getR hS (by decide) (by decide) (fr_2_0 hS) (by decide)) ?_
        refine t_go (op := o_getR 49 1 0) (fe_X2_nextFalls 46) (g_getR hS (by decide) (by decide) (fr_1_0 hS (by decide)) (Nat.succ_pos _)) ?_
        refine t_go (op := o_iload 51 4) (fe_X2_nextFalls 49) (fun _ _ => rfl) ?_
        refine t_go (op := o_iald 52) (fe_X2_nextFalls 51) (g_iald hS (ly_1_1 (by decide)) (by first | assumption | exact inb_1 ‹_› ‹_› (by decide))) ?_
        refine t_go (op := o_aload 53 2) (fe_X2_nextFalls 52) (fun _ _ => rfl) ?_
        refine t_go (op := o_getR 56 1 0) (fe_X2_nextFalls 53) (g_getR hS (by decide) (by decide) (fr_1_0 hS (by decide)) (Nat.succ_pos _)) ?_
        refine t_go (op := o_iload 58 4) (fe_X2_nextFalls 56) (fun _ _ => rfl) ?_
        refine t_go (op := o_iald 59) (fe_X2_nextFalls 58) (g_iald hS (ly_1_1 (by decide)) (by first | assumption | exact inb_1 ‹_› ‹_› (by decide))) ?_
        refine t_ite (op := o_icmp 62 69 (fun x y => x = y) (fun _ _ => inferInstance)) (fe_X2_nextFalls 59) g_icmp (fun c3 => ?_) (fun c3 => ?_)
        · refine t_go (op := o_iinc 72 4 1) (fe_X2_nextFalls 69) (fun _ _ => rfl) ?_
          refine t_go (op := o_goto 23) (fe_X2_nextFalls 72) (fun _ _ => rfl) ?_
          rw [show k.1 137 = F.1 by rw [← hF]; rfl, show k.1 6 = G.1 by rw [← hG]; rfl] at c3
          have hs : fallB F G i S = _ := if_neg (fun q => q.2 c3)
          have hq2 : Q (some (.int (it (fallB F G) j (i + 1) (fallB F G i S)))) k := hq
          rw [hs] at hq2
          rw [nI_1]
          exact ih (i + 1) _ (by omega) hq2
        · refine t_go (op := o_iload 63 3) (fe_X2_nextFalls 62) (fun _ _ => rfl) ?_
          refine t_go (op := o_ci 64 1) (fe_X2_nextFalls 63) (fun _ _ => rfl) ?_
          refine t_go (op := o_iload 66 4) (fe_X2_nextFalls 64) (fun _ _ => rfl) ?_
          refine t_go (op := o_i2 67 (fun x y => x <<< (y &&& 31))) (fe_X2_nextFalls 66) (fun _ _ => rfl) ?_
          refine t_go (op := o_i2 68 (fun x y => x ||| y)) (fe_X2_nextFalls 67) (fun _ _ => rfl) ?_
          refine t_go (op := o_istore 69 3) (fe_X2_nextFalls 68) (fun _ _ => rfl) ?_
          refine t_go (op := o_iinc 72 4 1) (fe_X2_nextFalls 69) (fun _ _ => rfl) ?_
          refine t_go (op := o_goto 23) (fe_X2_nextFalls 72) (fun _ _ => rfl) ?_
          rw [show k.1 137 = F.1 by rw [← hF]; rfl, show k.1 6 = G.1 by rw [← hG]; rfl] at c3
          have hs : fallB F G i S = _ := if_pos ⟨Classical.not_not.mp (fun q => c2 (b2i_f q)), c3⟩
          have hq2 : Q (some (.int (it (fallB F G) j (i + 1) (fallB F G i S)))) k := hq
          rw [hs] at hq2
          rw [nI_1]
          exact ih (i + 1) _ (by omega) hq2
theorem m_nextFalls {d : Nat} {h k : AHP} {g n : Nat} (hS0 : Std h) (hg : (lay g).1 = 3) (hL : LawOK h g n) (hX : X h k) (hN : NF (fs k 136)) (hz : h.1 5 5 = 0 ∨ h.1 5 5 = 1) (hN2 : NF (fs h 5)) : MM (d + 5) 41 [.ref 135, .ref g, .ref 5] k (fun v h2 => v = some (.int (it (fallB (HF h g n (fs h 5)) (fs h 5)) 7 0 0)) ∧ X h h2 ∧ NF (fs h2 136)) := by
  refine ⟨Nat.le_of_ble_eq_true rfl, ?_⟩
  have hS := hX.std hS0
  refine t_go (op := o_aload 1 0) (fe_X2_nextFalls 0) (fun _ _ => rfl) ?_
  refine t_go (op := o_getR 4 2 0) (fe_X2_nextFalls 1) (g_getR hS (by decide) (by decide) (fr_2_0 hS) (by decide)) ?_
  refine t_go (op := o_aload 5 2) (fe_X2_nextFalls 4) (fun _ _ => rfl) ?_
  refine t_call (op := o_callV 8 7 2 1) (fe_X2_nextFalls 5) (g_callV hS (by decide) (by decide) rfl rfl rfl (Nat.le_of_ble_eq_true rfl)) ?_
  refine M_mono ?_ (a_become hS0 hX (Or.inl rfl) (by decide) (Or.inl (by decide)) hz hN hN2)
  rintro v h2 ⟨q1, hX2, hF2, hK2⟩
  rw [q1]; clear q1 v
  replace hS := hX2.std hS0
  refine t_go (op := o_aload 9 0) (fe_X2_nextFalls 8) (fun _ _ => rfl) ?_
  refine t_go (op := o_getR 12 2 0) (fe_X2_nextFalls 9) (g_getR hS (by decide) (by decide) (fr_2_0 hS) (by decide)) ?_
  refine t_go (op := o_aload 13 1) (fe_X2_nextFalls 12) (fun _ _ => rfl) ?_
  refine t_go (op := o_ci 14 1) (fe_X2_nextFalls 13) (fun _ _ => rfl) ?_
  refine t_call (op := o_callV 17 17 3 1) (fe_X2_nextFalls 14) (g_callV hS (by decide) (by decide) rfl rfl rfl (Nat.le_of_ble_eq_true rfl)) ?_
  refine M_mono ?_ (a_pass hS0 hg hL hX2 (Or.inl rfl) hF2)
  rintro v h2 ⟨q1, hX3, hF3, hK3⟩
  rw [q1]; clear q1 v
  replace hS := hX3.std hS0
  refine t_go (op := o_popI 18) (fe_X2_nextFalls 17) (fun _ _ => rfl) ?_
  refine t_go (op := o_ci 19 0) (fe_X2_nextFalls 18) (fun _ _ => rfl) ?_
  refine t_go (op := o_istore 20 3) (fe_X2_nextFalls 19) (fun _ _ => rfl) ?_
  refine t_go (op := o_ci 21 0) (fe_X2_nextFalls 20) (fun _ _ => rfl) ?_
  refine t_go (op := o_istore 23 4) (fe_X2_nextFalls 21) (fun _ _ => rfl) ?_
  exact l_falls (g := g) hS hF3 (X_fs hX3 (by omega)) 7 0 0 rfl ⟨rfl, hX3, by rw [hF3]; exact NF_HF hN2⟩
noncomputable def bankS (h : AHP) (g n : Nat) (i : Nat) (s : Int32 × Int32) : Int32 × Int32 := bestS (fun i => lastsV h g n (nI i) 41 0 (fs h 5)) i s
theorem l_banking {d : Nat} {h : AHP} {g n : Nat} (hS0 : Std h) (hg : (lay g).1 = 3) (hL : LawOK h g n) (hz : h.1 5 5 = 0 ∨ h.1 5 5 = 1) (hN2 : NF (fs h 5))  {Q : Option Value → AHP → Prop} : ∀ (j i : Nat) (S : Int32 × Int32) (k : AHP) (x6 : Option Value), i + j = 13 → X h k → NF (fs k 136) → (∀ k2 (x : Int32 × Int32), x = it (bestS (fun i => lastsV h g n (nI i) 41 0 (fs h 5))) j i S → X h k2 → NF (fs k2 136) → ∀ x6, TT (d + 6) 39 52 [some (.ref 135), some (.ref g), some (.ref 5), some (.int x.1), some (.int x.2), some (.int (nI 13)), x6] [] k2 Q) → TT (d + 6) 39 8 [some (.ref 135), some (.ref g), some (.ref 5), some (.int S.1), some (.int S.2), some (.int (nI i)), x6] [] k Q := by
  intro j
  induction j with
  | zero =>
    intro i S k x6 hi hX hNk hq
    have hN : i = 13 := by omega
    have hS := hX.std hS0
    refine t_go (op := o_iload 10 5) (fe_X2_bestBanking 8) (fun _ _ => rfl) ?_
    refine t_go (op := o_ci 12 12) (fe_X2_bestBanking 10) (fun _ _ => rfl) ?_
    refine t_ite (op := o_icmp 15 52 (fun x y => y < x) (fun _ _ => inferInstance)) (fe_X2_bestBanking 12) g_icmp (fun c1 => ?_) (fun c1 => ?_)
    · rw [hN]
      exact hq k S rfl hX hNk x6
    · exact absurd (by rw [hN]; decide) c1
  | succ j ih =>
    intro i S k x6 hi hX hNk hq
    have hi2 : i < 13 := by omega
    have hS := hX.std hS0
    refine t_go (op := o_iload 10 5) (fe_X2_bestBanking 8) (fun _ _ => rfl) ?_
    refine t_go (op := o_ci 12 12) (fe_X2_bestBanking 10) (fun _ _ => rfl) ?_
    refine t_ite (op := o_icmp 15 52 (fun x y => y < x) (fun _ _ => inferInstance)) (fe_X2_bestBanking 12) g_icmp (fun c1 => ?_) (fun c1 => ?_)
    · exact absurd c1 (nI_nlt (show i ≤ 12 by omega) (by decide))
    · refine t_go (op := o_aload 16 0) (fe_X2_bestBanking 15) (fun _ _ => rfl) ?_
      refine t_go (op := o_getR 19 2 0) (fe_X2_bestBanking 16) (g_getR hS (by decide) (by decide) (fr_2_0 hS) (by decide)) ?_
      refine t_go (op := o_aload 20 2) (fe_X2_bestBanking 19) (fun _ _ => rfl) ?_
      refine t_call (op := o_callV 23 7 2 1) (fe_X2_bestBanking 20) (g_callV hS (by decide) (by decide) rfl rfl rfl (Nat.le_of_ble_eq_true rfl)) ?_
      refine M_mono ?_ (a_become hS0 hX (Or.inl rfl) (by decide) (Or.inl (by decide)) hz hNk hN2)
      rintro v h2 ⟨q1, hX2, hF2, hK2⟩
      rw [q1]; clear q1 v
      replace hS := hX2.std hS0
      refine t_go (op := o_aload 24 0) (fe_X2_bestBanking 23) (fun _ _ => rfl) ?_
      refine t_go (op := o_aload 25 1) (fe_X2_bestBanking 24) (fun _ _ => rfl) ?_
      refine t_go (op := o_iload 27 5) (fe_X2_bestBanking 25) (fun _ _ => rfl) ?_
      refine t_call (op := o_callV 30 48 3 2) (fe_X2_bestBanking 27) (g_callV hS (by decide) (by decide) rfl rfl rfl (Nat.le_of_ble_eq_true rfl)) ?_
      refine M_mono ?_ (m_trialLasts hS0 hg hL hX2 hF2 hN2)
      rintro v h2 ⟨q1, hX3, hN3⟩
      rw [q1]; clear q1 v
      replace hS := hX3.std hS0
      refine t_go (op := o_istore 32 6) (fe_X2_bestBanking 30) (fun _ _ => rfl) ?_
      refine t_go (op := o_iload 34 6) (fe_X2_bestBanking 32) (fun _ _ => rfl) ?_
      refine t_go (op := o_iload 36 4) (fe_X2_bestBanking 34) (fun _ _ => rfl) ?_
      refine t_ite (op := o_icmp 39 46 (fun x y => x ≤ y) (fun _ _ => inferInstance)) (fe_X2_bestBanking 36) g_icmp (fun c2 => ?_) (fun c2 => ?_)
      · refine t_go (op := o_iinc 49 5 1) (fe_X2_bestBanking 46) (fun _ _ => rfl) ?_
        refine t_go (op := o_goto 8) (fe_X2_bestBanking 49) (fun _ _ => rfl) ?_
        have hs : bestS (fun i => lastsV h g n (nI i) 41 0 (fs h 5)) i S = S := if_pos c2
        have hq2 : ∀ k2 (x : Int32 × Int32), x = it (bestS (fun i => lastsV h g n (nI i) 41 0 (fs h 5))) j (i + 1) (bestS (fun i => lastsV h g n (nI i) 41 0 (fs h 5)) i S) → X h k2 → NF (fs k2 136) → ∀ x6, TT (d + 6) 39 52 [some (.ref 135), some (.ref g), some (.ref 5), some (.int x.1), some (.int x.2), some (.int (nI 13)), x6] [] k2 Q := hq
        rw [hs] at hq2
        rw [nI_1]
        exact ih (i + 1) S _ _ (by omega) hX3 hN3 hq2
      · refine t_go (op := o_iload 41 6) (fe_X2_bestBanking 39) (fun _ _ => rfl) ?_
        refine t_go (op := o_istore 43 4) (fe_X2_bestBanking 41) (fun _ _ => rfl) ?_
        refine t_go (op := o_iload 45 5) (fe_X2_bestBanking 43) (fun _ _ => rfl) ?_
        refine t_go (op := o_istore 46 3) (fe_X2_bestBanking 45) (fun _ _ => rfl) ?_
        refine t_go (op := o_iinc 49 5 1) (fe_X2_bestBanking 46) (fun _ _ => rfl) ?_
        refine t_go (op := o_goto 8) (fe_X2_bestBanking 49) (fun _ _ => rfl) ?_
        have hs : bestS (fun i => lastsV h g n (nI i) 41 0 (fs h 5)) i S = (nI i, lastsV h g n (nI i) 41 0 (fs h 5)) := if_neg c2
        have hq2 : ∀ k2 (x : Int32 × Int32), x = it (bestS (fun i => lastsV h g n (nI i) 41 0 (fs h 5))) j (i + 1) (bestS (fun i => lastsV h g n (nI i) 41 0 (fs h 5)) i S) → X h k2 → NF (fs k2 136) → ∀ x6, TT (d + 6) 39 52 [some (.ref 135), some (.ref g), some (.ref 5), some (.int x.1), some (.int x.2), some (.int (nI 13)), x6] [] k2 Q := hq
        rw [hs] at hq2
        rw [nI_1]
        exact ih (i + 1) (nI i, lastsV h g n (nI i) 41 0 (fs h 5)) _ _ (by omega) hX3 hN3 hq2
theorem m_bestBanking {d : Nat} {h k : AHP} {g n : Nat} (hS0 : Std h) (hg : (lay g).1 = 3) (hL : LawOK h g n) (hX : X h k) (hN : NF (fs k 136)) (hz : h.1 5 5 = 0 ∨ h.1 5 5 = 1) (hN2 : NF (fs h 5)) : MM (d + 6) 39 [.ref 135, .ref g, .ref 5] k (fun v h2 => v = some (.int (if lastsV h g n (-1) 41 0 (fs h 5) ≤ (it (bestS (fun i => lastsV h g n (nI i) 41 0 (fs h 5))) 13 0 (-1, -1)).2 then (it (bestS (fun i => lastsV h g n (nI i) 41 0 (fs h 5))) 13 0 (-1, -1)).1 else -1)) ∧ X h h2 ∧ NF (fs h2 136)) := by
  refine ⟨Nat.le_of_ble_eq_true rfl, ?_⟩
  have hS := hX.std hS0
  refine t_go (op := o_ci 1 (-1)) (fe_X2_bestBanking 0) (fun _ _ => rfl) ?_
  refine t_go (op := o_istore 2 3) (fe_X2_bestBanking 1) (fun _ _ => rfl) ?_
  refine t_go (op := o_ci 3 (-1)) (fe_X2_bestBanking 2) (fun _ _ => rfl) ?_
  refine t_go (op := o_istore 5 4) (fe_X2_bestBanking 3) (fun _ _ => rfl) ?_
  refine t_go (op := o_ci 6 0) (fe_X2_bestBanking 5) (fun _ _ => rfl) ?_
  refine t_go (op := o_istore 8 5) (fe_X2_bestBanking 6) (fun _ _ => rfl) ?_
  refine l_banking hS0 hg hL hz hN2 13 0 (-1, -1) k _ rfl hX hN (fun k2 x hx hx1 hx2 x6 => ?_)
  replace hS := hx1.std hS0
  refine t_go (op := o_aload 53 0) (fe_X2_bestBanking 52) (fun _ _ => rfl) ?_
  refine t_go (op := o_getR 56 2 0) (fe_X2_bestBanking 53) (g_getR hS (by decide) (by decide) (fr_2_0 hS) (by decide)) ?_
  refine t_go (op := o_aload 57 2) (fe_X2_bestBanking 56) (fun _ _ => rfl) ?_
  refine t_call (op := o_callV 60 7 2 1) (fe_X2_bestBanking 57) (g_callV hS (by decide) (by decide) rfl rfl rfl (Nat.le_of_ble_eq_true rfl)) ?_
  refine M_mono ?_ (a_become hS0 hx1 (Or.inl rfl) (by decide) (Or.inl (by decide)) hz hx2 hN2)
  rintro v h2 ⟨q1, hX2, hF2, hK2⟩
  rw [q1]; clear q1 v
  replace hS := hX2.std hS0
  refine t_go (op := o_aload 61 0) (fe_X2_bestBanking 60) (fun _ _ => rfl) ?_
  refine t_go (op := o_aload 62 1) (fe_X2_bestBanking 61) (fun _ _ => rfl) ?_
  refine t_go (op := o_ci 63 (-1)) (fe_X2_bestBanking 62) (fun _ _ => rfl) ?_
  refine t_call (op := o_callV 66 48 3 2) (fe_X2_bestBanking 63) (g_callV hS (by decide) (by decide) rfl rfl rfl (Nat.le_of_ble_eq_true rfl)) ?_
  refine M_mono ?_ (m_trialLasts hS0 hg hL hX2 hF2 hN2)
  rintro v h2 ⟨q1, hX3, hN3⟩
  rw [q1]; clear q1 v
  replace hS := hX3.std hS0
  refine t_go (op := o_iload 68 4) (fe_X2_bestBanking 66) (fun _ _ => rfl) ?_
  refine t_ite (op := o_icmp 71 75 (fun x y => x ≤ y) (fun _ _ => inferInstance)) (fe_X2_bestBanking 68) g_icmp (fun c1 => ?_) (fun c1 => ?_)
  · refine t_go (op := o_iload 76 3) (fe_X2_bestBanking 75) (fun _ _ => rfl) ?_
    refine t_ret (op := o_iret) (fe_X2_bestBanking 76) (fun _ _ => rfl) ?_
    refine ⟨?_, hX3, hN3⟩
    rw [← hx, if_pos c1]
  · refine t_go (op := o_ci 72 (-1)) (fe_X2_bestBanking 71) (fun _ _ => rfl) ?_
    refine t_go (op := o_goto 76) (fe_X2_bestBanking 72) (fun _ _ => rfl) ?_
    refine t_ret (op := o_iret) (fe_X2_bestBanking 76) (fun _ _ => rfl) ?_
    refine ⟨?_, hX3, hN3⟩
    rw [← hx, if_neg c1]
