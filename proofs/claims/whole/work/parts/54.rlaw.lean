/-! ===== the reference: what the law tells ===== -/
theorem rowI_up {h : AHP} {a t : Nat} {r : Nat → Int32} {v : Int32} : sI (rowI h a r) a t v = rowI h a (fup r t v) := by
  refine AHP_ext (fun b j => ?_) rfl
  simp only [sI, up2, rowI, row2, fup]
  by_cases e : b = a
  · simp [e]
  · simp [e]
theorem rowI_id {h : AHP} {a : Nat} : rowI h a (h.1 a) = h := by
  refine AHP_ext (fun b j => ?_) rfl
  simp only [rowI, row2]
  split
  · rename_i e; rw [e]
  · rfl
theorem rowI_at {h : AHP} {a : Nat} {r : Nat → Int32} : (rowI h a r).1 a = r := by funext j; simp [rowI, row2]
theorem rowI_ne {h : AHP} {a b : Nat} {r : Nat → Int32} (hb : b ≠ a) : (rowI h a r).1 b = h.1 b := by funext j; simp [rowI, row2, hb]
def okS (op : Int32) (t : Nat) : Prop := if op < -4 then (if op = -5 then 1 ≤ t else 2 ≤ t) else t < 24
def depS (op : Int32) (t : Nat) : Nat := if op < -4 then (if op = -5 then t else t - 1) else t + 1
def dep (st : Nat → Int32) (i : Nat) : Nat := it (fun i => depS (st i)) i 0 0
def WFL (st : Nat → Int32) (n : Nat) : Prop := (∀ i, i < n → okS (st i) (dep st i)) ∧ 1 ≤ dep st n
def codeB : List (Int32 × Int32) := [(-43, 4), (-45, 5), (-42, 6), (-60, 7), (-61, 8), (-6, 9), (-7, 10)]
def codeR (st op ar : Int32) : Prop := (¬ st < 0 ∧ op = 1 ∧ ar = st) ∨ (∃ f : Nat, f < 4 ∧ st < 0 ∧ ¬ st < -4 ∧ (-1 - st).toNatClampNeg = f ∧ op = 2 ∧ ar = nI f) ∨ (st = -5 ∧ op = 3) ∨ (st, op) ∈ codeB
theorem ok_le {st : Int32} {t : Nat} (h : okS st t) (ht : t ≤ 24) : depS st t ≤ 24 := by
  unfold okS at h
  unfold depS
  split
  · split
    · exact ht
    · omega
  · rename_i q
    rw [if_neg q] at h
    omega
theorem dep_le {st : Nat → Int32} {n : Nat} (h : ∀ i, i < n → okS (st i) (dep st i)) : ∀ i, i ≤ n → dep st i ≤ 24 := by
  intro i
  induction i with
  | zero => intro _; exact Nat.zero_le _
  | succ i ih =>
    intro hi
    rw [dep, it_snoc]
    exact ok_le (h i (by omega)) (ih (by omega))
theorem dep_1 {st : Nat → Int32} {i : Nat} : dep st (i + 1) = depS (st i) (dep st i) := by rw [dep, it_snoc]; rfl
theorem stpL_mk {op : Int32} {fr r : Nat → Int32} {t : Nat} : stpL op fr (t, r) = if op < -4 then (if op = -5 then (if nI t < 1 then (t, r) else (t, fup r (nI t - 1).toNatClampNeg (if r (nI t - 1).toNatClampNeg = 0 then 1 else 0)))
    else (if nI t < 2 then (t, r) else (t - 1, fup r (nI (t - 1) - 1).toNatClampNeg (joinV op (r (nI (t - 1) - 1).toNatClampNeg) (r (nI (t - 1)).toNatClampNeg)))))
  else (if 24 ≤ nI t then (t, r) else (t + 1, fup r (nI t).toNatClampNeg (if op < 0 then fr (-1 - op).toNatClampNeg else op))) := rfl
theorem l24 {t : Nat} (h : t < 24) : ¬ (24 : Int32) ≤ nI t := nI_ge (b := 24) h (by decide)
theorem l1 {t : Nat} (h : 1 ≤ t) (h2 : t ≤ 24) : ¬ nI t < (1 : Int32) := nI_nlt (b := 1) h (by omega)
theorem l2 {t : Nat} (h : 2 ≤ t) (h2 : t ≤ 24) : ¬ nI t < (2 : Int32) := nI_nlt (b := 2) h (by omega)
theorem nIs1 {t : Nat} (h : 1 ≤ t) : nI t - 1 = nI (t - 1) := nIs rfl (nIl 1) h
theorem stp_num {op : Int32} {fr r : Nat → Int32} {t : Nat} (h0 : ¬ op < 0) (h : okS op t) : t < 24 ∧ stpL op fr (t, r) = (t + 1, fup r t op) := by
  have h4 : ¬ op < -4 := fun q => h0 (Int32.lt_trans q (by decide))
  have ht : t < 24 := by rw [okS, if_neg h4] at h; exact h
  refine ⟨ht, ?_⟩
  rw [stpL_mk, if_neg h4, if_neg (l24 ht), if_neg h0, nI_clamp (by omega)]
theorem stp_fact {op : Int32} {fr r : Nat → Int32} {t f : Nat} (h1 : op < 0) (h2 : ¬ op < -4) (h3 : (-1 - op).toNatClampNeg = f) (h : okS op t) : t < 24 ∧ stpL op fr (t, r) = (t + 1, fup r t (fr f)) := by
  have ht : t < 24 := by rw [okS, if_neg h2] at h; exact h
  refine ⟨ht, ?_⟩
  rw [stpL_mk, if_neg h2, if_neg (l24 ht), if_pos h1, nI_clamp (by omega), h3]
theorem stp_not {fr r : Nat → Int32} {t : Nat} (ht24 : t ≤ 24) (h : okS (-5) t) : 1 ≤ t ∧ stpL (-5) fr (t, r) = (t, fup r (t - 1) (if r (t - 1) = 0 then 1 else 0)) := by
  have ht : 1 ≤ t := by rw [okS, if_pos (by decide), if_pos rfl] at h; exact h
  refine ⟨ht, ?_⟩
  rw [stpL_mk, if_pos (by decide), if_pos rfl, if_neg (l1 ht ht24), nIs1 ht, nI_clamp (by omega)]
theorem stp_bin {st op : Int32} {fr r : Nat → Int32} {t : Nat} (hc : (st, op) ∈ codeB) (ht24 : t ≤ 24) (h : okS st t) : 2 ≤ t ∧ stpL st fr (t, r) = (t - 1, fup r (t - 1 - 1) (joinV st (r (t - 1 - 1)) (r (t - 1)))) := by
  have h4 : st < -4 ∧ ¬ st = -5 := by
    have : ∀ q ∈ codeB, q.1 < -4 ∧ ¬ q.1 = -5 := by decide +kernel
    exact this _ hc
  have ht : 2 ≤ t := by rw [okS, if_pos h4.1, if_neg h4.2] at h; exact h
  refine ⟨ht, ?_⟩
  rw [stpL_mk, if_pos h4.1, if_neg h4.2, if_neg (l2 ht ht24), nIs1 (t := t - 1) (by omega), nI_clamp (by omega), nI_clamp (by omega)]
theorem stp_dep {st : Int32} {fr r : Nat → Int32} {t : Nat} (ht24 : t ≤ 24) (h : okS st t) : (stpL st fr (t, r)).1 = depS st t := by
  unfold okS at h
  rw [stpL_mk]
  unfold depS
  by_cases h4 : st < -4
  · rw [if_pos h4] at h ⊢
    rw [if_pos h4]
    by_cases h5 : st = -5
    · rw [if_pos h5] at h ⊢
      rw [if_pos h5, if_neg (l1 h ht24)]
    · rw [if_neg h5] at h ⊢
      rw [if_neg h5, if_neg (l2 h ht24)]
  · rw [if_neg h4] at h ⊢
    rw [if_neg h4, if_neg (l24 h)]
theorem stp_sim {st : Int32} {fr fq r q : Nat → Int32} {t : Nat} (ht24 : t ≤ 24) (h : okS st t) (hr : ∀ a, a < t → r a = q a) (hf : ∀ a, a < 4 → fr a = fq a) : ∀ a, a < depS st t → (stpL st fr (t, r)).2 a = (stpL st fq (t, q)).2 a := by
  intro a ha
  unfold okS at h
  unfold depS at ha
  rw [stpL_mk, stpL_mk]
  by_cases h4 : st < -4
  · rw [if_pos h4] at h ha
    rw [if_pos h4, if_pos h4]
    by_cases h5 : st = -5
    · rw [if_pos h5] at h ha
      rw [if_pos h5, if_pos h5, if_neg (l1 h ht24), if_neg (l1 h ht24), nIs1 h, nI_clamp (by omega), hr (t - 1) (by omega)]
      show fup r _ _ a = fup q _ _ a
      unfold fup
      split
      · rfl
      · exact hr a ha
    · rw [if_neg h5] at h ha
      rw [if_neg h5, if_neg h5, if_neg (l2 h ht24), if_neg (l2 h ht24), nIs1 (t := t - 1) (by omega), nI_clamp (by omega), nI_clamp (by omega), hr (t - 1) (by omega), hr (t - 1 - 1) (by omega)]
      show fup r _ _ a = fup q _ _ a
      unfold fup
      split
      · rfl
      · exact hr a (by omega)
  · rw [if_neg h4] at h ha
    rw [if_neg h4, if_neg h4, if_neg (l24 h), if_neg (l24 h), nI_clamp (by omega)]
    show fup r _ _ a = fup q _ _ a
    unfold fup
    split
    · split
      · rename_i h0
        refine hf _ ?_
        have := inb_fact h4 h0
        exact inb_lt this
      · rfl
    · exact hr a (by omega)
theorem law_sim {st : Nat → Int32} {n : Nat} {fr fq r q : Nat → Int32} (hW : ∀ i, i < n → okS (st i) (dep st i)) (hf : ∀ a, a < 4 → fr a = fq a) : ∀ i, i ≤ n →
    (it (fun i => stpL (st i) fr) i 0 (0, r)).1 = dep st i ∧ (it (fun i => stpL (st i) fq) i 0 (0, q)).1 = dep st i ∧ ∀ a, a < dep st i → (it (fun i => stpL (st i) fr) i 0 (0, r)).2 a = (it (fun i => stpL (st i) fq) i 0 (0, q)).2 a := by
  intro i
  induction i with
  | zero => intro _; exact ⟨rfl, rfl, fun a ha => absurd ha (Nat.not_lt_zero a)⟩
  | succ i ih =>
    intro hi
    obtain ⟨h1, h2, h3⟩ := ih (by omega)
    rw [it_snoc, it_snoc, dep_1]
    have hle := dep_le hW i (by omega)
    have hok := hW i (by omega)
    generalize it (fun i => stpL (st i) fr) i 0 (0, r) = s1 at h1 h3 ⊢
    generalize it (fun i => stpL (st i) fq) i 0 (0, q) = s2 at h2 h3 ⊢
    obtain ⟨t1, r1⟩ := s1
    obtain ⟨t2, r2⟩ := s2
    cases h1
    cases h2
    exact ⟨stp_dep hle hok, stp_dep hle hok, stp_sim hle hok h3 hf⟩
theorem law_ind {st : Nat → Int32} {n : Nat} (hW : WFL st n) (r2 r3 : Nat → Int32) (a b c e : Int32) : tellsV st n r2 r3 a b c e = tellsV st n (fun _ => 0) (fun _ => 0) a b c e := by
  unfold tellsV
  by_cases hn : n = 0
  · rw [if_pos hn, if_pos hn]
  · rw [if_neg hn, if_neg hn]
    refine (law_sim hW.1 (fun z hz => ?_) n (Nat.le_refl _)).2.2 0 (by have := hW.2; omega)
    unfold fact4 fup
    by_cases z3 : z = 3
    · simp [z3]
    · by_cases z2 : z = 2
      · simp [z2]
      · by_cases z1 : z = 1
        · simp [z1]
        · simp [show z = 0 by omega]
theorem r_both_4 {d : Nat} {k : AHP} {x y : Int32} : MM d 195 [.int (4), .int x, .int y] k (fun v h2 => v = some (.int (x + y)) ∧ h2 = k) := by
  refine ⟨Nat.le_of_ble_eq_true rfl, ?_⟩
  refine t_go (op := o_iload 1 0) (fe_X12_both 0) (fun _ _ => rfl) ?_
  refine t_go (op := o_sw (swT 4 [40, 44, 48, 52, 63, 74] 88)) (fe_X12_both 1) (fun _ _ => rfl) ?_
  rw [show swT 4 [40, 44, 48, 52, 63, 74] 88 (4 : Int32) = 40 by decide +kernel]
  refine t_go (op := o_iload 41 1) (fe_X12_both 40) (fun _ _ => rfl) ?_
  refine t_go (op := o_iload 42 2) (fe_X12_both 41) (fun _ _ => rfl) ?_
  refine t_go (op := o_i2 43 (fun x y => x + y)) (fe_X12_both 42) (fun _ _ => rfl) ?_
  refine t_ret (op := o_iret) (fe_X12_both 43) (fun _ _ => rfl) ?_
  exact ⟨rfl, rfl⟩
theorem r_both_5 {d : Nat} {k : AHP} {x y : Int32} : MM d 195 [.int (5), .int x, .int y] k (fun v h2 => v = some (.int (x - y)) ∧ h2 = k) := by
  refine ⟨Nat.le_of_ble_eq_true rfl, ?_⟩
  refine t_go (op := o_iload 1 0) (fe_X12_both 0) (fun _ _ => rfl) ?_
  refine t_go (op := o_sw (swT 4 [40, 44, 48, 52, 63, 74] 88)) (fe_X12_both 1) (fun _ _ => rfl) ?_
  rw [show swT 4 [40, 44, 48, 52, 63, 74] 88 (5 : Int32) = 44 by decide +kernel]
  refine t_go (op := o_iload 45 1) (fe_X12_both 44) (fun _ _ => rfl) ?_
  refine t_go (op := o_iload 46 2) (fe_X12_both 45) (fun _ _ => rfl) ?_
  refine t_go (op := o_i2 47 (fun x y => x - y)) (fe_X12_both 46) (fun _ _ => rfl) ?_
  refine t_ret (op := o_iret) (fe_X12_both 47) (fun _ _ => rfl) ?_
  exact ⟨rfl, rfl⟩
theorem r_both_6 {d : Nat} {k : AHP} {x y : Int32} : MM d 195 [.int (6), .int x, .int y] k (fun v h2 => v = some (.int (x * y)) ∧ h2 = k) := by
  refine ⟨Nat.le_of_ble_eq_true rfl, ?_⟩
  refine t_go (op := o_iload 1 0) (fe_X12_both 0) (fun _ _ => rfl) ?_
  refine t_go (op := o_sw (swT 4 [40, 44, 48, 52, 63, 74] 88)) (fe_X12_both 1) (fun _ _ => rfl) ?_
  rw [show swT 4 [40, 44, 48, 52, 63, 74] 88 (6 : Int32) = 48 by decide +kernel]
  refine t_go (op := o_iload 49 1) (fe_X12_both 48) (fun _ _ => rfl) ?_
  refine t_go (op := o_iload 50 2) (fe_X12_both 49) (fun _ _ => rfl) ?_
  refine t_go (op := o_i2 51 (fun x y => x * y)) (fe_X12_both 50) (fun _ _ => rfl) ?_
  refine t_ret (op := o_iret) (fe_X12_both 51) (fun _ _ => rfl) ?_
  exact ⟨rfl, rfl⟩
theorem r_both_7 {d : Nat} {k : AHP} {x y : Int32} : MM d 195 [.int (7), .int x, .int y] k (fun v h2 => v = some (.int (if y ≤ x then 0 else 1)) ∧ h2 = k) := by
  refine ⟨Nat.le_of_ble_eq_true rfl, ?_⟩
  refine t_go (op := o_iload 1 0) (fe_X12_both 0) (fun _ _ => rfl) ?_
  refine t_go (op := o_sw (swT 4 [40, 44, 48, 52, 63, 74] 88)) (fe_X12_both 1) (fun _ _ => rfl) ?_
  rw [show swT 4 [40, 44, 48, 52, 63, 74] 88 (7 : Int32) = 52 by decide +kernel]
  refine t_go (op := o_iload 53 1) (fe_X12_both 52) (fun _ _ => rfl) ?_
  refine t_go (op := o_iload 54 2) (fe_X12_both 53) (fun _ _ => rfl) ?_
  refine t_ite (op := o_icmp 57 61 (fun x y => y ≤ x) (fun _ _ => inferInstance)) (fe_X12_both 54) g_icmp (fun c1 => ?_) (fun c1 => ?_)
  · refine t_go (op := o_ci 62 0) (fe_X12_both 61) (fun _ _ => rfl) ?_
    refine t_ret (op := o_iret) (fe_X12_both 62) (fun _ _ => rfl) ?_
    exact ⟨congrArg (fun x => some (Value.int x)) (Eq.symm (if_pos c1)), rfl⟩
  · refine t_go (op := o_ci 58 1) (fe_X12_both 57) (fun _ _ => rfl) ?_
    refine t_go (op := o_goto 62) (fe_X12_both 58) (fun _ _ => rfl) ?_
    refine t_ret (op := o_iret) (fe_X12_both 62) (fun _ _ => rfl) ?_
    exact ⟨congrArg (fun x => some (Value.int x)) (Eq.symm (if_neg c1)), rfl⟩
theorem r_both_8 {d : Nat} {k : AHP} {x y : Int32} : MM d 195 [.int (8), .int x, .int y] k (fun v h2 => v = some (.int (if x = y then 1 else 0)) ∧ h2 = k) := by
  refine ⟨Nat.le_of_ble_eq_true rfl, ?_⟩
  refine t_go (op := o_iload 1 0) (fe_X12_both 0) (fun _ _ => rfl) ?_
  refine t_go (op := o_sw (swT 4 [40, 44, 48, 52, 63, 74] 88)) (fe_X12_both 1) (fun _ _ => rfl) ?_
  rw [show swT 4 [40, 44, 48, 52, 63, 74] 88 (8 : Int32) = 63 by decide +kernel]
  refine t_go (op := o_iload 64 1) (fe_X12_both 63) (fun _ _ => rfl) ?_
  refine t_go (op := o_iload 65 2) (fe_X12_both 64) (fun _ _ => rfl) ?_
  refine t_ite (op := o_icmp 72 68 (fun x y => x = y) (fun _ _ => inferInstance)) (fe_X12_both 65) g_icmp (fun c1 => ?_) (fun c1 => ?_)
  · refine t_go (op := o_ci 69 1) (fe_X12_both 68) (fun _ _ => rfl) ?_
    refine t_go (op := o_goto 73) (fe_X12_both 69) (fun _ _ => rfl) ?_
    refine t_ret (op := o_iret) (fe_X12_both 73) (fun _ _ => rfl) ?_
    exact ⟨congrArg (fun x => some (Value.int x)) (Eq.symm (if_pos c1)), rfl⟩
  · refine t_go (op := o_ci 73 0) (fe_X12_both 72) (fun _ _ => rfl) ?_
    refine t_ret (op := o_iret) (fe_X12_both 73) (fun _ _ => rfl) ?_
    exact ⟨congrArg (fun x => some (Value.int x)) (Eq.symm (if_neg c1)), rfl⟩
theorem r_both_9 {d : Nat} {k : AHP} {x y : Int32} : MM d 195 [.int (9), .int x, .int y] k (fun v h2 => v = some (.int (if x = 0 then 0 else if y = 0 then 0 else 1)) ∧ h2 = k) := by
  refine ⟨Nat.le_of_ble_eq_true rfl, ?_⟩
  refine t_go (op := o_iload 1 0) (fe_X12_both 0) (fun _ _ => rfl) ?_
  refine t_go (op := o_sw (swT 4 [40, 44, 48, 52, 63, 74] 88)) (fe_X12_both 1) (fun _ _ => rfl) ?_
  rw [show swT 4 [40, 44, 48, 52, 63, 74] 88 (9 : Int32) = 74 by decide +kernel]
  refine t_go (op := o_iload 75 1) (fe_X12_both 74) (fun _ _ => rfl) ?_
  refine t_ite (op := o_if 78 86 (fun x => x = 0) (fun _ => inferInstance)) (fe_X12_both 75) g_if (fun c1 => ?_) (fun c1 => ?_)
  · refine t_go (op := o_ci 87 0) (fe_X12_both 86) (fun _ _ => rfl) ?_
    refine t_ret (op := o_iret) (fe_X12_both 87) (fun _ _ => rfl) ?_
    exact ⟨congrArg (fun x => some (Value.int x)) (Eq.symm (if_pos c1)), rfl⟩
  · refine t_go (op := o_iload 79 2) (fe_X12_both 78) (fun _ _ => rfl) ?_
    refine t_ite (op := o_if 82 86 (fun x => x = 0) (fun _ => inferInstance)) (fe_X12_both 79) g_if (fun c2 => ?_) (fun c2 => ?_)
    · refine t_go (op := o_ci 87 0) (fe_X12_both 86) (fun _ _ => rfl) ?_
      refine t_ret (op := o_iret) (fe_X12_both 87) (fun _ _ => rfl) ?_
      exact ⟨congrArg (fun x => some (Value.int x)) (Eq.symm (Eq.trans (if_neg c1) (if_pos c2))), rfl⟩
    · refine t_go (op := o_ci 83 1) (fe_X12_both 82) (fun _ _ => rfl) ?_
      refine t_go (op := o_goto 87) (fe_X12_both 83) (fun _ _ => rfl) ?_
      refine t_ret (op := o_iret) (fe_X12_both 87) (fun _ _ => rfl) ?_
      exact ⟨congrArg (fun x => some (Value.int x)) (Eq.symm (Eq.trans (if_neg c1) (if_neg c2))), rfl⟩
theorem r_both_10 {d : Nat} {k : AHP} {x y : Int32} : MM d 195 [.int (10), .int x, .int y] k (fun v h2 => v = some (.int (if x = 0 then (if y = 0 then 0 else 1) else 1)) ∧ h2 = k) := by
  refine ⟨Nat.le_of_ble_eq_true rfl, ?_⟩
  refine t_go (op := o_iload 1 0) (fe_X12_both 0) (fun _ _ => rfl) ?_
  refine t_go (op := o_sw (swT 4 [40, 44, 48, 52, 63, 74] 88)) (fe_X12_both 1) (fun _ _ => rfl) ?_
  rw [show swT 4 [40, 44, 48, 52, 63, 74] 88 (10 : Int32) = 88 by decide +kernel]
  refine t_go (op := o_iload 89 1) (fe_X12_both 88) (fun _ _ => rfl) ?_
  refine t_ite (op := o_if 96 92 (fun x => x = 0) (fun _ => inferInstance)) (fe_X12_both 89) g_if (fun c1 => ?_) (fun c1 => ?_)
  · refine t_go (op := o_iload 93 2) (fe_X12_both 92) (fun _ _ => rfl) ?_
    refine t_ite (op := o_if 96 100 (fun x => x = 0) (fun _ => inferInstance)) (fe_X12_both 93) g_if (fun c2 => ?_) (fun c2 => ?_)
    · refine t_go (op := o_ci 101 0) (fe_X12_both 100) (fun _ _ => rfl) ?_
      refine t_ret (op := o_iret) (fe_X12_both 101) (fun _ _ => rfl) ?_
      exact ⟨congrArg (fun x => some (Value.int x)) (Eq.symm (Eq.trans (if_pos c1) (if_pos c2))), rfl⟩
    · refine t_go (op := o_ci 97 1) (fe_X12_both 96) (fun _ _ => rfl) ?_
      refine t_go (op := o_goto 101) (fe_X12_both 97) (fun _ _ => rfl) ?_
      refine t_ret (op := o_iret) (fe_X12_both 101) (fun _ _ => rfl) ?_
      exact ⟨congrArg (fun x => some (Value.int x)) (Eq.symm (Eq.trans (if_pos c1) (if_neg c2))), rfl⟩
  · refine t_go (op := o_ci 97 1) (fe_X12_both 96) (fun _ _ => rfl) ?_
    refine t_go (op := o_goto 101) (fe_X12_both 97) (fun _ _ => rfl) ?_
    refine t_ret (op := o_iret) (fe_X12_both 101) (fun _ _ => rfl) ?_
    exact ⟨congrArg (fun x => some (Value.int x)) (Eq.symm (if_neg c1)), rfl⟩
theorem r_both {d : Nat} {k : AHP} {st op x y : Int32} (hc : (st, op) ∈ codeB) : MM d 195 [.int op, .int x, .int y] k (fun v h2 => v = some (.int (joinV st x y)) ∧ h2 = k) := by
  unfold codeB at hc
  simp only [List.mem_cons, Prod.mk.injEq, List.not_mem_nil, or_false] at hc
  rcases hc with ⟨rfl, rfl⟩ | ⟨rfl, rfl⟩ | ⟨rfl, rfl⟩ | ⟨rfl, rfl⟩ | ⟨rfl, rfl⟩ | ⟨rfl, rfl⟩ | ⟨rfl, rfl⟩
  · exact r_both_4
  · exact r_both_5
  · exact r_both_6
  · exact r_both_7
  · exact r_both_8
  · exact r_both_9
  · exact r_both_10
theorem w_num {d : Nat} {k : AHP} {r : Nat → Int32} {y1 : Int32} {x4 : Option Value} {i t : Nat} {Q : Option Value → AHP → Prop} (hS : Std k) (hi : i < 2200) (h1 : k.1 190 i = 1) (ht : t < 24) (hq : ∀ x4, TT (d + 1) 194 4 [some (.ref 183), some (.int y1), some (.int (nI (t + 1))), some (.int (nI (i + 1))), x4] [] (rowI k 196 (fup r t (k.1 191 i))) Q) : TT (d + 1) 194 4 [some (.ref 183), some (.int y1), some (.int (nI t)), some (.int (nI i)), x4] [] (rowI k 196 r) Q := by
  refine t_go (op := o_aload 5 0) (fe_X12_worthAt 4) (fun _ _ => rfl) ?_
  refine t_go (op := o_getR 8 11 11) (fe_X12_worthAt 5) (g_getR hS (show (lay 183).1 = 11 by decide) (by decide) (fr_11_11 hS) (by decide)) ?_
  refine t_go (op := o_iload 9 3) (fe_X12_worthAt 8) (fun _ _ => rfl) ?_
  refine t_go (op := o_iald 10) (fe_X12_worthAt 9) (g_ialdN hS (show lay 190 = (20, 2200) by decide) rfl (by omega) (by decide)) ?_
  rw [show (rowI k 196 r).1 190 i = 1 from h1]
  refine t_ite (op := o_if 13 140 (fun x => x = 0) (fun _ => inferInstance)) (fe_X12_worthAt 10) g_if (fun c1 => ?_) (fun c1 => ?_)
  · exact absurd c1 (by decide)
  · clear c1
    refine t_go (op := o_aload 14 0) (fe_X12_worthAt 13) (fun _ _ => rfl) ?_
    refine t_go (op := o_getR 17 11 11) (fe_X12_worthAt 14) (g_getR hS (show (lay 183).1 = 11 by decide) (by decide) (fr_11_11 hS) (by decide)) ?_
    refine t_go (op := o_iload 18 3) (fe_X12_worthAt 17) (fun _ _ => rfl) ?_
    refine t_go (op := o_iald 19) (fe_X12_worthAt 18) (g_ialdN hS (show lay 190 = (20, 2200) by decide) rfl (by omega) (by decide)) ?_
    rw [show (rowI k 196 r).1 190 i = 1 from h1]
    refine t_go (op := o_istore 21 4) (fe_X12_worthAt 19) (fun _ _ => rfl) ?_
    refine t_go (op := o_iload 23 4) (fe_X12_worthAt 21) (fun _ _ => rfl) ?_
    refine t_go (op := o_ci 24 1) (fe_X12_worthAt 23) (fun _ _ => rfl) ?_
    refine t_ite (op := o_icmp 27 33 (fun x y => x = y) (fun _ _ => inferInstance)) (fe_X12_worthAt 24) g_icmp (fun c2 => ?_) (fun c2 => ?_)
    · clear c2
      refine t_go (op := o_aload 34 0) (fe_X12_worthAt 33) (fun _ _ => rfl) ?_
      refine t_go (op := o_getR 37 11 21) (fe_X12_worthAt 34) (g_getR hS (show (lay 183).1 = 11 by decide) (by decide) (fr_11_21 hS) (by decide)) ?_
      refine t_go (op := o_iload 38 2) (fe_X12_worthAt 37) (fun _ _ => rfl) ?_
      refine t_go (op := o_iload 40 4) (fe_X12_worthAt 38) (fun _ _ => rfl) ?_
      refine t_go (op := o_ci 41 1) (fe_X12_worthAt 40) (fun _ _ => rfl) ?_
      refine t_ite (op := o_icmp 53 44 (fun x y => x = y) (fun _ _ => inferInstance)) (fe_X12_worthAt 41) g_icmp (fun c3 => ?_) (fun c3 => ?_)
      · clear c3
        refine t_go (op := o_aload 45 0) (fe_X12_worthAt 44) (fun _ _ => rfl) ?_
        refine t_go (op := o_getR 48 11 12) (fe_X12_worthAt 45) (g_getR hS (show (lay 183).1 = 11 by decide) (by decide) (fr_11_12 hS) (by decide)) ?_
        refine t_go (op := o_iload 49 3) (fe_X12_worthAt 48) (fun _ _ => rfl) ?_
        refine t_go (op := o_iald 50) (fe_X12_worthAt 49) (g_ialdN hS (show lay 191 = (20, 2200) by decide) rfl (by omega) (by decide)) ?_
        refine t_go (op := o_goto 64) (fe_X12_worthAt 50) (fun _ _ => rfl) ?_
        refine t_go (op := o_iast 65) (fe_X12_worthAt 64) (g_iastN hS (show lay 196 = (20, 1100) by decide) rfl (by omega) (by decide)) ?_
        refine t_go (op := o_iinc 68 2 1) (fe_X12_worthAt 65) (fun _ _ => rfl) ?_
        refine t_go (op := o_goto 134) (fe_X12_worthAt 68) (fun _ _ => rfl) ?_
        refine t_go (op := o_iinc 137 3 1) (fe_X12_worthAt 134) (fun _ _ => rfl) ?_
        refine t_go (op := o_goto 4) (fe_X12_worthAt 137) (fun _ _ => rfl) ?_
        rw [rowI_up]
        rw [nI_1]
        rw [nI_1]
        exact hq _
      · exact absurd (by decide) c3
    · exact absurd (by decide) c2
theorem w_fact {d : Nat} {k : AHP} {r : Nat → Int32} {y1 : Int32} {x4 : Option Value} {i t : Nat} {Q : Option Value → AHP → Prop} (hS : Std k) (hi : i < 2200) (h1 : k.1 190 i = 2) (ht : t < 24) {f : Nat} (hf : f < 4) (h2 : k.1 191 i = nI f) (hq : ∀ x4, TT (d + 1) 194 4 [some (.ref 183), some (.int y1), some (.int (nI (t + 1))), some (.int (nI (i + 1))), x4] [] (rowI k 196 (fup r t (k.1 195 f))) Q) : TT (d + 1) 194 4 [some (.ref 183), some (.int y1), some (.int (nI t)), some (.int (nI i)), x4] [] (rowI k 196 r) Q := by
  refine t_go (op := o_aload 5 0) (fe_X12_worthAt 4) (fun _ _ => rfl) ?_
  refine t_go (op := o_getR 8 11 11) (fe_X12_worthAt 5) (g_getR hS (show (lay 183).1 = 11 by decide) (by decide) (fr_11_11 hS) (by decide)) ?_
  refine t_go (op := o_iload 9 3) (fe_X12_worthAt 8) (fun _ _ => rfl) ?_
  refine t_go (op := o_iald 10) (fe_X12_worthAt 9) (g_ialdN hS (show lay 190 = (20, 2200) by decide) rfl (by omega) (by decide)) ?_
  rw [show (rowI k 196 r).1 190 i = 2 from h1]
  refine t_ite (op := o_if 13 140 (fun x => x = 0) (fun _ => inferInstance)) (fe_X12_worthAt 10) g_if (fun c1 => ?_) (fun c1 => ?_)
  · exact absurd c1 (by decide)
  · clear c1
    refine t_go (op := o_aload 14 0) (fe_X12_worthAt 13) (fun _ _ => rfl) ?_
    refine t_go (op := o_getR 17 11 11) (fe_X12_worthAt 14) (g_getR hS (show (lay 183).1 = 11 by decide) (by decide) (fr_11_11 hS) (by decide)) ?_
    refine t_go (op := o_iload 18 3) (fe_X12_worthAt 17) (fun _ _ => rfl) ?_
    refine t_go (op := o_iald 19) (fe_X12_worthAt 18) (g_ialdN hS (show lay 190 = (20, 2200) by decide) rfl (by omega) (by decide)) ?_
    rw [show (rowI k 196 r).1 190 i = 2 from h1]
    refine t_go (op := o_istore 21 4) (fe_X12_worthAt 19) (fun _ _ => rfl) ?_
    refine t_go (op := o_iload 23 4) (fe_X12_worthAt 21) (fun _ _ => rfl) ?_
    refine t_go (op := o_ci 24 1) (fe_X12_worthAt 23) (fun _ _ => rfl) ?_
    refine t_ite (op := o_icmp 27 33 (fun x y => x = y) (fun _ _ => inferInstance)) (fe_X12_worthAt 24) g_icmp (fun c2 => ?_) (fun c2 => ?_)
    · exact absurd c2 (by decide)
    · clear c2
      refine t_go (op := o_iload 29 4) (fe_X12_worthAt 27) (fun _ _ => rfl) ?_
      refine t_go (op := o_ci 30 2) (fe_X12_worthAt 29) (fun _ _ => rfl) ?_
      refine t_ite (op := o_icmp 71 33 (fun x y => x = y) (fun _ _ => inferInstance)) (fe_X12_worthAt 30) g_icmp (fun c3 => ?_) (fun c3 => ?_)
      · clear c3
        refine t_go (op := o_aload 34 0) (fe_X12_worthAt 33) (fun _ _ => rfl) ?_
        refine t_go (op := o_getR 37 11 21) (fe_X12_worthAt 34) (g_getR hS (show (lay 183).1 = 11 by decide) (by decide) (fr_11_21 hS) (by decide)) ?_
        refine t_go (op := o_iload 38 2) (fe_X12_worthAt 37) (fun _ _ => rfl) ?_
        refine t_go (op := o_iload 40 4) (fe_X12_worthAt 38) (fun _ _ => rfl) ?_
        refine t_go (op := o_ci 41 1) (fe_X12_worthAt 40) (fun _ _ => rfl) ?_
        refine t_ite (op := o_icmp 53 44 (fun x y => x = y) (fun _ _ => inferInstance)) (fe_X12_worthAt 41) g_icmp (fun c4 => ?_) (fun c4 => ?_)
        · exact absurd c4 (by decide)
        · clear c4
          refine t_go (op := o_aload 54 0) (fe_X12_worthAt 53) (fun _ _ => rfl) ?_
          refine t_go (op := o_getR 57 11 20) (fe_X12_worthAt 54) (g_getR hS (show (lay 183).1 = 11 by decide) (by decide) (fr_11_20 hS) (by decide)) ?_
          refine t_go (op := o_aload 58 0) (fe_X12_worthAt 57) (fun _ _ => rfl) ?_
          refine t_go (op := o_getR 61 11 12) (fe_X12_worthAt 58) (g_getR hS (show (lay 183).1 = 11 by decide) (by decide) (fr_11_12 hS) (by decide)) ?_
          refine t_go (op := o_iload 62 3) (fe_X12_worthAt 61) (fun _ _ => rfl) ?_
          refine t_go (op := o_iald 63) (fe_X12_worthAt 62) (g_ialdN hS (show lay 191 = (20, 2200) by decide) rfl (by omega) (by decide)) ?_
          rw [show (rowI k 196 r).1 191 i = nI f from h2]
          refine t_go (op := o_iald 64) (fe_X12_worthAt 63) (g_ialdN hS (show lay 195 = (20, 4) by decide) rfl (by omega) (by decide)) ?_
          refine t_go (op := o_iast 65) (fe_X12_worthAt 64) (g_iastN hS (show lay 196 = (20, 1100) by decide) rfl (by omega) (by decide)) ?_
          refine t_go (op := o_iinc 68 2 1) (fe_X12_worthAt 65) (fun _ _ => rfl) ?_
          refine t_go (op := o_goto 134) (fe_X12_worthAt 68) (fun _ _ => rfl) ?_
          refine t_go (op := o_iinc 137 3 1) (fe_X12_worthAt 134) (fun _ _ => rfl) ?_
          refine t_go (op := o_goto 4) (fe_X12_worthAt 137) (fun _ _ => rfl) ?_
          rw [rowI_up]
          rw [nI_1]
          rw [nI_1]
          exact hq _
      · exact absurd (by decide) c3
theorem w_not {d : Nat} {k : AHP} {r : Nat → Int32} {y1 : Int32} {x4 : Option Value} {i t : Nat} {Q : Option Value → AHP → Prop} (hS : Std k) (hi : i < 2200) (h1 : k.1 190 i = 3) (ht : 1 ≤ t) (ht2 : t ≤ 24) (hq : ∀ x4, TT (d + 1) 194 4 [some (.ref 183), some (.int y1), some (.int (nI t)), some (.int (nI (i + 1))), x4] [] (rowI k 196 (fup r (t - 1) (if r (t - 1) = 0 then 1 else 0))) Q) : TT (d + 1) 194 4 [some (.ref 183), some (.int y1), some (.int (nI t)), some (.int (nI i)), x4] [] (rowI k 196 r) Q := by
  refine t_go (op := o_aload 5 0) (fe_X12_worthAt 4) (fun _ _ => rfl) ?_
  refine t_go (op := o_getR 8 11 11) (fe_X12_worthAt 5) (g_getR hS (show (lay 183).1 = 11 by decide) (by decide) (fr_11_11 hS) (by decide)) ?_
  refine t_go (op := o_iload 9 3) (fe_X12_worthAt 8) (fun _ _ => rfl) ?_
  refine t_go (op := o_iald 10) (fe_X12_worthAt 9) (g_ialdN hS (show lay 190 = (20, 2200) by decide) rfl (by omega) (by decide)) ?_
  rw [show (rowI k 196 r).1 190 i = 3 from h1]
  refine t_ite (op := o_if 13 140 (fun x => x = 0) (fun _ => inferInstance)) (fe_X12_worthAt 10) g_if (fun c1 => ?_) (fun c1 => ?_)
  · exact absurd c1 (by decide)
  · clear c1
    refine t_go (op := o_aload 14 0) (fe_X12_worthAt 13) (fun _ _ => rfl) ?_
    refine t_go (op := o_getR 17 11 11) (fe_X12_worthAt 14) (g_getR hS (show (lay 183).1 = 11 by decide) (by decide) (fr_11_11 hS) (by decide)) ?_
    refine t_go (op := o_iload 18 3) (fe_X12_worthAt 17) (fun _ _ => rfl) ?_
    refine t_go (op := o_iald 19) (fe_X12_worthAt 18) (g_ialdN hS (show lay 190 = (20, 2200) by decide) rfl (by omega) (by decide)) ?_
    rw [show (rowI k 196 r).1 190 i = 3 from h1]
    refine t_go (op := o_istore 21 4) (fe_X12_worthAt 19) (fun _ _ => rfl) ?_
    refine t_go (op := o_iload 23 4) (fe_X12_worthAt 21) (fun _ _ => rfl) ?_
    refine t_go (op := o_ci 24 1) (fe_X12_worthAt 23) (fun _ _ => rfl) ?_
    refine t_ite (op := o_icmp 27 33 (fun x y => x = y) (fun _ _ => inferInstance)) (fe_X12_worthAt 24) g_icmp (fun c2 => ?_) (fun c2 => ?_)
    · exact absurd c2 (by decide)
    · clear c2
      refine t_go (op := o_iload 29 4) (fe_X12_worthAt 27) (fun _ _ => rfl) ?_
      refine t_go (op := o_ci 30 2) (fe_X12_worthAt 29) (fun _ _ => rfl) ?_
      refine t_ite (op := o_icmp 71 33 (fun x y => x = y) (fun _ _ => inferInstance)) (fe_X12_worthAt 30) g_icmp (fun c3 => ?_) (fun c3 => ?_)
      · exact absurd c3 (by decide)
      · clear c3
        refine t_go (op := o_iload 73 4) (fe_X12_worthAt 71) (fun _ _ => rfl) ?_
        refine t_go (op := o_ci 74 3) (fe_X12_worthAt 73) (fun _ _ => rfl) ?_
        refine t_ite (op := o_icmp 104 77 (fun x y => x = y) (fun _ _ => inferInstance)) (fe_X12_worthAt 74) g_icmp (fun c4 => ?_) (fun c4 => ?_)
        · clear c4
          refine t_go (op := o_aload 78 0) (fe_X12_worthAt 77) (fun _ _ => rfl) ?_
          refine t_go (op := o_getR 81 11 21) (fe_X12_worthAt 78) (g_getR hS (show (lay 183).1 = 11 by decide) (by decide) (fr_11_21 hS) (by decide)) ?_
          refine t_go (op := o_iload 82 2) (fe_X12_worthAt 81) (fun _ _ => rfl) ?_
          refine t_go (op := o_ci 83 1) (fe_X12_worthAt 82) (fun _ _ => rfl) ?_
          refine t_go (op := o_i2 84 (fun x y => x - y)) (fe_X12_worthAt 83) (fun _ _ => rfl) ?_
          refine t_go (op := o_aload 85 0) (fe_X12_worthAt 84) (fun _ _ => rfl) ?_
          refine t_go (op := o_getR 88 11 21) (fe_X12_worthAt 85) (g_getR hS (show (lay 183).1 = 11 by decide) (by decide) (fr_11_21 hS) (by decide)) ?_
          refine t_go (op := o_iload 89 2) (fe_X12_worthAt 88) (fun _ _ => rfl) ?_
          refine t_go (op := o_ci 90 1) (fe_X12_worthAt 89) (fun _ _ => rfl) ?_
          refine t_go (op := o_i2 91 (fun x y => x - y)) (fe_X12_worthAt 90) (fun _ _ => rfl) ?_
          refine t_go (op := o_iald 92) (fe_X12_worthAt 91) (g_ialdN hS (show lay 196 = (20, 1100) by decide) (nIs rfl (nIl 1) (by omega)) (by omega) (by decide)) ?_
          rw [rowI_at]
          refine t_ite (op := o_if 99 95 (fun x => x = 0) (fun _ => inferInstance)) (fe_X12_worthAt 92) g_if (fun c5 => ?_) (fun c5 => ?_)
          · rw [if_pos c5] at hq
            refine t_go (op := o_ci 96 1) (fe_X12_worthAt 95) (fun _ _ => rfl) ?_
            refine t_go (op := o_goto 100) (fe_X12_worthAt 96) (fun _ _ => rfl) ?_
            refine t_go (op := o_iast 101) (fe_X12_worthAt 100) (g_iastN hS (show lay 196 = (20, 1100) by decide) (nIs rfl (nIl 1) (by omega)) (by omega) (by decide)) ?_
            refine t_go (op := o_goto 134) (fe_X12_worthAt 101) (fun _ _ => rfl) ?_
            refine t_go (op := o_iinc 137 3 1) (fe_X12_worthAt 134) (fun _ _ => rfl) ?_
            refine t_go (op := o_goto 4) (fe_X12_worthAt 137) (fun _ _ => rfl) ?_
            rw [rowI_up]
            rw [nI_1]
            exact hq _
          · rw [if_neg c5] at hq
            refine t_go (op := o_ci 100 0) (fe_X12_worthAt 99) (fun _ _ => rfl) ?_
            refine t_go (op := o_iast 101) (fe_X12_worthAt 100) (g_iastN hS (show lay 196 = (20, 1100) by decide) (nIs rfl (nIl 1) (by omega)) (by omega) (by decide)) ?_
            refine t_go (op := o_goto 134) (fe_X12_worthAt 101) (fun _ _ => rfl) ?_
            refine t_go (op := o_iinc 137 3 1) (fe_X12_worthAt 134) (fun _ _ => rfl) ?_
            refine t_go (op := o_goto 4) (fe_X12_worthAt 137) (fun _ _ => rfl) ?_
            rw [rowI_up]
            rw [nI_1]
            exact hq _
        · exact absurd (by decide) c4
theorem cb {st op : Int32} (hc : (st, op) ∈ codeB) : ¬ op = 0 ∧ ¬ op = 1 ∧ ¬ op = 2 ∧ ¬ op = 3 := by
  have : ∀ q ∈ codeB, ¬ q.2 = 0 ∧ ¬ q.2 = 1 ∧ ¬ q.2 = 2 ∧ ¬ q.2 = 3 := by decide +kernel
  exact this _ hc
theorem w_bin {d : Nat} {k : AHP} {r : Nat → Int32} {y1 : Int32} {x4 : Option Value} {i t : Nat} {Q : Option Value → AHP → Prop} (hS : Std k) (hi : i < 2200) {st op : Int32} (h1 : k.1 190 i = op) (hc : (st, op) ∈ codeB) (ht : 2 ≤ t) (ht2 : t ≤ 24) (hq : ∀ x4, TT (d + 1) 194 4 [some (.ref 183), some (.int y1), some (.int (nI (t - 1))), some (.int (nI (i + 1))), x4] [] (rowI k 196 (fup r (t - 1 - 1) (joinV st (r (t - 1 - 1)) (r (t - 1))))) Q) : TT (d + 1) 194 4 [some (.ref 183), some (.int y1), some (.int (nI t)), some (.int (nI i)), x4] [] (rowI k 196 r) Q := by
  refine t_go (op := o_aload 5 0) (fe_X12_worthAt 4) (fun _ _ => rfl) ?_
  refine t_go (op := o_getR 8 11 11) (fe_X12_worthAt 5) (g_getR hS (show (lay 183).1 = 11 by decide) (by decide) (fr_11_11 hS) (by decide)) ?_
  refine t_go (op := o_iload 9 3) (fe_X12_worthAt 8) (fun _ _ => rfl) ?_
  refine t_go (op := o_iald 10) (fe_X12_worthAt 9) (g_ialdN hS (show lay 190 = (20, 2200) by decide) rfl (by omega) (by decide)) ?_
  rw [show (rowI k 196 r).1 190 i = op from h1]
  refine t_ite (op := o_if 13 140 (fun x => x = 0) (fun _ => inferInstance)) (fe_X12_worthAt 10) g_if (fun c1 => ?_) (fun c1 => ?_)
  · exact absurd c1 (cb hc).1
  · refine t_go (op := o_aload 14 0) (fe_X12_worthAt 13) (fun _ _ => rfl) ?_
    refine t_go (op := o_getR 17 11 11) (fe_X12_worthAt 14) (g_getR hS (show (lay 183).1 = 11 by decide) (by decide) (fr_11_11 hS) (by decide)) ?_
    refine t_go (op := o_iload 18 3) (fe_X12_worthAt 17) (fun _ _ => rfl) ?_
    refine t_go (op := o_iald 19) (fe_X12_worthAt 18) (g_ialdN hS (show lay 190 = (20, 2200) by decide) rfl (by omega) (by decide)) ?_
    rw [show (rowI k 196 r).1 190 i = op from h1]
    refine t_go (op := o_istore 21 4) (fe_X12_worthAt 19) (fun _ _ => rfl) ?_
    refine t_go (op := o_iload 23 4) (fe_X12_worthAt 21) (fun _ _ => rfl) ?_
    refine t_go (op := o_ci 24 1) (fe_X12_worthAt 23) (fun _ _ => rfl) ?_
    refine t_ite (op := o_icmp 27 33 (fun x y => x = y) (fun _ _ => inferInstance)) (fe_X12_worthAt 24) g_icmp (fun c2 => ?_) (fun c2 => ?_)
    · exact absurd c2 (cb hc).2.1
    · refine t_go (op := o_iload 29 4) (fe_X12_worthAt 27) (fun _ _ => rfl) ?_
      refine t_go (op := o_ci 30 2) (fe_X12_worthAt 29) (fun _ _ => rfl) ?_
      refine t_ite (op := o_icmp 71 33 (fun x y => x = y) (fun _ _ => inferInstance)) (fe_X12_worthAt 30) g_icmp (fun c3 => ?_) (fun c3 => ?_)
      · exact absurd c3 (cb hc).2.2.1
      · refine t_go (op := o_iload 73 4) (fe_X12_worthAt 71) (fun _ _ => rfl) ?_
        refine t_go (op := o_ci 74 3) (fe_X12_worthAt 73) (fun _ _ => rfl) ?_
        refine t_ite (op := o_icmp 104 77 (fun x y => x = y) (fun _ _ => inferInstance)) (fe_X12_worthAt 74) g_icmp (fun c4 => ?_) (fun c4 => ?_)
        · exact absurd c4 (cb hc).2.2.2
        · refine t_go (op := o_iinc 107 2 (-1)) (fe_X12_worthAt 104) (fun _ _ => rfl) ?_
          refine t_go (op := o_aload 108 0) (fe_X12_worthAt 107) (fun _ _ => rfl) ?_
          refine t_go (op := o_getR 111 11 21) (fe_X12_worthAt 108) (g_getR hS (show (lay 183).1 = 11 by decide) (by decide) (fr_11_21 hS) (by decide)) ?_
          refine t_go (op := o_iload 112 2) (fe_X12_worthAt 111) (fun _ _ => rfl) ?_
          refine t_go (op := o_ci 113 1) (fe_X12_worthAt 112) (fun _ _ => rfl) ?_
          refine t_go (op := o_i2 114 (fun x y => x - y)) (fe_X12_worthAt 113) (fun _ _ => rfl) ?_
          refine t_go (op := o_iload 116 4) (fe_X12_worthAt 114) (fun _ _ => rfl) ?_
          refine t_go (op := o_aload 117 0) (fe_X12_worthAt 116) (fun _ _ => rfl) ?_
          refine t_go (op := o_getR 120 11 21) (fe_X12_worthAt 117) (g_getR hS (show (lay 183).1 = 11 by decide) (by decide) (fr_11_21 hS) (by decide)) ?_
          refine t_go (op := o_iload 121 2) (fe_X12_worthAt 120) (fun _ _ => rfl) ?_
          refine t_go (op := o_ci 122 1) (fe_X12_worthAt 121) (fun _ _ => rfl) ?_
          refine t_go (op := o_i2 123 (fun x y => x - y)) (fe_X12_worthAt 122) (fun _ _ => rfl) ?_
          refine t_go (op := o_iald 124) (fe_X12_worthAt 123) (g_ialdN hS (show lay 196 = (20, 1100) by decide) (nIs (nId rfl (by omega)) (nIl 1) (by omega)) (by omega) (by decide)) ?_
          rw [rowI_at]
          refine t_go (op := o_aload 125 0) (fe_X12_worthAt 124) (fun _ _ => rfl) ?_
          refine t_go (op := o_getR 128 11 21) (fe_X12_worthAt 125) (g_getR hS (show (lay 183).1 = 11 by decide) (by decide) (fr_11_21 hS) (by decide)) ?_
          refine t_go (op := o_iload 129 2) (fe_X12_worthAt 128) (fun _ _ => rfl) ?_
          refine t_go (op := o_iald 130) (fe_X12_worthAt 129) (g_ialdN hS (show lay 196 = (20, 1100) by decide) (nId rfl (by omega)) (by omega) (by decide)) ?_
          rw [rowI_at]
          refine t_call (op := o_callS 133 195 3) (fe_X12_worthAt 130) (g_callS rfl rfl rfl (Nat.le_of_ble_eq_true rfl)) ?_
          refine M_eq (r_both hc) ?_
          refine t_go (op := o_iast 134) (fe_X12_worthAt 133) (g_iastN hS (show lay 196 = (20, 1100) by decide) (nIs (nId rfl (by omega)) (nIl 1) (by omega)) (by omega) (by decide)) ?_
          refine t_go (op := o_iinc 137 3 1) (fe_X12_worthAt 134) (fun _ _ => rfl) ?_
          refine t_go (op := o_goto 4) (fe_X12_worthAt 137) (fun _ _ => rfl) ?_
          rw [rowI_up]
          rw [nId rfl (show 1 ≤ t by omega)]
          rw [nI_1]
          exact hq _
theorem w_end {d : Nat} {k : AHP} {r : Nat → Int32} {y1 : Int32} {x4 : Option Value} {i t : Nat} {Q : Option Value → AHP → Prop} (hS : Std k) (hi : i < 2200) (h1 : k.1 190 i = 0) (hq : Q (some (.int (r 0))) (rowI k 196 r)) : TT (d + 1) 194 4 [some (.ref 183), some (.int y1), some (.int (nI t)), some (.int (nI i)), x4] [] (rowI k 196 r) Q := by
  refine t_go (op := o_aload 5 0) (fe_X12_worthAt 4) (fun _ _ => rfl) ?_
  refine t_go (op := o_getR 8 11 11) (fe_X12_worthAt 5) (g_getR hS (show (lay 183).1 = 11 by decide) (by decide) (fr_11_11 hS) (by decide)) ?_
  refine t_go (op := o_iload 9 3) (fe_X12_worthAt 8) (fun _ _ => rfl) ?_
  refine t_go (op := o_iald 10) (fe_X12_worthAt 9) (g_ialdN hS (show lay 190 = (20, 2200) by decide) rfl (by omega) (by decide)) ?_
  rw [show (rowI k 196 r).1 190 i = 0 from h1]
  refine t_ite (op := o_if 13 140 (fun x => x = 0) (fun _ => inferInstance)) (fe_X12_worthAt 10) g_if (fun c1 => ?_) (fun c1 => ?_)
  · clear c1
    refine t_go (op := o_aload 141 0) (fe_X12_worthAt 140) (fun _ _ => rfl) ?_
    refine t_go (op := o_getR 144 11 21) (fe_X12_worthAt 141) (g_getR hS (show (lay 183).1 = 11 by decide) (by decide) (fr_11_21 hS) (by decide)) ?_
    refine t_go (op := o_ci 145 0) (fe_X12_worthAt 144) (fun _ _ => rfl) ?_
    refine t_go (op := o_iald 146) (fe_X12_worthAt 145) (g_ialdN hS (show lay 196 = (20, 1100) by decide) (nIl 0) (by omega) (by decide)) ?_
    rw [rowI_at]
    refine t_ret (op := o_iret) (fe_X12_worthAt 146) (fun _ _ => rfl) ?_
    exact hq
  · exact absurd (by decide) c1
theorem l_worth {d : Nat} {k : AHP} {st : Nat → Int32} {n : Nat} {y1 : Int32} {Q : Option Value → AHP → Prop} (hS : Std k) (hn : n ≤ 1000) (hW : ∀ i, i < n → okS (st i) (dep st i)) (hC : ∀ i, i < n → codeR (st i) (k.1 190 i) (k.1 191 i)) (h0 : k.1 190 n = 0) : ∀ (j i : Nat) (S : Nat × (Nat → Int32)) (x4 : Option Value), i + j = n → S.1 = dep st i → Q (some (.int ((it (fun i => stpL (st i) (k.1 195)) j i S).2 0))) (rowI k 196 (it (fun i => stpL (st i) (k.1 195)) j i S).2) → TT (d + 1) 194 4 [some (.ref 183), some (.int y1), some (.int (nI S.1)), some (.int (nI i)), x4] [] (rowI k 196 S.2) Q := by
  intro j
  induction j with
  | zero =>
    intro i S x4 hi _ hq
    exact w_end hS (by omega) (by rw [show i = n by omega]; exact h0) hq
  | succ j ih =>
    intro i S x4 hi hs hq
    obtain ⟨t, r⟩ := S
    have hok : okS (st i) t := by rw [show t = dep st i from hs]; exact hW i (by omega)
    have ht : t ≤ 24 := by rw [show t = dep st i from hs]; exact dep_le hW i (by omega)
    have hd : (stpL (st i) (k.1 195) (t, r)).1 = dep st (i + 1) := by rw [dep_1, ← show t = dep st i from hs]; exact stp_dep ht hok
    rw [it_step] at hq
    have hi2 : i < 2200 := by omega
    rcases hC i (by omega) with ⟨h1, h2, h3⟩ | ⟨f, hf, f1, f2, f3, h2, h3⟩ | ⟨h1, h2⟩ | h1
    · obtain ⟨g1, g2⟩ := stp_num (fr := k.1 195) (r := r) h1 hok
      rw [g2] at hq hd
      refine w_num hS hi2 h2 g1 fun x => ?_
      rw [h3]
      exact ih (i + 1) _ x (by omega) hd hq
    · obtain ⟨g1, g2⟩ := stp_fact (fr := k.1 195) (r := r) f1 f2 f3 hok
      rw [g2] at hq hd
      refine w_fact hS hi2 h2 g1 hf h3 fun x => ?_
      exact ih (i + 1) _ x (by omega) hd hq
    · rw [h1] at hok
      obtain ⟨g1, g2⟩ := stp_not (fr := k.1 195) (r := r) ht hok
      rw [h1, g2] at hq hd
      refine w_not hS hi2 h2 g1 ht fun x => ?_
      exact ih (i + 1) _ x (by omega) hd hq
    · obtain ⟨g1, g2⟩ := stp_bin (fr := k.1 195) (r := r) h1 ht hok
      rw [g2] at hq hd
      refine w_bin hS hi2 rfl h1 g1 ht fun x => ?_
      exact ih (i + 1) _ x (by omega) hd hq
theorem r_worthAt {d : Nat} {k : AHP} {st : Nat → Int32} {n : Nat} (hS : Std k) (hn : n ≤ 1000) (h1 : 0 < n) (hW : WFL st n) (hC : ∀ i, i < n → codeR (st i) (k.1 190 i) (k.1 191 i)) (h0 : k.1 190 n = 0) : MM (d + 1) 194 [.ref 183, .int 0] k (fun v h2 => v = some (.int (tellsV st n (fun _ => 0) (fun _ => 0) (k.1 195 0) (k.1 195 1) (k.1 195 2) (k.1 195 3))) ∧ ∃ r, h2 = rowI k 196 r) := by
  refine ⟨Nat.le_of_ble_eq_true rfl, ?_⟩
  refine t_go (op := o_ci 1 0) (fe_X12_worthAt 0) (fun _ _ => rfl) ?_
  refine t_go (op := o_istore 2 2) (fe_X12_worthAt 1) (fun _ _ => rfl) ?_
  refine t_go (op := o_iload 3 1) (fe_X12_worthAt 2) (fun _ _ => rfl) ?_
  refine t_go (op := o_istore 4 3) (fe_X12_worthAt 3) (fun _ _ => rfl) ?_
  have hq := l_worth (d := d) (y1 := 0) (Q := fun v h2 => v = some (.int (tellsV st n (fun _ => 0) (fun _ => 0) (k.1 195 0) (k.1 195 1) (k.1 195 2) (k.1 195 3))) ∧ ∃ r, h2 = rowI k 196 r) hS hn hW.1 hC h0 n 0 (0, k.1 196) none (by omega) rfl ⟨?_, _, rfl⟩
  · rw [rowI_id] at hq
    exact hq
  · rw [tellsV, if_neg (by omega)]
    refine congrArg (fun x => some (Value.int x)) ((law_sim hW.1 (fun z hz => ?_) n (Nat.le_refl _)).2.2 0 (by have := hW.2; omega))
    unfold fact4 fup
    by_cases z3 : z = 3
    · simp [z3]
    · by_cases z2 : z = 2
      · simp [z2]
      · by_cases z1 : z = 1
        · simp [z1]
        · simp [show z = 0 by omega]
