/-! ===== the fires ===== -/
def hasP (h : AHP) (f : Nat) (e : Int32) : Prop := ¬ e < 0 ∧ ¬ 7 ≤ e ∧ ¬ h.1 (f + 1) e.toNatClampNeg < 0 ∧ ¬ 12 ≤ h.1 (f + 1) e.toNatClampNeg
def freeP (h : AHP) (f : Nat) (c : Int32) : Prop := ¬ c < 0 ∧ ¬ 12 ≤ c ∧ h.1 (f + 4) c.toNatClampNeg = -1
theorem m_X1_has {d : Nat} {h : AHP} {f : Nat} {e : Int32} (hS : Std h) (hf : (lay f).1 = 1) : MM d 8 [.ref f, .int e] h (fun v h2 => v = some (.int (b2i (hasP h f e))) ∧ h2 = h) := by
  refine ⟨Nat.le_of_ble_eq_true rfl, ?_⟩
  refine t_go (op := o_iload 1 1) (fe_X1_has 0) (fun _ _ => rfl) ?_
  refine t_ite (op := o_if 4 34 (fun x => x < 0) (fun _ => inferInstance)) (fe_X1_has 1) (fun _ _ => rfl) (fun c1 => ?_) (fun c1 => ?_)
  · refine t_go (op := o_ci 35 0) (fe_X1_has 34) (fun _ _ => rfl) ?_
    refine t_ret (op := o_zret) (fe_X1_has 35) (g_zret (Or.inl rfl)) ?_
    refine ⟨?_, rfl⟩
    first | (rw [b2i_t ⟨‹_›, ‹_›, ‹_›, ‹_›⟩]) | (rw [b2i_f (fun q => by obtain ⟨q1, q2, q3, q4⟩ := q; first | exact q1 ‹_› | exact q2 ‹_› | exact q3 ‹_› | exact q4 ‹_›)])
  · refine t_go (op := o_iload 5 1) (fe_X1_has 4) (fun _ _ => rfl) ?_
    refine t_go (op := o_ci 7 7) (fe_X1_has 5) (fun _ _ => rfl) ?_
    refine t_ite (op := o_icmp 10 34 (fun x y => y ≤ x) (fun _ _ => inferInstance)) (fe_X1_has 7) (fun _ _ => rfl) (fun c2 => ?_) (fun c2 => ?_)
    · refine t_go (op := o_ci 35 0) (fe_X1_has 34) (fun _ _ => rfl) ?_
      refine t_ret (op := o_zret) (fe_X1_has 35) (g_zret (Or.inl rfl)) ?_
      refine ⟨?_, rfl⟩
      first | (rw [b2i_t ⟨‹_›, ‹_›, ‹_›, ‹_›⟩]) | (rw [b2i_f (fun q => by obtain ⟨q1, q2, q3, q4⟩ := q; first | exact q1 ‹_› | exact q2 ‹_› | exact q3 ‹_› | exact q4 ‹_›)])
    · refine t_go (op := o_aload 11 0) (fe_X1_has 10) (fun _ _ => rfl) ?_
      refine t_go (op := o_getR 14 1 0) (fe_X1_has 11) (g_getR hS hf (by decide) (fr_1_0 hS hf) (Nat.succ_pos _)) ?_
      refine t_go (op := o_iload 15 1) (fe_X1_has 14) (fun _ _ => rfl) ?_
      refine t_go (op := o_iald 16) (fe_X1_has 15) (g_iald hS (ly_1_1 hf) (by first | assumption | exact inb_1 ‹_› ‹_› (by decide))) ?_
      refine t_ite (op := o_if 19 34 (fun x => x < 0) (fun _ => inferInstance)) (fe_X1_has 16) (fun _ _ => rfl) (fun c3 => ?_) (fun c3 => ?_)
      · refine t_go (op := o_ci 35 0) (fe_X1_has 34) (fun _ _ => rfl) ?_
        refine t_ret (op := o_zret) (fe_X1_has 35) (g_zret (Or.inl rfl)) ?_
        refine ⟨?_, rfl⟩
        first | (rw [b2i_t ⟨‹_›, ‹_›, ‹_›, ‹_›⟩]) | (rw [b2i_f (fun q => by obtain ⟨q1, q2, q3, q4⟩ := q; first | exact q1 ‹_› | exact q2 ‹_› | exact q3 ‹_› | exact q4 ‹_›)])
      · refine t_go (op := o_aload 20 0) (fe_X1_has 19) (fun _ _ => rfl) ?_
        refine t_go (op := o_getR 23 1 0) (fe_X1_has 20) (g_getR hS hf (by decide) (fr_1_0 hS hf) (Nat.succ_pos _)) ?_
        refine t_go (op := o_iload 24 1) (fe_X1_has 23) (fun _ _ => rfl) ?_
        refine t_go (op := o_iald 25) (fe_X1_has 24) (g_iald hS (ly_1_1 hf) (by first | assumption | exact inb_1 ‹_› ‹_› (by decide))) ?_
        refine t_go (op := o_ci 27 12) (fe_X1_has 25) (fun _ _ => rfl) ?_
        refine t_ite (op := o_icmp 30 34 (fun x y => y ≤ x) (fun _ _ => inferInstance)) (fe_X1_has 27) (fun _ _ => rfl) (fun c4 => ?_) (fun c4 => ?_)
        · refine t_go (op := o_ci 35 0) (fe_X1_has 34) (fun _ _ => rfl) ?_
          refine t_ret (op := o_zret) (fe_X1_has 35) (g_zret (Or.inl rfl)) ?_
          refine ⟨?_, rfl⟩
          first | (rw [b2i_t ⟨‹_›, ‹_›, ‹_›, ‹_›⟩]) | (rw [b2i_f (fun q => by obtain ⟨q1, q2, q3, q4⟩ := q; first | exact q1 ‹_› | exact q2 ‹_› | exact q3 ‹_› | exact q4 ‹_›)])
        · refine t_go (op := o_ci 31 1) (fe_X1_has 30) (fun _ _ => rfl) ?_
          refine t_go (op := o_goto 35) (fe_X1_has 31) (fun _ _ => rfl) ?_
          refine t_ret (op := o_zret) (fe_X1_has 35) (g_zret (Or.inr rfl)) ?_
          refine ⟨?_, rfl⟩
          first | (rw [b2i_t ⟨‹_›, ‹_›, ‹_›, ‹_›⟩]) | (rw [b2i_f (fun q => by obtain ⟨q1, q2, q3, q4⟩ := q; first | exact q1 ‹_› | exact q2 ‹_› | exact q3 ‹_› | exact q4 ‹_›)])
theorem m_X1_isFree {d : Nat} {h : AHP} {f : Nat} {c : Int32} (hS : Std h) (hf : (lay f).1 = 1) : MM d 9 [.ref f, .int c] h (fun v h2 => v = some (.int (b2i (freeP h f c))) ∧ h2 = h) := by
  refine ⟨Nat.le_of_ble_eq_true rfl, ?_⟩
  refine t_go (op := o_iload 1 1) (fe_X1_isFree 0) (fun _ _ => rfl) ?_
  refine t_ite (op := o_if 4 24 (fun x => x < 0) (fun _ => inferInstance)) (fe_X1_isFree 1) (fun _ _ => rfl) (fun c1 => ?_) (fun c1 => ?_)
  · refine t_go (op := o_ci 25 0) (fe_X1_isFree 24) (fun _ _ => rfl) ?_
    refine t_ret (op := o_zret) (fe_X1_isFree 25) (g_zret (Or.inl rfl)) ?_
    refine ⟨?_, rfl⟩
    first | (rw [b2i_t ⟨‹_›, ‹_›, ‹_›⟩]) | (rw [b2i_f (fun q => by obtain ⟨q1, q2, q3⟩ := q; first | exact q1 ‹_› | exact q2 ‹_› | exact absurd q3 ‹_›)])
  · refine t_go (op := o_iload 5 1) (fe_X1_isFree 4) (fun _ _ => rfl) ?_
    refine t_go (op := o_ci 7 12) (fe_X1_isFree 5) (fun _ _ => rfl) ?_
    refine t_ite (op := o_icmp 10 24 (fun x y => y ≤ x) (fun _ _ => inferInstance)) (fe_X1_isFree 7) (fun _ _ => rfl) (fun c2 => ?_) (fun c2 => ?_)
    · refine t_go (op := o_ci 25 0) (fe_X1_isFree 24) (fun _ _ => rfl) ?_
      refine t_ret (op := o_zret) (fe_X1_isFree 25) (g_zret (Or.inl rfl)) ?_
      refine ⟨?_, rfl⟩
      first | (rw [b2i_t ⟨‹_›, ‹_›, ‹_›⟩]) | (rw [b2i_f (fun q => by obtain ⟨q1, q2, q3⟩ := q; first | exact q1 ‹_› | exact q2 ‹_› | exact absurd q3 ‹_›)])
    · refine t_go (op := o_aload 11 0) (fe_X1_isFree 10) (fun _ _ => rfl) ?_
      refine t_go (op := o_getR 14 1 3) (fe_X1_isFree 11) (g_getR hS hf (by decide) (fr_1_3 hS hf) (Nat.succ_pos _)) ?_
      refine t_go (op := o_iload 15 1) (fe_X1_isFree 14) (fun _ _ => rfl) ?_
      refine t_go (op := o_iald 16) (fe_X1_isFree 15) (g_iald hS (ly_1_4 hf) (by first | assumption | exact inb_1 ‹_› ‹_› (by decide))) ?_
      refine t_go (op := o_ci 17 (-1)) (fe_X1_isFree 16) (fun _ _ => rfl) ?_
      refine t_ite (op := o_icmp 24 20 (fun x y => x = y) (fun _ _ => inferInstance)) (fe_X1_isFree 17) (fun _ _ => rfl) (fun c3 => ?_) (fun c3 => ?_)
      · refine t_go (op := o_ci 21 1) (fe_X1_isFree 20) (fun _ _ => rfl) ?_
        refine t_go (op := o_goto 25) (fe_X1_isFree 21) (fun _ _ => rfl) ?_
        refine t_ret (op := o_zret) (fe_X1_isFree 25) (g_zret (Or.inr rfl)) ?_
        refine ⟨?_, rfl⟩
        first | (rw [b2i_t ⟨‹_›, ‹_›, ‹_›⟩]) | (rw [b2i_f (fun q => by obtain ⟨q1, q2, q3⟩ := q; first | exact q1 ‹_› | exact q2 ‹_› | exact absurd q3 ‹_›)])
      · refine t_go (op := o_ci 25 0) (fe_X1_isFree 24) (fun _ _ => rfl) ?_
        refine t_ret (op := o_zret) (fe_X1_isFree 25) (g_zret (Or.inl rfl)) ?_
        refine ⟨?_, rfl⟩
        first | (rw [b2i_t ⟨‹_›, ‹_›, ‹_›⟩]) | (rw [b2i_f (fun q => by obtain ⟨q1, q2, q3⟩ := q; first | exact q1 ‹_› | exact q2 ‹_› | exact absurd q3 ‹_›)])
noncomputable def takeOutH (h : AHP) (f : Nat) (e : Int32) : AHP := @ite _ (hasP h f e) (Classical.propDecidable _) (sI (sI (sI (sI h (f + 4) (h.1 (f + 1) e.toNatClampNeg).toNatClampNeg (-1)) (f + 1) e.toNatClampNeg (-1)) (f + 2) e.toNatClampNeg 0) (f + 3) e.toNatClampNeg 0) h
theorem has_b {h : AHP} {f : Nat} {e : Int32} (hp : hasP h f e) : inb e 7 := inb_1 hp.1 hp.2.1 (by decide)
theorem has_c {h : AHP} {f : Nat} {e : Int32} (hp : hasP h f e) : inb (h.1 (f + 1) e.toNatClampNeg) 12 := inb_1 hp.2.2.1 hp.2.2.2 (by decide)
theorem m_X1_takeOut {d : Nat} {h : AHP} {f : Nat} {e : Int32} (hS : Std h) (hf : (lay f).1 = 1) : MM (d + 1) 11 [.ref f, .int e] h (fun v h2 => v = none ∧ h2 = takeOutH h f e) := by
  refine ⟨Nat.le_of_ble_eq_true rfl, ?_⟩
  refine t_go (op := o_aload 1 0) (fe_X1_takeOut 0) (fun _ _ => rfl) ?_
  refine t_go (op := o_iload 2 1) (fe_X1_takeOut 1) (fun _ _ => rfl) ?_
  refine t_call (op := o_callV 5 8 2 1) (fe_X1_takeOut 2) (g_callV hS hf (by decide) rfl rfl rfl (Nat.le_of_ble_eq_true rfl)) ?_
  refine M_mono ?_ (m_X1_has hS hf)
  rintro v h2 ⟨q1, q2⟩
  rw [q1, q2]; clear q1 q2 v h2
  refine t_ite (op := o_if 8 41 (fun x => x = 0) (fun _ => inferInstance)) (fe_X1_takeOut 5) (fun _ _ => rfl) (fun c1 => ?_) (fun c1 => ?_)
  · refine t_ret (op := o_vret) (fe_X1_takeOut 41) (fun _ _ => rfl) ?_
    first | exact ⟨rfl, (if_pos ‹_›).symm⟩ | exact ⟨rfl, (if_neg (b2i_ne.mp ‹_›)).symm⟩
  · have hp := Classical.not_not.mp (fun q => c1 (b2i_f q))
    have hb := has_b hp
    have hc := has_c hp
    refine t_go (op := o_aload 9 0) (fe_X1_takeOut 8) (fun _ _ => rfl) ?_
    refine t_go (op := o_getR 12 1 3) (fe_X1_takeOut 9) (g_getR hS hf (by decide) (fr_1_3 hS hf) (Nat.succ_pos _)) ?_
    refine t_go (op := o_aload 13 0) (fe_X1_takeOut 12) (fun _ _ => rfl) ?_
    refine t_go (op := o_getR 16 1 0) (fe_X1_takeOut 13) (g_getR hS hf (by decide) (fr_1_0 hS hf) (Nat.succ_pos _)) ?_
    refine t_go (op := o_iload 17 1) (fe_X1_takeOut 16) (fun _ _ => rfl) ?_
    refine t_go (op := o_iald 18) (fe_X1_takeOut 17) (g_iald hS (ly_1_1 hf) (by first | assumption | exact inb_1 ‹_› ‹_› (by decide))) ?_
    refine t_go (op := o_ci 19 (-1)) (fe_X1_takeOut 18) (fun _ _ => rfl) ?_
    refine t_go (op := o_iast 20) (fe_X1_takeOut 19) (g_iast hS (ly_1_4 hf) (by first | assumption | exact inb_1 ‹_› ‹_› (by decide))) ?_
    refine t_go (op := o_aload 21 0) (fe_X1_takeOut 20) (fun _ _ => rfl) ?_
    refine t_go (op := o_getR 24 1 0) (fe_X1_takeOut 21) (g_getR hS hf (by decide) (fr_1_0 hS hf) (Nat.succ_pos _)) ?_
    refine t_go (op := o_iload 25 1) (fe_X1_takeOut 24) (fun _ _ => rfl) ?_
    refine t_go (op := o_ci 26 (-1)) (fe_X1_takeOut 25) (fun _ _ => rfl) ?_
    refine t_go (op := o_iast 27) (fe_X1_takeOut 26) (g_iast hS (ly_1_1 hf) (by first | assumption | exact inb_1 ‹_› ‹_› (by decide))) ?_
    refine t_go (op := o_aload 28 0) (fe_X1_takeOut 27) (fun _ _ => rfl) ?_
    refine t_go (op := o_getR 31 1 1) (fe_X1_takeOut 28) (g_getR hS hf (by decide) (fr_1_1 hS hf) (Nat.succ_pos _)) ?_
    refine t_go (op := o_iload 32 1) (fe_X1_takeOut 31) (fun _ _ => rfl) ?_
    refine t_go (op := o_ci 33 0) (fe_X1_takeOut 32) (fun _ _ => rfl) ?_
    refine t_go (op := o_iast 34) (fe_X1_takeOut 33) (g_iast hS (ly_1_2 hf) (by first | assumption | exact inb_1 ‹_› ‹_› (by decide))) ?_
    refine t_go (op := o_aload 35 0) (fe_X1_takeOut 34) (fun _ _ => rfl) ?_
    refine t_go (op := o_getR 38 1 2) (fe_X1_takeOut 35) (g_getR hS hf (by decide) (fr_1_2 hS hf) (Nat.succ_pos _)) ?_
    refine t_go (op := o_iload 39 1) (fe_X1_takeOut 38) (fun _ _ => rfl) ?_
    refine t_go (op := o_ci 40 0) (fe_X1_takeOut 39) (fun _ _ => rfl) ?_
    refine t_go (op := o_iast 41) (fe_X1_takeOut 40) (g_iast hS (ly_1_3 hf) (by first | assumption | exact inb_1 ‹_› ‹_› (by decide))) ?_
    refine t_ret (op := o_vret) (fe_X1_takeOut 41) (fun _ _ => rfl) ?_
    first | exact ⟨rfl, (if_pos ‹_›).symm⟩ | exact ⟨rfl, (if_neg (b2i_ne.mp ‹_›)).symm⟩
noncomputable def carryH (h : AHP) (f : Nat) (e c : Int32) : AHP := @ite _ (hasP h f e ∧ freeP h f c) (Classical.propDecidable _) (sI (sI (sI h (f + 4) (h.1 (f + 1) e.toNatClampNeg).toNatClampNeg (-1)) (f + 1) e.toNatClampNeg c) (f + 4) c.toNatClampNeg e) h
theorem free_b {h : AHP} {f : Nat} {c : Int32} (hp : freeP h f c) : inb c 12 := inb_1 hp.1 hp.2.1 (by decide)
theorem m_X1_carry {d : Nat} {h : AHP} {f : Nat} {e c : Int32} (hS : Std h) (hf : (lay f).1 = 1) : MM (d + 1) 14 [.ref f, .int e, .int c] h (fun v h2 => v = none ∧ h2 = carryH h f e c) := by
  refine ⟨Nat.le_of_ble_eq_true rfl, ?_⟩
  refine t_go (op := o_aload 1 0) (fe_X1_carry 0) (fun _ _ => rfl) ?_
  refine t_go (op := o_iload 2 1) (fe_X1_carry 1) (fun _ _ => rfl) ?_
  refine t_call (op := o_callV 5 8 2 1) (fe_X1_carry 2) (g_callV hS hf (by decide) rfl rfl rfl (Nat.le_of_ble_eq_true rfl)) ?_
  refine M_mono ?_ (m_X1_has hS hf)
  rintro v h2 ⟨q1, q2⟩
  rw [q1, q2]; clear q1 q2 v h2
  refine t_ite (op := o_if 8 42 (fun x => x = 0) (fun _ => inferInstance)) (fe_X1_carry 5) (fun _ _ => rfl) (fun c1 => ?_) (fun c1 => ?_)
  · refine t_ret (op := o_vret) (fe_X1_carry 42) (fun _ _ => rfl) ?_
    first | exact ⟨rfl, (if_pos ‹_›).symm⟩ | exact ⟨rfl, (if_neg (fun q => b2i_ne.mp ‹_› q.1)).symm⟩ | exact ⟨rfl, (if_neg (fun q => b2i_ne.mp ‹_› q.2)).symm⟩
  · have hp := Classical.not_not.mp (fun q => c1 (b2i_f q))
    have hb := has_b hp
    have hc := has_c hp
    refine t_go (op := o_aload 9 0) (fe_X1_carry 8) (fun _ _ => rfl) ?_
    refine t_go (op := o_iload 10 2) (fe_X1_carry 9) (fun _ _ => rfl) ?_
    refine t_call (op := o_callV 13 9 2 1) (fe_X1_carry 10) (g_callV hS hf (by decide) rfl rfl rfl (Nat.le_of_ble_eq_true rfl)) ?_
    refine M_mono ?_ (m_X1_isFree hS hf)
    rintro v h2 ⟨q1, q2⟩
    rw [q1, q2]; clear q1 q2 v h2
    refine t_ite (op := o_if 16 42 (fun x => x = 0) (fun _ => inferInstance)) (fe_X1_carry 13) (fun _ _ => rfl) (fun c2 => ?_) (fun c2 => ?_)
    · refine t_ret (op := o_vret) (fe_X1_carry 42) (fun _ _ => rfl) ?_
      first | exact ⟨rfl, (if_pos ‹_›).symm⟩ | exact ⟨rfl, (if_neg (fun q => b2i_ne.mp ‹_› q.1)).symm⟩ | exact ⟨rfl, (if_neg (fun q => b2i_ne.mp ‹_› q.2)).symm⟩
    · have hq := Classical.not_not.mp (fun q => c2 (b2i_f q))
      have hd := free_b hq
      have hpq := And.intro hp hq
      refine t_go (op := o_aload 17 0) (fe_X1_carry 16) (fun _ _ => rfl) ?_
      refine t_go (op := o_getR 20 1 3) (fe_X1_carry 17) (g_getR hS hf (by decide) (fr_1_3 hS hf) (Nat.succ_pos _)) ?_
      refine t_go (op := o_aload 21 0) (fe_X1_carry 20) (fun _ _ => rfl) ?_
      refine t_go (op := o_getR 24 1 0) (fe_X1_carry 21) (g_getR hS hf (by decide) (fr_1_0 hS hf) (Nat.succ_pos _)) ?_
      refine t_go (op := o_iload 25 1) (fe_X1_carry 24) (fun _ _ => rfl) ?_
      refine t_go (op := o_iald 26) (fe_X1_carry 25) (g_iald hS (ly_1_1 hf) (by first | assumption | exact inb_1 ‹_› ‹_› (by decide))) ?_
      refine t_go (op := o_ci 27 (-1)) (fe_X1_carry 26) (fun _ _ => rfl) ?_
      refine t_go (op := o_iast 28) (fe_X1_carry 27) (g_iast hS (ly_1_4 hf) (by first | assumption | exact inb_1 ‹_› ‹_› (by decide))) ?_
      refine t_go (op := o_aload 29 0) (fe_X1_carry 28) (fun _ _ => rfl) ?_
      refine t_go (op := o_getR 32 1 0) (fe_X1_carry 29) (g_getR hS hf (by decide) (fr_1_0 hS hf) (Nat.succ_pos _)) ?_
      refine t_go (op := o_iload 33 1) (fe_X1_carry 32) (fun _ _ => rfl) ?_
      refine t_go (op := o_iload 34 2) (fe_X1_carry 33) (fun _ _ => rfl) ?_
      refine t_go (op := o_iast 35) (fe_X1_carry 34) (g_iast hS (ly_1_1 hf) (by first | assumption | exact inb_1 ‹_› ‹_› (by decide))) ?_
      refine t_go (op := o_aload 36 0) (fe_X1_carry 35) (fun _ _ => rfl) ?_
      refine t_go (op := o_getR 39 1 3) (fe_X1_carry 36) (g_getR hS hf (by decide) (fr_1_3 hS hf) (Nat.succ_pos _)) ?_
      refine t_go (op := o_iload 40 2) (fe_X1_carry 39) (fun _ _ => rfl) ?_
      refine t_go (op := o_iload 41 1) (fe_X1_carry 40) (fun _ _ => rfl) ?_
      refine t_go (op := o_iast 42) (fe_X1_carry 41) (g_iast hS (ly_1_4 hf) (by first | assumption | exact inb_1 ‹_› ‹_› (by decide))) ?_
      refine t_ret (op := o_vret) (fe_X1_carry 42) (fun _ _ => rfl) ?_
      first | exact ⟨rfl, (if_pos ‹_›).symm⟩ | exact ⟨rfl, (if_neg (fun q => b2i_ne.mp ‹_› q.1)).symm⟩ | exact ⟨rfl, (if_neg (fun q => b2i_ne.mp ‹_› q.2)).symm⟩
def mn20 (x : Int32) : Int32 := if x < 20 then x else 20
noncomputable def stokeH (h : AHP) (f : Nat) (e : Int32) : AHP := @ite _ (hasP h f e) (Classical.propDecidable _) (carryH (sI h (f + 2) e.toNatClampNeg (mn20 (h.1 (f + 2) e.toNatClampNeg + 3))) f e (h.1 (f + 1) e.toNatClampNeg - 4)) h
noncomputable def addFuelH (h : AHP) (f : Nat) (e x : Int32) : AHP := @ite _ (hasP h f e) (Classical.propDecidable _) (sI h (f + 3) e.toNatClampNeg (mn20 (h.1 (f + 3) e.toNatClampNeg + x))) h
theorem nF_12 {f i j : Nat} {h : AHP} {v : Int32} : (sI h (f + 2) i v).1 (f + 1) j = h.1 (f + 1) j := by simp [sI, up2]
theorem m_X1_addFuel {d : Nat} {h : AHP} {f : Nat} {e x : Int32} (hS : Std h) (hf : (lay f).1 = 1) : MM (d + 1) 16 [.ref f, .int e, .int x] h (fun v h2 => v = none ∧ h2 = addFuelH h f e x) := by
  refine ⟨Nat.le_of_ble_eq_true rfl, ?_⟩
  refine t_go (op := o_aload 1 0) (fe_X1_addFuel 0) (fun _ _ => rfl) ?_
  refine t_go (op := o_iload 2 1) (fe_X1_addFuel 1) (fun _ _ => rfl) ?_
  refine t_call (op := o_callV 5 8 2 1) (fe_X1_addFuel 2) (g_callV hS hf (by decide) rfl rfl rfl (Nat.le_of_ble_eq_true rfl)) ?_
  refine M_mono ?_ (m_X1_has hS hf)
  rintro v h2 ⟨q1, q2⟩
  rw [q1, q2]; clear q1 q2 v h2
  refine t_ite (op := o_if 8 27 (fun x => x = 0) (fun _ => inferInstance)) (fe_X1_addFuel 5) (fun _ _ => rfl) (fun c1 => ?_) (fun c1 => ?_)
  · refine t_ret (op := o_vret) (fe_X1_addFuel 27) (fun _ _ => rfl) ?_
    first | exact ⟨rfl, (if_pos ‹_›).symm⟩ | exact ⟨rfl, (if_neg (b2i_ne.mp ‹_›)).symm⟩
  · have hp := Classical.not_not.mp (fun q => c1 (b2i_f q))
    have hb := has_b hp
    have hc := has_c hp
    refine t_go (op := o_aload 9 0) (fe_X1_addFuel 8) (fun _ _ => rfl) ?_
    refine t_go (op := o_getR 12 1 2) (fe_X1_addFuel 9) (g_getR hS hf (by decide) (fr_1_2 hS hf) (Nat.succ_pos _)) ?_
    refine t_go (op := o_iload 13 1) (fe_X1_addFuel 12) (fun _ _ => rfl) ?_
    refine t_go (op := o_ci 15 20) (fe_X1_addFuel 13) (fun _ _ => rfl) ?_
    refine t_go (op := o_aload 16 0) (fe_X1_addFuel 15) (fun _ _ => rfl) ?_
    refine t_go (op := o_getR 19 1 2) (fe_X1_addFuel 16) (g_getR hS hf (by decide) (fr_1_2 hS hf) (Nat.succ_pos _)) ?_
    refine t_go (op := o_iload 20 1) (fe_X1_addFuel 19) (fun _ _ => rfl) ?_
    refine t_go (op := o_iald 21) (fe_X1_addFuel 20) (g_iald hS (ly_1_3 hf) (by first | assumption | exact inb_1 ‹_› ‹_› (by decide))) ?_
    refine t_go (op := o_iload 22 2) (fe_X1_addFuel 21) (fun _ _ => rfl) ?_
    refine t_go (op := o_i2 23 (fun x y => x + y)) (fe_X1_addFuel 22) (fun _ _ => rfl) ?_
    refine t_go (op := o_min 26) (fe_X1_addFuel 23) (g_min (Nat.le_of_ble_eq_true rfl)) ?_
    refine t_go (op := o_iast 27) (fe_X1_addFuel 26) (g_iast hS (ly_1_3 hf) (by first | assumption | exact inb_1 ‹_› ‹_› (by decide))) ?_
    refine t_ret (op := o_vret) (fe_X1_addFuel 27) (fun _ _ => rfl) ?_
    first | exact ⟨rfl, (if_pos ‹_›).symm⟩ | exact ⟨rfl, (if_neg (b2i_ne.mp ‹_›)).symm⟩
theorem m_X1_stoke {d : Nat} {h : AHP} {f : Nat} {e : Int32} (hS : Std h) (hf : (lay f).1 = 1) : MM (d + 2) 15 [.ref f, .int e] h (fun v h2 => v = none ∧ h2 = stokeH h f e) := by
  refine ⟨Nat.le_of_ble_eq_true rfl, ?_⟩
  refine t_go (op := o_aload 1 0) (fe_X1_stoke 0) (fun _ _ => rfl) ?_
  refine t_go (op := o_iload 2 1) (fe_X1_stoke 1) (fun _ _ => rfl) ?_
  refine t_call (op := o_callV 5 8 2 1) (fe_X1_stoke 2) (g_callV hS hf (by decide) rfl rfl rfl (Nat.le_of_ble_eq_true rfl)) ?_
  refine M_mono ?_ (m_X1_has hS hf)
  rintro v h2 ⟨q1, q2⟩
  rw [q1, q2]; clear q1 q2 v h2
  refine t_ite (op := o_if 8 40 (fun x => x = 0) (fun _ => inferInstance)) (fe_X1_stoke 5) (fun _ _ => rfl) (fun c1 => ?_) (fun c1 => ?_)
  · refine t_ret (op := o_vret) (fe_X1_stoke 40) (fun _ _ => rfl) ?_
    first | exact ⟨rfl, (if_pos ‹_›).symm⟩ | exact ⟨rfl, (if_neg (b2i_ne.mp ‹_›)).symm⟩
  · have hp := Classical.not_not.mp (fun q => c1 (b2i_f q))
    have hb := has_b hp
    have hc := has_c hp
    refine t_go (op := o_aload 9 0) (fe_X1_stoke 8) (fun _ _ => rfl) ?_
    refine t_go (op := o_getR 12 1 1) (fe_X1_stoke 9) (g_getR hS hf (by decide) (fr_1_1 hS hf) (Nat.succ_pos _)) ?_
    refine t_go (op := o_iload 13 1) (fe_X1_stoke 12) (fun _ _ => rfl) ?_
    refine t_go (op := o_ci 15 20) (fe_X1_stoke 13) (fun _ _ => rfl) ?_
    refine t_go (op := o_aload 16 0) (fe_X1_stoke 15) (fun _ _ => rfl) ?_
    refine t_go (op := o_getR 19 1 1) (fe_X1_stoke 16) (g_getR hS hf (by decide) (fr_1_1 hS hf) (Nat.succ_pos _)) ?_
    refine t_go (op := o_iload 20 1) (fe_X1_stoke 19) (fun _ _ => rfl) ?_
    refine t_go (op := o_iald 21) (fe_X1_stoke 20) (g_iald hS (ly_1_2 hf) (by first | assumption | exact inb_1 ‹_› ‹_› (by decide))) ?_
    refine t_go (op := o_ci 22 3) (fe_X1_stoke 21) (fun _ _ => rfl) ?_
    refine t_go (op := o_i2 23 (fun x y => x + y)) (fe_X1_stoke 22) (fun _ _ => rfl) ?_
    refine t_go (op := o_min 26) (fe_X1_stoke 23) (g_min (Nat.le_of_ble_eq_true rfl)) ?_
    refine t_go (op := o_iast 27) (fe_X1_stoke 26) (g_iast hS (ly_1_2 hf) (by first | assumption | exact inb_1 ‹_› ‹_› (by decide))) ?_
    refine t_go (op := o_aload 28 0) (fe_X1_stoke 27) (fun _ _ => rfl) ?_
    refine t_go (op := o_iload 29 1) (fe_X1_stoke 28) (fun _ _ => rfl) ?_
    refine t_go (op := o_aload 30 0) (fe_X1_stoke 29) (fun _ _ => rfl) ?_
    refine t_go (op := o_getR 33 1 0) (fe_X1_stoke 30) (g_getR hS hf (by decide) (fr_1_0 hS hf) (Nat.succ_pos _)) ?_
    refine t_go (op := o_iload 34 1) (fe_X1_stoke 33) (fun _ _ => rfl) ?_
    refine t_go (op := o_iald 35) (fe_X1_stoke 34) (g_iald hS (ly_1_1 hf) (by first | assumption | exact inb_1 ‹_› ‹_› (by decide))) ?_
    refine t_go (op := o_ci 36 4) (fe_X1_stoke 35) (fun _ _ => rfl) ?_
    refine t_go (op := o_i2 37 (fun x y => x - y)) (fe_X1_stoke 36) (fun _ _ => rfl) ?_
    refine t_call (op := o_callV 40 14 3 1) (fe_X1_stoke 37) (g_callV hS hf (by decide) rfl rfl rfl (Nat.le_of_ble_eq_true rfl)) ?_
    refine M_mono ?_ (m_X1_carry (h := sI h (f + 2) e.toNatClampNeg (mn20 (h.1 (f + 2) e.toNatClampNeg + 3))) hS hf)
    rintro v h2 ⟨q1, q2⟩
    rw [q1, q2]; clear q1 q2 v h2
    rw [nF_12]
    refine t_ret (op := o_vret) (fe_X1_stoke 40) (fun _ _ => rfl) ?_
    first | exact ⟨rfl, (if_pos ‹_›).symm⟩ | exact ⟨rfl, (if_neg (b2i_ne.mp ‹_›)).symm⟩
