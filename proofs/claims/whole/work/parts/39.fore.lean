/-! ===== rows stay 0 beyond their lengths ===== -/
theorem inb_lt {i : Int32} {n : Nat} (h : inb i n) : i.toNatClampNeg < n := Nat.not_le.mp fun q => h (Or.inr q)
theorem NF_take {F : FS} {e : Int32} (hN : NF F) : NF (takeOutF F e) := by
  unfold takeOutF
  by_cases hp : hasF F e
  · rw [if_pos hp]
    have h1 := inb_lt (inb_1 hp.1 hp.2.1 (show (7 : Int32).toInt = (7 : Nat) by decide))
    have h2 := inb_lt (inb_1 hp.2.2.1 hp.2.2.2 (show (12 : Int32).toInt = (12 : Nat) by decide))
    refine ⟨fun i hi => ?_, fun i hi => ?_⟩
    · have a : i ≠ e.toNatClampNeg := by omega
      simp only [fup, if_neg a]
      exact hN.1 i hi
    · have a : i ≠ (F.1 e.toNatClampNeg).toNatClampNeg := by omega
      simp only [fup, if_neg a]
      exact hN.2 i hi
  · rw [if_neg hp]; exact hN
theorem NF_carry {F : FS} {e c : Int32} (hN : NF F) : NF (carryF F e c) := by
  unfold carryF
  by_cases hp : hasF F e ∧ freeF F c
  · rw [if_pos hp]
    have h1 := inb_lt (inb_1 hp.1.1 hp.1.2.1 (show (7 : Int32).toInt = (7 : Nat) by decide))
    have h2 := inb_lt (inb_1 hp.1.2.2.1 hp.1.2.2.2 (show (12 : Int32).toInt = (12 : Nat) by decide))
    have h3 := inb_lt (inb_1 hp.2.1 hp.2.2.1 (show (12 : Int32).toInt = (12 : Nat) by decide))
    refine ⟨fun i hi => ?_, fun i hi => ?_⟩
    · have a : i ≠ e.toNatClampNeg := by omega
      simp only [fup, if_neg a]
      exact hN.1 i hi
    · have a : i ≠ (F.1 e.toNatClampNeg).toNatClampNeg := by omega
      have b : i ≠ c.toNatClampNeg := by omega
      simp only [fup, if_neg a, if_neg b]
      exact hN.2 i hi
  · rw [if_neg hp]; exact hN
theorem NF_2 {F : FS} {i : Nat} {v : Int32} (hN : NF F) (hi : i < 7) : NF (F.1, fup F.2.1 i v, F.2.2) := ⟨fun j hj => ⟨(hN.1 j hj).1, by show fup _ _ _ j = 0; rw [fup, if_neg (by omega)]; exact (hN.1 j hj).2.1, (hN.1 j hj).2.2⟩, hN.2⟩
theorem NF_3 {F : FS} {i : Nat} {v : Int32} (hN : NF F) (hi : i < 7) : NF (F.1, F.2.1, fup F.2.2.1 i v, F.2.2.2) := ⟨fun j hj => ⟨(hN.1 j hj).1, (hN.1 j hj).2.1, by show fup _ _ _ j = 0; rw [fup, if_neg (by omega)]; exact (hN.1 j hj).2.2⟩, hN.2⟩
theorem NF_h {F : FS} {a b : Int32} (hN : NF F) : NF (F.1, F.2.1, F.2.2.1, F.2.2.2.1, a, b) := hN
theorem NF_stoke {F : FS} {e : Int32} (hN : NF F) : NF (stokeF F e) := by
  unfold stokeF
  by_cases hp : hasF F e
  · rw [if_pos hp]
    exact NF_carry (NF_2 hN (inb_lt (inb_1 hp.1 hp.2.1 (show (7 : Int32).toInt = (7 : Nat) by decide))))
  · rw [if_neg hp]; exact hN
theorem NF_fuel {F : FS} {e x : Int32} (hN : NF F) : NF (addFuelF F e x) := by
  unfold addFuelF
  by_cases hp : hasF F e
  · rw [if_pos hp]
    exact NF_3 hN (inb_lt (inb_1 hp.1 hp.2.1 (show (7 : Int32).toInt = (7 : Nat) by decide)))
  · rw [if_neg hp]; exact hN
theorem it_inv {α : Type} {g : Nat → α → α} {P : α → Prop} (hs : ∀ i s, P s → P (g i s)) : ∀ (j i : Nat) (s : α), P s → P (it g j i s) := by
  intro j
  induction j with
  | zero => intro i s h; exact h
  | succ j ih => intro i s h; exact ih (i + 1) _ (hs i s h)
theorem it_inv7 {α : Type} {g : Nat → α → α} {P : α → Prop} {n : Nat} (hs : ∀ i s, i < n → P s → P (g i s)) : ∀ (j i : Nat) (s : α), i + j ≤ n → P s → P (it g j i s) := by
  intro j
  induction j with
  | zero => intro i s _ h; exact h
  | succ j ih => intro i s hi h; exact ih (i + 1) _ (by omega) (hs i s (by omega) h)
theorem NF_pass {L : Int32 → Int32 → Int32 → Int32 → Int32} {k : Nat → Int32} {c air : Int32} {F : FS} (hN : NF F) : NF (passF L k c air F).1 := by
  have h1 : NF (warmF L k (litB F k c) air F) := by
    unfold warmF
    refine it_inv7 (n := 7) (P := NF) (fun i s hi hs => ?_) 7 0 F (by omega) hN
    unfold warmS
    by_cases hp : hasF s (nI i)
    · rw [if_pos hp]; exact NF_2 hs (by rw [nI_clamp (by omega)]; exact hi)
    · rw [if_neg hp]; exact hs
  have h2 : NF (it (burnS k (litB F k c)) 7 0 (warmF L k (litB F k c) air F, 0)).1 := by
    refine it_inv7 (n := 7) (P := fun s : FS × Int32 => NF s.1) (fun i s hi hs => ?_) 7 0 _ (by omega) h1
    unfold burnS
    by_cases hp : bitI (litB F k c) (nI i)
    · rw [if_pos hp]
      have h3 : NF (burnF1 k i s.1) := NF_3 hs (by rw [nI_clamp (by omega)]; exact hi)
      split
      · exact h3
      · exact NF_take h3
    · rw [if_neg hp]; exact hs
  have h3 : NF (it fallS 8 4 (it (burnS k (litB F k c)) 7 0 (warmF L k (litB F k c) air F, 0)).1) := it_inv (P := NF) (fun i s hs => NF_carry hs) 8 4 _ h2
  exact h3
theorem NF_HF {h : AHP} {g n : Nat} {F : FS} (hN : NF F) : NF (HF h g n F) := NF_pass hN
theorem NF_HB {h : AHP} {g n : Nat} {b : Int32} {F : FS} (hN : NF F) : NF (HB h g n b F).1 := NF_pass hN
/-- hours, one behind another -/
noncomputable def HN (h : AHP) (g n : Nat) (j : Nat) (F : FS) : FS := it (fun _ => HF h g n) j 0 F
theorem it_const {α : Type} {f : α → α} : ∀ (j i i2 : Nat) (s : α), it (fun _ => f) j i s = it (fun _ => f) j i2 s := by
  intro j
  induction j with
  | zero => intro i i2 s; rfl
  | succ j ih => intro i i2 s; exact ih (i + 1) (i2 + 1) (f s)
theorem it_last {α : Type} {f : α → α} : ∀ (j i : Nat) (s : α), it (fun _ => f) (j + 1) i s = f (it (fun _ => f) j i s) := by
  intro j
  induction j with
  | zero => intro i s; rfl
  | succ j ih => intro i s; exact ih (i + 1) (f s)
theorem HN_succ {h : AHP} {g n j : Nat} {F : FS} : HN h g n (j + 1) F = HF h g n (HN h g n j F) := it_last j 0 F
theorem HN_front {h : AHP} {g n j : Nat} {F : FS} : HN h g n (j + 1) F = HN h g n j (HF h g n F) := it_const j 1 0 (HF h g n F)
theorem NF_HN {h : AHP} {g n : Nat} (j : Nat) {F : FS} (hN : NF F) : NF (HN h g n j F) := it_inv (P := NF) (fun _ _ hs => NF_HF hs) j 0 F hN
noncomputable def litH (h : AHP) (g n : Nat) (F : FS) : Int32 := litB F (h.1 (g + 2)) (h.1 g 5)
theorem l_behind {d : Nat} {h : AHP} {g n : Nat} (hS0 : Std h) (hg : (lay g).1 = 3) (hL : LawOK h g n) {m : Nat} (hm : m ≤ 99)  {Q : Option Value → AHP → Prop} : ∀ (j i : Nat) (S : FS) (k : AHP), i + j = m → X h k → fs k 136 = S → (∀ k2, X h k2 → fs k2 136 = it (fun _ => HF h g n) j i S → Q (some (.ref 136)) k2) → TT (d + 5) 31 11 [some (.ref 135), some (.ref g), some (.ref 5), some (.int (nI m)), some (.int (nI i))] [] k Q := by
  intro j
  induction j with
  | zero =>
    intro i S k hi hX hF hq
    have hN : i = m := by omega
    have hS := hX.std hS0
    refine t_go (op := o_iload 13 4) (fe_X2_behind 11) (fun _ _ => rfl) ?_
    refine t_go (op := o_iload 14 3) (fe_X2_behind 13) (fun _ _ => rfl) ?_
    refine t_ite (op := o_icmp 17 33 (fun x y => y ≤ x) (fun _ _ => inferInstance)) (fe_X2_behind 14) g_icmp (fun c1 => ?_) (fun c1 => ?_)
    · refine t_go (op := o_aload 34 0) (fe_X2_behind 33) (fun _ _ => rfl) ?_
      refine t_go (op := o_getR 37 2 0) (fe_X2_behind 34) (g_getR hS (by decide) (by decide) (fr_2_0 hS) (by decide)) ?_
      refine t_ret (op := o_aret) (fe_X2_behind 37) (fun _ _ => rfl) ?_
      exact hq k hX hF
    · exact absurd (by rw [hN]; exact Int32.le_refl _) c1
  | succ j ih =>
    intro i S k hi hX hF hq
    have hi2 : i < m := by omega
    have hS := hX.std hS0
    refine t_go (op := o_iload 13 4) (fe_X2_behind 11) (fun _ _ => rfl) ?_
    refine t_go (op := o_iload 14 3) (fe_X2_behind 13) (fun _ _ => rfl) ?_
    refine t_ite (op := o_icmp 17 33 (fun x y => y ≤ x) (fun _ _ => inferInstance)) (fe_X2_behind 14) g_icmp (fun c1 => ?_) (fun c1 => ?_)
    · exact absurd c1 (nI_ge hi2 (by omega))
    · refine t_go (op := o_aload 18 0) (fe_X2_behind 17) (fun _ _ => rfl) ?_
      refine t_go (op := o_getR 21 2 0) (fe_X2_behind 18) (g_getR hS (by decide) (by decide) (fr_2_0 hS) (by decide)) ?_
      refine t_go (op := o_aload 22 1) (fe_X2_behind 21) (fun _ _ => rfl) ?_
      refine t_go (op := o_ci 23 1) (fe_X2_behind 22) (fun _ _ => rfl) ?_
      refine t_call (op := o_callV 26 17 3 1) (fe_X2_behind 23) (g_callV hS (by decide) (by decide) rfl rfl rfl (Nat.le_of_ble_eq_true rfl)) ?_
      refine M_mono ?_ (a_pass hS0 hg hL hX (Or.inl rfl) hF)
      rintro v h2 ⟨q1, hX2, hF2, hK2⟩
      rw [q1]; clear q1 v
      replace hS := hX2.std hS0
      refine t_go (op := o_popI 27) (fe_X2_behind 26) (fun _ _ => rfl) ?_
      refine t_go (op := o_iinc 30 4 1) (fe_X2_behind 27) (fun _ _ => rfl) ?_
      refine t_go (op := o_goto 11) (fe_X2_behind 30) (fun _ _ => rfl) ?_
      rw [nI_1]
      exact ih (i + 1) _ _ (by omega) hX2 hF2 hq
theorem m_behind {d : Nat} {h k : AHP} {g n : Nat} (hS0 : Std h) (hg : (lay g).1 = 3) (hL : LawOK h g n) (hX : X h k) (hN : NF (fs k 136)) (hz : h.1 5 5 = 0 ∨ h.1 5 5 = 1) (hN2 : NF (fs h 5)) {m : Nat} (hm : m ≤ 99) : MM (d + 5) 31 [.ref 135, .ref g, .ref 5, .int (nI m)] k (fun v h2 => v = some (.ref 136) ∧ X h h2 ∧ fs h2 136 = HN h g n m (fs h 5)) := by
  refine ⟨Nat.le_of_ble_eq_true rfl, ?_⟩
  have hS := hX.std hS0
  refine t_go (op := o_aload 1 0) (fe_X2_behind 0) (fun _ _ => rfl) ?_
  refine t_go (op := o_getR 4 2 0) (fe_X2_behind 1) (g_getR hS (by decide) (by decide) (fr_2_0 hS) (by decide)) ?_
  refine t_go (op := o_aload 5 2) (fe_X2_behind 4) (fun _ _ => rfl) ?_
  refine t_call (op := o_callV 8 7 2 1) (fe_X2_behind 5) (g_callV hS (by decide) (by decide) rfl rfl rfl (Nat.le_of_ble_eq_true rfl)) ?_
  refine M_mono ?_ (a_become hS0 hX (Or.inl rfl) (by decide) (Or.inl (by decide)) hz hN hN2)
  rintro v h2 ⟨q1, hX2, hF2, hK2⟩
  rw [q1]; clear q1 v
  replace hS := hX2.std hS0
  refine t_go (op := o_ci 9 0) (fe_X2_behind 8) (fun _ _ => rfl) ?_
  refine t_go (op := o_istore 11 4) (fe_X2_behind 9) (fun _ _ => rfl) ?_
  exact l_behind hS0 hg hL hm m 0 _ _ (by omega) hX2 hF2 (fun k2 x1 x2 => ⟨rfl, x1, x2⟩)
/-- how long a fire lasts, banked (or no more) at the hour b: from hour i on, j hours more -/
noncomputable def lastsV (h : AHP) (g n : Nat) (b : Int32) : Nat → Nat → FS → Int32
  | 0, _, _ => 41
  | j + 1, i, F => if litH h g n F = 0 then nI i else lastsV h g n b j (i + 1) (HF h g n (if nI i = b then (F.1, F.2.1, F.2.2.1, F.2.2.2.1, F.2.2.2.2.1, if F.2.2.2.2.2 = 0 then 1 else 0) else F))
