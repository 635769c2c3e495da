theorem fire_grate {f g : Nat} (hf : (lay f).1 = 1) (hg : (lay g).1 = 3) : g + 3 ≤ f ∨ f + 5 ≤ g :=
  lay_of (P := fun g => g + 3 ≤ f ∨ f + 5 ≤ g) (fun _ => inferInstance) (by decide) (lay_of (P := fun f => (List.range 202).all (fun g => decide ((lay g).1 = 3 → (g + 3 ≤ f ∨ f + 5 ≤ g))) = true) (fun _ => inferInstance) (by decide) (by decide +kernel) hf) hg
def sumS (r : Nat → Int32) (e : Nat) (s : Int32) : Int32 := s + r (nI e).toNatClampNeg
theorem l_heatOfAll {d : Nat} {h : AHP} {f : Nat} {F : FS} (hS : Std h) (hf : (lay f).1 = 1)  {Q : Option Value → AHP → Prop} : ∀ (j i : Nat) (S : Int32), i + j = 7 → Q (some (.int (it (sumS F.2.1) j i S))) (setF h f F) → TT d 21 4 [some (.ref f), some (.int S), some (.int (nI i))] [] (setF h f F) Q := by
  intro j
  induction j with
  | zero =>
    intro i S hi hq
    have hN : i = 7 := by omega
    refine t_go (op := o_iload 5 2) (fe_X1_heatOfAll 4) (fun _ _ => rfl) ?_
    refine t_go (op := o_ci 7 7) (fe_X1_heatOfAll 5) (fun _ _ => rfl) ?_
    refine t_ite (op := o_icmp 10 25 (fun x y => y ≤ x) (fun _ _ => inferInstance)) (fe_X1_heatOfAll 7) g_icmp (fun c1 => ?_) (fun c1 => ?_)
    · refine t_go (op := o_iload 26 1) (fe_X1_heatOfAll 25) (fun _ _ => rfl) ?_
      refine t_ret (op := o_iret) (fe_X1_heatOfAll 26) (fun _ _ => rfl) ?_
      exact hq
    · exact absurd (by rw [hN]; exact Int32.le_refl _) c1
  | succ j ih =>
    intro i S hi hq
    have hb : inb (nI i) 7 := inb_n (by omega) (by decide)
    refine t_go (op := o_iload 5 2) (fe_X1_heatOfAll 4) (fun _ _ => rfl) ?_
    refine t_go (op := o_ci 7 7) (fe_X1_heatOfAll 5) (fun _ _ => rfl) ?_
    refine t_ite (op := o_icmp 10 25 (fun x y => y ≤ x) (fun _ _ => inferInstance)) (fe_X1_heatOfAll 7) g_icmp (fun c1 => ?_) (fun c1 => ?_)
    · exact absurd c1 (nI_ge (show i < 7 by omega) (by decide))
    · refine t_go (op := o_iload 11 1) (fe_X1_heatOfAll 10) (fun _ _ => rfl) ?_
      refine t_go (op := o_aload 12 0) (fe_X1_heatOfAll 11) (fun _ _ => rfl) ?_
      refine t_go (op := o_getR 15 1 1) (fe_X1_heatOfAll 12) (g_getR hS hf (by decide) (fr_1_1 hS hf) (Nat.succ_pos _)) ?_
      refine t_go (op := o_iload 16 2) (fe_X1_heatOfAll 15) (fun _ _ => rfl) ?_
      refine t_go (op := o_iald 17) (fe_X1_heatOfAll 16) (g_iald hS (ly_1_2 hf) (by first | assumption | exact inb_1 ‹_› ‹_› (by decide))) ?_
      refine t_go (op := o_i2 18 (fun x y => x + y)) (fe_X1_heatOfAll 17) (fun _ _ => rfl) ?_
      refine t_go (op := o_istore 19 1) (fe_X1_heatOfAll 18) (fun _ _ => rfl) ?_
      refine t_go (op := o_iinc 22 2 1) (fe_X1_heatOfAll 19) (fun _ _ => rfl) ?_
      refine t_go (op := o_goto 4) (fe_X1_heatOfAll 22) (fun _ _ => rfl) ?_
      have e1 := congrFun (rd_2 (h := h) (f := f) (F := F)) (nI i).toNatClampNeg
      rw [nI_1]
      exact ih (i + 1) _ (by omega) (by rw [e1]; exact hq)
theorem m_heatOfAll {d : Nat} {h : AHP} {f : Nat} {F : FS} (hS : Std h) (hf : (lay f).1 = 1)  : MM d 21 [.ref f] (setF h f F) (fun v h2 => v = some (.int (it (sumS F.2.1) 7 0 0)) ∧ h2 = (setF h f F)) := by
  refine ⟨Nat.le_of_ble_eq_true rfl, ?_⟩
  refine t_go (op := o_ci 1 0) (fe_X1_heatOfAll 0) (fun _ _ => rfl) ?_
  refine t_go (op := o_istore 2 1) (fe_X1_heatOfAll 1) (fun _ _ => rfl) ?_
  refine t_go (op := o_ci 3 0) (fe_X1_heatOfAll 2) (fun _ _ => rfl) ?_
  refine t_go (op := o_istore 4 2) (fe_X1_heatOfAll 3) (fun _ _ => rfl) ?_
  exact l_heatOfAll hS hf 7 0 0 rfl ⟨rfl, rfl⟩
theorem l_fuelOfAll {d : Nat} {h : AHP} {f : Nat} {F : FS} (hS : Std h) (hf : (lay f).1 = 1)  {Q : Option Value → AHP → Prop} : ∀ (j i : Nat) (S : Int32), i + j = 7 → Q (some (.int (it (sumS F.2.2.1) j i S))) (setF h f F) → TT d 22 4 [some (.ref f), some (.int S), some (.int (nI i))] [] (setF h f F) Q := by
  intro j
  induction j with
  | zero =>
    intro i S hi hq
    have hN : i = 7 := by omega
    refine t_go (op := o_iload 5 2) (fe_X1_fuelOfAll 4) (fun _ _ => rfl) ?_
    refine t_go (op := o_ci 7 7) (fe_X1_fuelOfAll 5) (fun _ _ => rfl) ?_
    refine t_ite (op := o_icmp 10 25 (fun x y => y ≤ x) (fun _ _ => inferInstance)) (fe_X1_fuelOfAll 7) g_icmp (fun c1 => ?_) (fun c1 => ?_)
    · refine t_go (op := o_iload 26 1) (fe_X1_fuelOfAll 25) (fun _ _ => rfl) ?_
      refine t_ret (op := o_iret) (fe_X1_fuelOfAll 26) (fun _ _ => rfl) ?_
      exact hq
    · exact absurd (by rw [hN]; exact Int32.le_refl _) c1
  | succ j ih =>
    intro i S hi hq
    have hb : inb (nI i) 7 := inb_n (by omega) (by decide)
    refine t_go (op := o_iload 5 2) (fe_X1_fuelOfAll 4) (fun _ _ => rfl) ?_
    refine t_go (op := o_ci 7 7) (fe_X1_fuelOfAll 5) (fun _ _ => rfl) ?_
    refine t_ite (op := o_icmp 10 25 (fun x y => y ≤ x) (fun _ _ => inferInstance)) (fe_X1_fuelOfAll 7) g_icmp (fun c1 => ?_) (fun c1 => ?_)
    · exact absurd c1 (nI_ge (show i < 7 by omega) (by decide))
    · refine t_go (op := o_iload 11 1) (fe_X1_fuelOfAll 10) (fun _ _ => rfl) ?_
      refine t_go (op := o_aload 12 0) (fe_X1_fuelOfAll 11) (fun _ _ => rfl) ?_
      refine t_go (op := o_getR 15 1 2) (fe_X1_fuelOfAll 12) (g_getR hS hf (by decide) (fr_1_2 hS hf) (Nat.succ_pos _)) ?_
      refine t_go (op := o_iload 16 2) (fe_X1_fuelOfAll 15) (fun _ _ => rfl) ?_
      refine t_go (op := o_iald 17) (fe_X1_fuelOfAll 16) (g_iald hS (ly_1_3 hf) (by first | assumption | exact inb_1 ‹_› ‹_› (by decide))) ?_
      refine t_go (op := o_i2 18 (fun x y => x + y)) (fe_X1_fuelOfAll 17) (fun _ _ => rfl) ?_
      refine t_go (op := o_istore 19 1) (fe_X1_fuelOfAll 18) (fun _ _ => rfl) ?_
      refine t_go (op := o_iinc 22 2 1) (fe_X1_fuelOfAll 19) (fun _ _ => rfl) ?_
      refine t_go (op := o_goto 4) (fe_X1_fuelOfAll 22) (fun _ _ => rfl) ?_
      have e1 := congrFun (rd_3 (h := h) (f := f) (F := F)) (nI i).toNatClampNeg
      rw [nI_1]
      exact ih (i + 1) _ (by omega) (by rw [e1]; exact hq)
theorem m_fuelOfAll {d : Nat} {h : AHP} {f : Nat} {F : FS} (hS : Std h) (hf : (lay f).1 = 1)  : MM d 22 [.ref f] (setF h f F) (fun v h2 => v = some (.int (it (sumS F.2.2.1) 7 0 0)) ∧ h2 = (setF h f F)) := by
  refine ⟨Nat.le_of_ble_eq_true rfl, ?_⟩
  refine t_go (op := o_ci 1 0) (fe_X1_fuelOfAll 0) (fun _ _ => rfl) ?_
  refine t_go (op := o_istore 2 1) (fe_X1_fuelOfAll 1) (fun _ _ => rfl) ?_
  refine t_go (op := o_ci 3 0) (fe_X1_fuelOfAll 2) (fun _ _ => rfl) ?_
  refine t_go (op := o_istore 4 2) (fe_X1_fuelOfAll 3) (fun _ _ => rfl) ?_
  exact l_fuelOfAll hS hf 7 0 0 rfl ⟨rfl, rfl⟩
noncomputable def litS (F : FS) (k : Nat → Int32) (c : Int32) (e : Nat) (s : Int32) : Int32 := @ite _ (hasF F (nI e) ∧ ¬ F.2.1 (nI e).toNatClampNeg < c ∧ ¬ k (nI e).toNatClampNeg = 3) (Classical.propDecidable _) (s ||| (1 <<< (nI e &&& 31))) s
noncomputable def litB (F : FS) (k : Nat → Int32) (c : Int32) : Int32 := it (litS F k c) 7 0 0
theorem l_litBits {d : Nat} {h : AHP} {f : Nat} {F : FS} {g : Nat} (hS : Std h) (hf : (lay f).1 = 1) (hg : (lay g).1 = 3)  {Q : Option Value → AHP → Prop} : ∀ (j i : Nat) (S : Int32), i + j = 7 → Q (some (.int (it (litS F (h.1 (g + 2)) (h.1 g 5)) j i S))) (setF h f F) → TT (d + 1) 18 4 [some (.ref f), some (.ref g), some (.int S), some (.int (nI i))] [] (setF h f F) Q := by
  intro j
  induction j with
  | zero =>
    intro i S hi hq
    have hN : i = 7 := by omega
    refine t_go (op := o_iload 5 3) (fe_X1_litBits 4) (fun _ _ => rfl) ?_
    refine t_go (op := o_ci 7 7) (fe_X1_litBits 5) (fun _ _ => rfl) ?_
    refine t_ite (op := o_icmp 10 53 (fun x y => y ≤ x) (fun _ _ => inferInstance)) (fe_X1_litBits 7) g_icmp (fun c1 => ?_) (fun c1 => ?_)
    · refine t_go (op := o_iload 54 2) (fe_X1_litBits 53) (fun _ _ => rfl) ?_
      refine t_ret (op := o_iret) (fe_X1_litBits 54) (fun _ _ => rfl) ?_
      exact hq
    · exact absurd (by rw [hN]; exact Int32.le_refl _) c1
  | succ j ih =>
    intro i S hi hq
    have hb : inb (nI i) 7 := inb_n (by omega) (by decide)
    refine t_go (op := o_iload 5 3) (fe_X1_litBits 4) (fun _ _ => rfl) ?_
    refine t_go (op := o_ci 7 7) (fe_X1_litBits 5) (fun _ _ => rfl) ?_
    refine t_ite (op := o_icmp 10 53 (fun x y => y ≤ x) (fun _ _ => inferInstance)) (fe_X1_litBits 7) g_icmp (fun c1 => ?_) (fun c1 => ?_)
    · exact absurd c1 (nI_ge (show i < 7 by omega) (by decide))
    · refine t_go (op := o_aload 11 0) (fe_X1_litBits 10) (fun _ _ => rfl) ?_
      refine t_go (op := o_iload 12 3) (fe_X1_litBits 11) (fun _ _ => rfl) ?_
      refine t_call (op := o_callV 15 8 2 1) (fe_X1_litBits 12) (g_callV hS hf (by decide) rfl rfl rfl (Nat.le_of_ble_eq_true rfl)) ?_
      refine M_mono ?_ (n_has hS hf)
      rintro v h2 ⟨q1, q2⟩
      rw [q1, q2]; clear q1 q2 v h2
      refine t_ite (op := o_if 18 47 (fun x => x = 0) (fun _ => inferInstance)) (fe_X1_litBits 15) g_if (fun c2 => ?_) (fun c2 => ?_)
      · refine t_go (op := o_iinc 50 3 1) (fe_X1_litBits 47) (fun _ _ => rfl) ?_
        refine t_go (op := o_goto 4) (fe_X1_litBits 50) (fun _ _ => rfl) ?_
        have hs : litS F (h.1 (g + 2)) (h.1 g 5) i S = _ := if_neg (fun q => b2i_ne.mp c2 q.1)
        have hq2 : Q (some (.int (it (litS F (h.1 (g + 2)) (h.1 g 5)) j (i + 1) (litS F (h.1 (g + 2)) (h.1 g 5) i S)))) (setF h f F) := hq
        rw [hs] at hq2
        rw [nI_1]
        exact ih (i + 1) _ (by omega) hq2
      · refine t_go (op := o_aload 19 0) (fe_X1_litBits 18) (fun _ _ => rfl) ?_
        refine t_go (op := o_getR 22 1 1) (fe_X1_litBits 19) (g_getR hS hf (by decide) (fr_1_1 hS hf) (Nat.succ_pos _)) ?_
        refine t_go (op := o_iload 23 3) (fe_X1_litBits 22) (fun _ _ => rfl) ?_
        refine t_go (op := o_iald 24) (fe_X1_litBits 23) (g_iald hS (ly_1_2 hf) (by first | assumption | exact inb_1 ‹_› ‹_› (by decide))) ?_
        refine t_go (op := o_aload 25 1) (fe_X1_litBits 24) (fun _ _ => rfl) ?_
        refine t_go (op := o_getI 28 3 5) (fe_X1_litBits 25) (g_getI hS hg (by decide)) ?_
        refine t_ite (op := o_icmp 31 47 (fun x y => x < y) (fun _ _ => inferInstance)) (fe_X1_litBits 28) g_icmp (fun c3 => ?_) (fun c3 => ?_)
        · refine t_go (op := o_iinc 50 3 1) (fe_X1_litBits 47) (fun _ _ => rfl) ?_
          refine t_go (op := o_goto 4) (fe_X1_litBits 50) (fun _ _ => rfl) ?_
          rw [rd_2, setF_at (a := g) (by have := fire_grate hf hg; omega)] at c3
          have hs : litS F (h.1 (g + 2)) (h.1 g 5) i S = _ := if_neg (fun q => q.2.1 c3)
          have hq2 : Q (some (.int (it (litS F (h.1 (g + 2)) (h.1 g 5)) j (i + 1) (litS F (h.1 (g + 2)) (h.1 g 5) i S)))) (setF h f F) := hq
          rw [hs] at hq2
          rw [nI_1]
          exact ih (i + 1) _ (by omega) hq2
        · refine t_go (op := o_aload 32 1) (fe_X1_litBits 31) (fun _ _ => rfl) ?_
          refine t_go (op := o_getR 35 3 1) (fe_X1_litBits 32) (g_getR hS hg (by decide) (fr_3_1 hS hg) (Nat.succ_pos _)) ?_
          refine t_go (op := o_iload 36 3) (fe_X1_litBits 35) (fun _ _ => rfl) ?_
          refine t_go (op := o_iald 37) (fe_X1_litBits 36) (g_iald hS (ly_3_2 hg) (by first | assumption | exact inb_1 ‹_› ‹_› (by decide))) ?_
          refine t_go (op := o_ci 38 3) (fe_X1_litBits 37) (fun _ _ => rfl) ?_
          refine t_ite (op := o_icmp 41 47 (fun x y => x = y) (fun _ _ => inferInstance)) (fe_X1_litBits 38) g_icmp (fun c4 => ?_) (fun c4 => ?_)
          · refine t_go (op := o_iinc 50 3 1) (fe_X1_litBits 47) (fun _ _ => rfl) ?_
            refine t_go (op := o_goto 4) (fe_X1_litBits 50) (fun _ _ => rfl) ?_
            rw [rd_2, setF_at (a := g) (by have := fire_grate hf hg; omega)] at c3
            rw [setF_row (a := g + 2) (by have := fire_grate hf hg; omega)] at c4
            have hs : litS F (h.1 (g + 2)) (h.1 g 5) i S = _ := if_neg (fun q => q.2.2 c4)
            have hq2 : Q (some (.int (it (litS F (h.1 (g + 2)) (h.1 g 5)) j (i + 1) (litS F (h.1 (g + 2)) (h.1 g 5) i S)))) (setF h f F) := hq
            rw [hs] at hq2
            rw [nI_1]
            exact ih (i + 1) _ (by omega) hq2
          · refine t_go (op := o_iload 42 2) (fe_X1_litBits 41) (fun _ _ => rfl) ?_
            refine t_go (op := o_ci 43 1) (fe_X1_litBits 42) (fun _ _ => rfl) ?_
            refine t_go (op := o_iload 44 3) (fe_X1_litBits 43) (fun _ _ => rfl) ?_
            refine t_go (op := o_i2 45 (fun x y => x <<< (y &&& 31))) (fe_X1_litBits 44) (fun _ _ => rfl) ?_
            refine t_go (op := o_i2 46 (fun x y => x ||| y)) (fe_X1_litBits 45) (fun _ _ => rfl) ?_
            refine t_go (op := o_istore 47 2) (fe_X1_litBits 46) (fun _ _ => rfl) ?_
            refine t_go (op := o_iinc 50 3 1) (fe_X1_litBits 47) (fun _ _ => rfl) ?_
            refine t_go (op := o_goto 4) (fe_X1_litBits 50) (fun _ _ => rfl) ?_
            rw [rd_2, setF_at (a := g) (by have := fire_grate hf hg; omega)] at c3
            rw [setF_row (a := g + 2) (by have := fire_grate hf hg; omega)] at c4
            have hs : litS F (h.1 (g + 2)) (h.1 g 5) i S = _ := if_pos ⟨Classical.not_not.mp (fun q => c2 (b2i_f q)), c3, c4⟩
            have hq2 : Q (some (.int (it (litS F (h.1 (g + 2)) (h.1 g 5)) j (i + 1) (litS F (h.1 (g + 2)) (h.1 g 5) i S)))) (setF h f F) := hq
            rw [hs] at hq2
            rw [nI_1]
            exact ih (i + 1) _ (by omega) hq2
theorem m_litBits {d : Nat} {h : AHP} {f : Nat} {F : FS} {g : Nat} (hS : Std h) (hf : (lay f).1 = 1) (hg : (lay g).1 = 3)  : MM (d + 1) 18 [.ref f, .ref g] (setF h f F) (fun v h2 => v = some (.int (litB F (h.1 (g + 2)) (h.1 g 5))) ∧ h2 = (setF h f F)) := by
  refine ⟨Nat.le_of_ble_eq_true rfl, ?_⟩
  refine t_go (op := o_ci 1 0) (fe_X1_litBits 0) (fun _ _ => rfl) ?_
  refine t_go (op := o_istore 2 2) (fe_X1_litBits 1) (fun _ _ => rfl) ?_
  refine t_go (op := o_ci 3 0) (fe_X1_litBits 2) (fun _ _ => rfl) ?_
  refine t_go (op := o_istore 4 3) (fe_X1_litBits 3) (fun _ _ => rfl) ?_
  exact l_litBits hS hf hg 7 0 0 rfl ⟨rfl, rfl⟩
