/-! ===== draughts, the hour, halls ===== -/
def remI (x y : Int32) : Int32 := x - x / y * y
def drV (h : AHP) (g : Nat) (t : Int32) : Int32 := if h.1 g 7 ≤ 0 then 0 else if 0 ≤ t then (if 12 ≤ remI t (h.1 g 7) then 0 else h.1 (g + 12) (remI t (h.1 g 7)).toNatClampNeg) else 0
theorem remI_in {x y : Int32} (hx : 0 ≤ x) (hy : ¬ y ≤ 0) (h12 : ¬ 12 ≤ remI x y) : inb (remI x y) 12 := by
  have a1 : 0 ≤ x.toInt := Int32.le_iff_toInt_le.mp hx
  have a2 : ¬ y.toInt ≤ 0 := fun q => hy (Int32.le_iff_toInt_le.mpr q)
  have a3 : ¬ 12 ≤ (remI x y).toInt := fun q => h12 (Int32.le_iff_toInt_le.mpr q)
  obtain ⟨a, ha, ea⟩ := nI_of (x := x) (fun q => absurd (Int32.lt_iff_toInt_lt.mp q) (by rw [show (0 : Int32).toInt = 0 from rfl]; omega))
  obtain ⟨b, hb, eb⟩ := nI_of (x := y) (fun q => absurd (Int32.lt_iff_toInt_lt.mp q) (by rw [show (0 : Int32).toInt = 0 from rfl]; omega))
  have hb0 : 0 < b := by
    rcases Nat.eq_zero_or_pos b with q | q
    · rw [eb, q] at a2; exact absurd (show (nI 0).toInt ≤ 0 by decide) a2
    · exact q
  have e : remI x y = nI (a % b) := by rw [ea, eb]; exact pk_rem ha hb0 hb
  rw [e] at a3 ⊢
  have hm : a % b < 2 ^ 31 := Nat.lt_of_lt_of_le (Nat.mod_lt _ hb0) (Nat.le_of_lt hb)
  rw [nI_toInt hm] at a3
  exact inb_n (by omega) (by decide)
theorem m_draughtAt {d : Nat} {h : AHP} {g : Nat} {t : Int32} (hS : Std h) (hg : (lay g).1 = 3) : MM d 54 [.ref g, .int t] h (fun v h2 => v = some (.int (drV h g t)) ∧ h2 = h) := by
  refine ⟨Nat.le_of_ble_eq_true rfl, ?_⟩
  refine t_go (op := o_aload 1 0) (fe_X3_draughtAt 0) (fun _ _ => rfl) ?_
  refine t_go (op := o_getI 4 3 7) (fe_X3_draughtAt 1) (g_getI hS hg (by decide)) ?_
  refine t_ite (op := o_if 7 11 (fun x => x ≤ 0) (fun _ => inferInstance)) (fe_X3_draughtAt 4) g_if (fun c1 => ?_) (fun c1 => ?_)
  · refine t_go (op := o_ci 12 0) (fe_X3_draughtAt 11) (fun _ _ => rfl) ?_
    refine t_ret (op := o_iret) (fe_X3_draughtAt 12) (fun _ _ => rfl) ?_
    exact ⟨by unfold drV; rw [if_pos c1], rfl⟩
  · refine t_go (op := o_iload 8 1) (fe_X3_draughtAt 7) (fun _ _ => rfl) ?_
    refine t_ite (op := o_if 11 13 (fun x => 0 ≤ x) (fun _ => inferInstance)) (fe_X3_draughtAt 8) g_if (fun c2 => ?_) (fun c2 => ?_)
    · refine t_go (op := o_iload 14 1) (fe_X3_draughtAt 13) (fun _ _ => rfl) ?_
      refine t_go (op := o_aload 15 0) (fe_X3_draughtAt 14) (fun _ _ => rfl) ?_
      refine t_go (op := o_getI 18 3 7) (fe_X3_draughtAt 15) (g_getI hS hg (by decide)) ?_
      refine t_go (op := o_i2d 19 (fun x y => x - x / y * y)) (fe_X3_draughtAt 18) (g_i2d (fun q => c1 (by rw [q]; exact Int32.le_refl _))) ?_
      refine t_go (op := o_istore 20 2) (fe_X3_draughtAt 19) (fun _ _ => rfl) ?_
      refine t_go (op := o_iload 21 2) (fe_X3_draughtAt 20) (fun _ _ => rfl) ?_
      refine t_go (op := o_ci 23 12) (fe_X3_draughtAt 21) (fun _ _ => rfl) ?_
      refine t_ite (op := o_icmp 26 35 (fun x y => y ≤ x) (fun _ _ => inferInstance)) (fe_X3_draughtAt 23) g_icmp (fun c3 => ?_) (fun c3 => ?_)
      · refine t_go (op := o_ci 36 0) (fe_X3_draughtAt 35) (fun _ _ => rfl) ?_
        refine t_ret (op := o_iret) (fe_X3_draughtAt 36) (fun _ _ => rfl) ?_
        exact ⟨by unfold drV; rw [if_neg c1, if_pos c2, if_pos (show 12 ≤ remI t (h.1 g 7) from c3)], rfl⟩
      · refine t_go (op := o_aload 27 0) (fe_X3_draughtAt 26) (fun _ _ => rfl) ?_
        refine t_go (op := o_getR 30 3 8) (fe_X3_draughtAt 27) (g_getR hS hg (by decide) (fr_3_8 hS hg) (Nat.succ_pos _)) ?_
        refine t_go (op := o_iload 31 2) (fe_X3_draughtAt 30) (fun _ _ => rfl) ?_
        refine t_go (op := o_iald 32) (fe_X3_draughtAt 31) (g_iald hS (ly_3_12 hg) (remI_in c2 c1 c3)) ?_
        refine t_go (op := o_goto 36) (fe_X3_draughtAt 32) (fun _ _ => rfl) ?_
        refine t_ret (op := o_iret) (fe_X3_draughtAt 36) (fun _ _ => rfl) ?_
        exact ⟨by unfold drV; rw [if_neg c1, if_pos c2, if_neg (show ¬ 12 ≤ remI t (h.1 g 7) from c3)]; rfl, rfl⟩
    · refine t_go (op := o_ci 12 0) (fe_X3_draughtAt 11) (fun _ _ => rfl) ?_
      refine t_ret (op := o_iret) (fe_X3_draughtAt 12) (fun _ _ => rfl) ?_
      exact ⟨by unfold drV; rw [if_neg c1, if_neg c2], rfl⟩
noncomputable def fallS (c : Nat) (F : FS) : FS := carryF F (F.2.2.2.1 (nI c).toNatClampNeg) (nI c - 4)
noncomputable def passF (L : Int32 → Int32 → Int32 → Int32 → Int32) (k : Nat → Int32) (c air : Int32) (F : FS) : FS × Int32 :=
  (((it fallS 8 4 (it (burnS k (litB F k c)) 7 0 (warmF L k (litB F k c) air F, 0)).1).1, (it fallS 8 4 (it (burnS k (litB F k c)) 7 0 (warmF L k (litB F k c) air F, 0)).1).2.1, (it fallS 8 4 (it (burnS k (litB F k c)) 7 0 (warmF L k (litB F k c) air F, 0)).1).2.2.1, (it fallS 8 4 (it (burnS k (litB F k c)) 7 0 (warmF L k (litB F k c) air F, 0)).1).2.2.2.1, (it fallS 8 4 (it (burnS k (litB F k c)) 7 0 (warmF L k (litB F k c) air F, 0)).1).2.2.2.2.1 + 1, (it fallS 8 4 (it (burnS k (litB F k c)) 7 0 (warmF L k (litB F k c) air F, 0)).1).2.2.2.2.2), (it (burnS k (litB F k c)) 7 0 (warmF L k (litB F k c) air F, 0)).2)
def airV (h : AHP) (g : Nat) (b : Int32) (F : FS) : Int32 := if b = 0 then 0 else if F.2.2.2.2.2 = 0 then drV h g F.2.2.2.2.1 else 0
theorem drV_setF {h : AHP} {f g : Nat} {F : FS} {t : Int32} (hf : (lay f).1 = 1) (hg : (lay g).1 = 3) : drV (setF h f F) g t = drV h g t := by
  unfold drV
  have h1 := fire_grate2 hf hg
  rw [setF_row (a := g) (by omega), setF_row (a := g + 12) (by omega)]
theorem drV_sc {h k : AHP} {g : Nat} {t : Int32} (hg : (lay g).1 = 3) (hk : Sc h k) : drV k g t = drV h g t := by
  unfold drV
  have h1 := grate_scr hg
  rw [hk.2 g (by omega), hk.2 (g + 12) (by omega)]
theorem LawOK_sc {h k : AHP} {g n : Nat} (hg : (lay g).1 = 3) (hk : Sc h k) (hL : LawOK h g n) : LawOK k g n := by
  unfold LawOK
  have h1 := grate_scr hg
  rw [hk.2 (g + 8) (by omega), hk.2 (g + 9) (by omega)]
  exact hL
theorem lawV_sc {h k : AHP} {g n : Nat} (hg : (lay g).1 = 3) (hk : Sc h k) : lawV k g n = lawV h g n := by
  funext a b c e
  unfold lawV
  have h1 := grate_scr hg
  rw [hk.2 (g + 9) (by omega)]
theorem l_pass {d : Nat} {h : AHP} {f : Nat} {b lit burnt : Int32} {x1 : Option Value} (hS : Std h) (hf : (lay f).1 = 1)  {Q : Option Value → AHP → Prop} : ∀ (j i : Nat) (S : FS), i + j = 12 → Q (some (.int burnt)) (setF h f ((it fallS j i S).1, (it fallS j i S).2.1, (it fallS j i S).2.2.1, (it fallS j i S).2.2.2.1, (it fallS j i S).2.2.2.2.1 + 1, (it fallS j i S).2.2.2.2.2)) → TT (d + 2) 17 46 [some (.ref f), x1, some (.int b), some (.int lit), some (.int burnt), some (.int (nI i))] [] (setF h f S) Q := by
  intro j
  induction j with
  | zero =>
    intro i S hi  hq
    have hN : i = 12 := by omega
    refine t_go (op := o_iload 48 5) (fe_X1_pass 46) (fun _ _ => rfl) ?_
    refine t_go (op := o_ci 50 12) (fe_X1_pass 48) (fun _ _ => rfl) ?_
    refine t_ite (op := o_icmp 53 74 (fun x y => y ≤ x) (fun _ _ => inferInstance)) (fe_X1_pass 50) g_icmp (fun c1 => ?_) (fun c1 => ?_)
    · refine t_go (op := o_aload 75 0) (fe_X1_pass 74) (fun _ _ => rfl) ?_
      refine t_go (op := o_dupA 76) (fe_X1_pass 75) (fun _ _ => rfl) ?_
      refine t_go (op := o_getI 79 1 4) (fe_X1_pass 76) (g_getI hS hf (by decide)) ?_
      refine t_go (op := o_ci 80 1) (fe_X1_pass 79) (fun _ _ => rfl) ?_
      refine t_go (op := o_i2 81 (fun x y => x + y)) (fe_X1_pass 80) (fun _ _ => rfl) ?_
      refine t_go (op := o_putI 84 1 4) (fe_X1_pass 81) (g_putI hS hf (by decide)) ?_
      refine t_go (op := o_iload 86 4) (fe_X1_pass 84) (fun _ _ => rfl) ?_
      refine t_ret (op := o_iret) (fe_X1_pass 86) (fun _ _ => rfl) ?_
      rw [rd_h, setF_h]
      exact hq
    · exact absurd (by rw [hN]; exact Int32.le_refl _) c1
  | succ j ih =>
    intro i S hi  hq
    have hb : inb (nI i) 12 := inb_n (by omega) (by decide)
    refine t_go (op := o_iload 48 5) (fe_X1_pass 46) (fun _ _ => rfl) ?_
    refine t_go (op := o_ci 50 12) (fe_X1_pass 48) (fun _ _ => rfl) ?_
    refine t_ite (op := o_icmp 53 74 (fun x y => y ≤ x) (fun _ _ => inferInstance)) (fe_X1_pass 50) g_icmp (fun c1 => ?_) (fun c1 => ?_)
    · exact absurd c1 (nI_ge (show i < 12 by omega) (by decide))
    · refine t_go (op := o_aload 54 0) (fe_X1_pass 53) (fun _ _ => rfl) ?_
      refine t_go (op := o_aload 55 0) (fe_X1_pass 54) (fun _ _ => rfl) ?_
      refine t_go (op := o_getR 58 1 3) (fe_X1_pass 55) (g_getR hS hf (by decide) (fr_1_3 hS hf) (Nat.succ_pos _)) ?_
      refine t_go (op := o_iload 60 5) (fe_X1_pass 58) (fun _ _ => rfl) ?_
      refine t_go (op := o_iald 61) (fe_X1_pass 60) (g_iald hS (ly_1_4 hf) hb) ?_
      refine t_go (op := o_iload 63 5) (fe_X1_pass 61) (fun _ _ => rfl) ?_
      refine t_go (op := o_ci 64 4) (fe_X1_pass 63) (fun _ _ => rfl) ?_
      refine t_go (op := o_i2 65 (fun x y => x - y)) (fe_X1_pass 64) (fun _ _ => rfl) ?_
      rw [rd_4]
      refine t_call (op := o_callV 68 14 3 1) (fe_X1_pass 65) (g_callV hS hf (by decide) rfl rfl rfl (Nat.le_of_ble_eq_true rfl)) ?_
      refine M_mono ?_ (n_carry hS hf)
      rintro v h2 ⟨q1, q2⟩
      rw [q1, q2]; clear q1 q2 v h2
      refine t_go (op := o_iinc 71 5 1) (fe_X1_pass 68) (fun _ _ => rfl) ?_
      refine t_go (op := o_goto 46) (fe_X1_pass 71) (fun _ _ => rfl) ?_
      rw [nI_1]
      exact ih (i + 1) _ (by omega) hq
theorem m_pass {d : Nat} {h : AHP} {f g : Nat} {F : FS} {b : Int32} {n : Nat} (hS : Std h) (hf : (lay f).1 = 1) (hg : (lay g).1 = 3) (hL : LawOK h g n) : MM (d + 4) 17 [.ref f, .ref g, .int b] (setF h f F) (fun v h2 => v = some (.int (passF (lawV h g n) (h.1 (g + 2)) (h.1 g 5) (airV h g b F) F).2) ∧ ∃ k, Sc h k ∧ h2 = setF k f (passF (lawV h g n) (h.1 (g + 2)) (h.1 g 5) (airV h g b F) F).1) := by
  refine ⟨Nat.le_of_ble_eq_true rfl, ?_⟩
  refine t_go (op := o_aload 1 0) (fe_X1_pass 0) (fun _ _ => rfl) ?_
  refine t_go (op := o_aload 2 1) (fe_X1_pass 1) (fun _ _ => rfl) ?_
  refine t_call (op := o_callV 5 18 2 1) (fe_X1_pass 2) (g_callV hS hf (by decide) rfl rfl rfl (Nat.le_of_ble_eq_true rfl)) ?_
  refine M_mono ?_ (m_litBits hS hf hg)
  rintro v h2 ⟨q1, q2⟩
  rw [q1, q2]; clear q1 q2 v h2
  refine t_go (op := o_istore 6 3) (fe_X1_pass 5) (fun _ _ => rfl) ?_
  refine t_go (op := o_aload 7 0) (fe_X1_pass 6) (fun _ _ => rfl) ?_
  refine t_go (op := o_aload 8 1) (fe_X1_pass 7) (fun _ _ => rfl) ?_
  refine t_go (op := o_iload 9 3) (fe_X1_pass 8) (fun _ _ => rfl) ?_
  refine t_go (op := o_iload 10 2) (fe_X1_pass 9) (fun _ _ => rfl) ?_
  refine t_ite (op := o_if 13 31 (fun x => x = 0) (fun _ => inferInstance)) (fe_X1_pass 10) g_if (fun c1 => ?_) (fun c1 => ?_)
  · refine t_go (op := o_ci 32 0) (fe_X1_pass 31) (fun _ _ => rfl) ?_
    refine t_call (op := o_callV 35 27 4 1) (fe_X1_pass 32) (g_callV hS hf (by decide) rfl rfl rfl (Nat.le_of_ble_eq_true rfl)) ?_
    refine M_mono ?_ (m_warm hS hf hg hL)
    rintro v h2 ⟨q1, k, hk, q2⟩
    rw [q1, q2]; clear q1 q2 v h2
    have hS0 := hS
    replace hS : Std k := hk.std hS
    refine t_go (op := o_aload 36 0) (fe_X1_pass 35) (fun _ _ => rfl) ?_
    refine t_go (op := o_aload 37 1) (fe_X1_pass 36) (fun _ _ => rfl) ?_
    refine t_go (op := o_iload 38 3) (fe_X1_pass 37) (fun _ _ => rfl) ?_
    refine t_call (op := o_callV 41 28 3 1) (fe_X1_pass 38) (g_callV hS hf (by decide) rfl rfl rfl (Nat.le_of_ble_eq_true rfl)) ?_
    refine M_mono ?_ (m_burn hS hf hg)
    rintro v h2 ⟨q1, q2⟩
    rw [q1, q2, hk.2 (g + 2) (by have := grate_scr hg; omega)]; clear q1 q2 v h2
    refine t_go (op := o_istore 43 4) (fe_X1_pass 41) (fun _ _ => rfl) ?_
    refine t_go (op := o_ci 44 4) (fe_X1_pass 43) (fun _ _ => rfl) ?_
    refine t_go (op := o_istore 46 5) (fe_X1_pass 44) (fun _ _ => rfl) ?_
    have ha : airV h g b F = 0 := by unfold airV; rw [if_pos c1]
    exact l_pass hS hf 8 4 _ rfl ⟨by unfold passF; rw [ha], k, hk, by unfold passF; rw [ha]⟩
  · refine t_go (op := o_aload 14 0) (fe_X1_pass 13) (fun _ _ => rfl) ?_
    refine t_go (op := o_getI 17 1 5) (fe_X1_pass 14) (g_getI hS hf (by decide)) ?_
    rw [rd_b]
    refine t_ite (op := o_if 31 20 (fun x => x = 0) (fun _ => inferInstance)) (fe_X1_pass 17) g_if (fun c2 => ?_) (fun c2 => ?_)
    · refine t_go (op := o_aload 21 1) (fe_X1_pass 20) (fun _ _ => rfl) ?_
      refine t_go (op := o_aload 22 0) (fe_X1_pass 21) (fun _ _ => rfl) ?_
      refine t_go (op := o_getI 25 1 4) (fe_X1_pass 22) (g_getI hS hf (by decide)) ?_
      refine t_call (op := o_callV 28 54 2 3) (fe_X1_pass 25) (g_callV hS hg (by decide) rfl rfl rfl (Nat.le_of_ble_eq_true rfl)) ?_
      refine M_mono ?_ (m_draughtAt hS hg)
      rintro v h2 ⟨q1, q2⟩
      rw [q1, q2]; clear q1 q2 v h2
      rw [rd_h, drV_setF hf hg]
      refine t_go (op := o_goto 32) (fe_X1_pass 28) (fun _ _ => rfl) ?_
      refine t_call (op := o_callV 35 27 4 1) (fe_X1_pass 32) (g_callV hS hf (by decide) rfl rfl rfl (Nat.le_of_ble_eq_true rfl)) ?_
      refine M_mono ?_ (m_warm hS hf hg hL)
      rintro v h2 ⟨q1, k, hk, q2⟩
      rw [q1, q2]; clear q1 q2 v h2
      have hS0 := hS
      replace hS : Std k := hk.std hS
      refine t_go (op := o_aload 36 0) (fe_X1_pass 35) (fun _ _ => rfl) ?_
      refine t_go (op := o_aload 37 1) (fe_X1_pass 36) (fun _ _ => rfl) ?_
      refine t_go (op := o_iload 38 3) (fe_X1_pass 37) (fun _ _ => rfl) ?_
      refine t_call (op := o_callV 41 28 3 1) (fe_X1_pass 38) (g_callV hS hf (by decide) rfl rfl rfl (Nat.le_of_ble_eq_true rfl)) ?_
      refine M_mono ?_ (m_burn hS hf hg)
      rintro v h2 ⟨q1, q2⟩
      rw [q1, q2, hk.2 (g + 2) (by have := grate_scr hg; omega)]; clear q1 q2 v h2
      refine t_go (op := o_istore 43 4) (fe_X1_pass 41) (fun _ _ => rfl) ?_
      refine t_go (op := o_ci 44 4) (fe_X1_pass 43) (fun _ _ => rfl) ?_
      refine t_go (op := o_istore 46 5) (fe_X1_pass 44) (fun _ _ => rfl) ?_
      have ha : airV h g b F = drV h g F.2.2.2.2.1 := by unfold airV; rw [if_neg c1, if_pos c2]
      exact l_pass hS hf 8 4 _ rfl ⟨by unfold passF; rw [ha], k, hk, by unfold passF; rw [ha]⟩
    · refine t_go (op := o_ci 32 0) (fe_X1_pass 31) (fun _ _ => rfl) ?_
      refine t_call (op := o_callV 35 27 4 1) (fe_X1_pass 32) (g_callV hS hf (by decide) rfl rfl rfl (Nat.le_of_ble_eq_true rfl)) ?_
      refine M_mono ?_ (m_warm hS hf hg hL)
      rintro v h2 ⟨q1, k, hk, q2⟩
      rw [q1, q2]; clear q1 q2 v h2
      have hS0 := hS
      replace hS : Std k := hk.std hS
      refine t_go (op := o_aload 36 0) (fe_X1_pass 35) (fun _ _ => rfl) ?_
      refine t_go (op := o_aload 37 1) (fe_X1_pass 36) (fun _ _ => rfl) ?_
      refine t_go (op := o_iload 38 3) (fe_X1_pass 37) (fun _ _ => rfl) ?_
      refine t_call (op := o_callV 41 28 3 1) (fe_X1_pass 38) (g_callV hS hf (by decide) rfl rfl rfl (Nat.le_of_ble_eq_true rfl)) ?_
      refine M_mono ?_ (m_burn hS hf hg)
      rintro v h2 ⟨q1, q2⟩
      rw [q1, q2, hk.2 (g + 2) (by have := grate_scr hg; omega)]; clear q1 q2 v h2
      refine t_go (op := o_istore 43 4) (fe_X1_pass 41) (fun _ _ => rfl) ?_
      refine t_go (op := o_ci 44 4) (fe_X1_pass 43) (fun _ _ => rfl) ?_
      refine t_go (op := o_istore 46 5) (fe_X1_pass 44) (fun _ _ => rfl) ?_
      have ha : airV h g b F = 0 := by unfold airV; rw [if_neg c1, if_neg c2]
      exact l_pass hS hf 8 4 _ rfl ⟨by unfold passF; rw [ha], k, hk, by unfold passF; rw [ha]⟩
