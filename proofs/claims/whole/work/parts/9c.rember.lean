/-! ===== the reference reads an ember ===== -/
theorem lr_tc {d : Nat} {h : AHP} {TK : Nat → Tk} {n i f m : Nat} (hR : RQ h TK n) (hm : h.1 183 17 = nI m) (hm7 : m ≤ 7) {x1 : Int32} {Q : Option Value → AHP → Prop} : ∀ (j a : Nat) (_ : Unit), a + j = m → ∀ x2 : Int32, x2 = b2i (∃ k, k < a ∧ h.1 189 (55 + 4 * k) = x1) → (∀ x2, x2 = b2i (∃ k, k < m ∧ h.1 189 (55 + 4 * k) = x1) → TT d 183 54 [some (.ref 183), some (.int x1), some (.int x2), some (.int (nI m))] [] (AT h i f) Q) → TT d 183 13 [some (.ref 183), some (.int x1), some (.int x2), some (.int (nI a))] [] (AT h i f) Q := by
  intro j
  induction j with
  | zero =>
    intro a _ hja x2 hx hq
    have hN : a = m := by omega
    have hS := hR.1
    have hn := hR.2.2.1
    refine t_go (op := o_iload 14 3) (fe_X12_takeCell 13) (fun _ _ => rfl) ?_
    refine t_go (op := o_aload 15 0) (fe_X12_takeCell 14) (fun _ _ => rfl) ?_
    refine t_go (op := o_getI 18 11 17) (fe_X12_takeCell 15) (g_getI hS (show (lay 183).1 = 11 by decide) (by decide)) ?_
    rw [show (AT h i f).1 183 17 = nI m from (AT_o (by decide) (by decide)).trans hm]
    refine t_ite (op := o_icmp 21 54 (fun x y => y ≤ x) (fun _ _ => inferInstance)) (fe_X12_takeCell 18) g_icmp (fun c1 => ?_) (fun c1 => ?_)
    · rw [hN] at hx
      subst hN
      exact hq _ hx
    · exact absurd (by rw [hN]; exact Int32.le_refl _) c1
  | succ j ih =>
    intro a _ hja x2 hx hq
    have hi7 : a < m := by omega
    have hS := hR.1
    have hn := hR.2.2.1
    refine t_go (op := o_iload 14 3) (fe_X12_takeCell 13) (fun _ _ => rfl) ?_
    refine t_go (op := o_aload 15 0) (fe_X12_takeCell 14) (fun _ _ => rfl) ?_
    refine t_go (op := o_getI 18 11 17) (fe_X12_takeCell 15) (g_getI hS (show (lay 183).1 = 11 by decide) (by decide)) ?_
    rw [show (AT h i f).1 183 17 = nI m from (AT_o (by decide) (by decide)).trans hm]
    refine t_ite (op := o_icmp 21 54 (fun x y => y ≤ x) (fun _ _ => inferInstance)) (fe_X12_takeCell 18) g_icmp (fun c1 => ?_) (fun c1 => ?_)
    · exact absurd c1 (nI_ge hi7 (by omega))
    · refine t_go (op := o_iload 22 2) (fe_X12_takeCell 21) (fun _ _ => rfl) ?_
      refine t_ite (op := o_if 42 25 (fun x => x = 0) (fun _ => inferInstance)) (fe_X12_takeCell 22) g_if (fun c2 => ?_) (fun c2 => ?_)
      · refine t_go (op := o_aload 26 0) (fe_X12_takeCell 25) (fun _ _ => rfl) ?_
        refine t_go (op := o_getR 29 11 10) (fe_X12_takeCell 26) (g_getR hS (show (lay 183).1 = 11 by decide) (by decide) (fr_11_10 hS) (by decide)) ?_
        refine t_go (op := o_ci 31 54) (fe_X12_takeCell 29) (fun _ _ => rfl) ?_
        refine t_go (op := o_ci 32 4) (fe_X12_takeCell 31) (fun _ _ => rfl) ?_
        refine t_go (op := o_iload 33 3) (fe_X12_takeCell 32) (fun _ _ => rfl) ?_
        refine t_go (op := o_i2 34 (fun x y => x * y)) (fe_X12_takeCell 33) (fun _ _ => rfl) ?_
        refine t_go (op := o_i2 35 (fun x y => x + y)) (fe_X12_takeCell 34) (fun _ _ => rfl) ?_
        refine t_go (op := o_ci 36 1) (fe_X12_takeCell 35) (fun _ _ => rfl) ?_
        refine t_go (op := o_i2 37 (fun x y => x + y)) (fe_X12_takeCell 36) (fun _ _ => rfl) ?_
        refine t_go (op := o_iald 38) (fe_X12_takeCell 37) (g_ialdN hS (show lay 189 = (20, 100) by decide) (nIa (nIa (nIl 54) (nIm (nIl 4) rfl)) (nIl 1)) (by omega) (by decide)) ?_
        rw [show (AT h i f).1 189 (54 + 4 * a + 1) = h.1 189 (54 + 4 * a + 1) from congrFun (AT_r (by decide)) _]
        refine t_go (op := o_iload 39 1) (fe_X12_takeCell 38) (fun _ _ => rfl) ?_
        refine t_ite (op := o_icmp 46 42 (fun x y => x = y) (fun _ _ => inferInstance)) (fe_X12_takeCell 39) g_icmp (fun c3 => ?_) (fun c3 => ?_)
        · refine t_go (op := o_ci 43 1) (fe_X12_takeCell 42) (fun _ _ => rfl) ?_
          refine t_go (op := o_goto 47) (fe_X12_takeCell 43) (fun _ _ => rfl) ?_
          refine t_go (op := o_istore 48 2) (fe_X12_takeCell 47) (fun _ _ => rfl) ?_
          refine t_go (op := o_iinc 51 3 1) (fe_X12_takeCell 48) (fun _ _ => rfl) ?_
          refine t_go (op := o_goto 13) (fe_X12_takeCell 51) (fun _ _ => rfl) ?_
          rw [nI_1]
          exact ih (a + 1) () (by omega) _ (by rw [b2i_t ⟨a, Nat.lt_succ_self a, (by rw [← c3, show 55 + 4 * a = 54 + 4 * a + 1 by omega])⟩]) hq
        · refine t_go (op := o_ci 47 0) (fe_X12_takeCell 46) (fun _ _ => rfl) ?_
          refine t_go (op := o_istore 48 2) (fe_X12_takeCell 47) (fun _ _ => rfl) ?_
          refine t_go (op := o_iinc 51 3 1) (fe_X12_takeCell 48) (fun _ _ => rfl) ?_
          refine t_go (op := o_goto 13) (fe_X12_takeCell 51) (fun _ _ => rfl) ?_
          rw [nI_1]
          exact ih (a + 1) () (by omega) _ (by
            rw [b2i_f]
            rintro ⟨k, k1, k2⟩
            rcases Nat.lt_or_ge k a with q | q
            · exact b2i_z (p := ∃ k, k < a ∧ h.1 189 (55 + 4 * k) = x1) (hx.symm.trans c2) ⟨k, q, k2⟩
            · exact c3 (by rw [← k2, show k = a by omega, show 55 + 4 * a = 54 + 4 * a + 1 by omega])) hq
      · refine t_go (op := o_ci 43 1) (fe_X12_takeCell 42) (fun _ _ => rfl) ?_
        refine t_go (op := o_goto 47) (fe_X12_takeCell 43) (fun _ _ => rfl) ?_
        refine t_go (op := o_istore 48 2) (fe_X12_takeCell 47) (fun _ _ => rfl) ?_
        refine t_go (op := o_iinc 51 3 1) (fe_X12_takeCell 48) (fun _ _ => rfl) ?_
        refine t_go (op := o_goto 13) (fe_X12_takeCell 51) (fun _ _ => rfl) ?_
        rw [nI_1]
        exact ih (a + 1) () (by omega) _ (by rw [b2i_t (let ⟨k, k1, k2⟩ := (b2i_nn (p := ∃ k, k < a ∧ h.1 189 (55 + 4 * k) = x1) (by rw [← hx]; exact c2)); ⟨k, Nat.lt_succ_of_lt k1, k2⟩)]) hq
theorem r_tcF {d : Nat} {h : AHP} {TK : Nat → Tk} {n i f m : Nat} (hR : RQ h TK n) (hm : h.1 183 17 = nI m) (hm7 : m ≤ 7) (hf : f < 100000) (h0 : ¬ f = 0) {x1 : Int32} {Q : Option Value → AHP → Prop} (hq : Q (some (.int x1)) (AT h i f)) : TT d 183 9 [some (.ref 183), some (.int x1), none, none] [] (AT h i f) Q := by
  have hS := hR.1
  have hB := hR.2.2.2.1
  have hn := hR.2.2.1
  refine t_go (op := o_ci 10 0) (fe_X12_takeCell 9) (fun _ _ => rfl) ?_
  refine t_go (op := o_istore 11 2) (fe_X12_takeCell 10) (fun _ _ => rfl) ?_
  refine t_go (op := o_ci 12 0) (fe_X12_takeCell 11) (fun _ _ => rfl) ?_
  refine t_go (op := o_istore 13 3) (fe_X12_takeCell 12) (fun _ _ => rfl) ?_
  refine lr_tc (i := i) (f := f) hR hm hm7 m 0 () (by omega) 0 (b2i_f (fun ⟨k, k1, _⟩ => absurd k1 (Nat.not_lt_zero _))).symm (fun x2 hx2 => ?_)
  refine t_go (op := o_aload 55 0) (fe_X12_takeCell 54) (fun _ _ => rfl) ?_
  refine t_go (op := o_getI 58 11 8) (fe_X12_takeCell 55) (g_getI hS (show (lay 183).1 = 11 by decide) (by decide)) ?_
  rw [show (AT h i f).1 183 8 = nI f from AT_8]
  refine t_ite (op := o_if 80 61 (fun x => x = 0) (fun _ => inferInstance)) (fe_X12_takeCell 58) g_if (fun c1 => ?_) (fun c1 => ?_)
  · exact absurd ((f_0 hf).mp c1) h0
  · refine t_go (op := o_iload 81 1) (fe_X12_takeCell 80) (fun _ _ => rfl) ?_
    refine t_ret (op := o_iret) (fe_X12_takeCell 81) (fun _ _ => rfl) ?_
    exact hq
theorem r_tcU {d : Nat} {h : AHP} {TK : Nat → Tk} {n i m : Nat} (hR : RQ h TK n) (hm : h.1 183 17 = nI m) (hm7 : m ≤ 7) (hi : i ≤ n) {x1 : Int32} (hu : ∃ k, k < m ∧ h.1 189 (55 + 4 * k) = x1) {Q : Option Value → AHP → Prop} (hq : Q (some (.int x1)) (AT h i (wrF TK 3 i 0))) : TT (d + 1) 183 9 [some (.ref 183), some (.int x1), none, none] [] (AT h (i + 1) 0) Q := by
  have hS := hR.1
  have hB := hR.2.2.2.1
  have hn := hR.2.2.1
  refine t_go (op := o_ci 10 0) (fe_X12_takeCell 9) (fun _ _ => rfl) ?_
  refine t_go (op := o_istore 11 2) (fe_X12_takeCell 10) (fun _ _ => rfl) ?_
  refine t_go (op := o_ci 12 0) (fe_X12_takeCell 11) (fun _ _ => rfl) ?_
  refine t_go (op := o_istore 13 3) (fe_X12_takeCell 12) (fun _ _ => rfl) ?_
  refine lr_tc (i := i + 1) (f := 0) hR hm hm7 m 0 () (by omega) 0 (b2i_f (fun ⟨k, k1, _⟩ => absurd k1 (Nat.not_lt_zero _))).symm (fun x2 hx2 => ?_)
  refine t_go (op := o_aload 55 0) (fe_X12_takeCell 54) (fun _ _ => rfl) ?_
  refine t_go (op := o_getI 58 11 8) (fe_X12_takeCell 55) (g_getI hS (show (lay 183).1 = 11 by decide) (by decide)) ?_
  rw [show (AT h (i + 1) 0).1 183 8 = nI 0 from AT_8]
  refine t_ite (op := o_if 80 61 (fun x => x = 0) (fun _ => inferInstance)) (fe_X12_takeCell 58) g_if (fun c1 => ?_) (fun c1 => ?_)
  · refine t_go (op := o_iload 62 2) (fe_X12_takeCell 61) (fun _ _ => rfl) ?_
    refine t_ite (op := o_if 65 80 (fun x => x = 0) (fun _ => inferInstance)) (fe_X12_takeCell 62) g_if (fun c2 => ?_) (fun c2 => ?_)
    · exact absurd hu (b2i_z (hx2.symm.trans c2))
    · refine t_go (op := o_aload 66 0) (fe_X12_takeCell 65) (fun _ _ => rfl) ?_
      refine t_go (op := o_dupA 67) (fe_X12_takeCell 66) (fun _ _ => rfl) ?_
      refine t_go (op := o_getI 70 11 7) (fe_X12_takeCell 67) (g_getI hS (show (lay 183).1 = 11 by decide) (by decide)) ?_
      rw [show (AT h (i + 1) 0).1 183 7 = nI (i + 1) from AT_7]
      refine t_go (op := o_ci 71 1) (fe_X12_takeCell 70) (fun _ _ => rfl) ?_
      refine t_go (op := o_i2 72 (fun x y => x - y)) (fe_X12_takeCell 71) (fun _ _ => rfl) ?_
      refine t_go (op := o_putI 75 11 7) (fe_X12_takeCell 72) (g_putI hS (show (lay 183).1 = 11 by decide) (by decide)) ?_
      refine T_heap ((congrArg (sI (AT h (i + 1) 0) 183 7) (show (fun x y : Int32 => x - y) (nI (i + 1)) 1 = nI i from (nIs (a := i + 1) (b := 1) rfl rfl (by omega)).trans (by rw [Nat.add_sub_cancel]))).trans AT_7s).symm ?_
      refine t_go (op := o_aload 76 0) (fe_X12_takeCell 75) (fun _ _ => rfl) ?_
      refine t_go (op := o_ci 77 3) (fe_X12_takeCell 76) (fun _ _ => rfl) ?_
      refine t_call (op := o_callV 80 166 2 11) (fe_X12_takeCell 77) (g_callV hS (show (lay 183).1 = 11 by decide) (by decide) rfl rfl rfl (Nat.le_of_ble_eq_true rfl)) ?_
      refine M_eq (r_wrong (c := 3) (f := 0) hR hi (by decide)) ?_
      refine t_go (op := o_iload 81 1) (fe_X12_takeCell 80) (fun _ _ => rfl) ?_
      refine t_ret (op := o_iret) (fe_X12_takeCell 81) (fun _ _ => rfl) ?_
      exact hq
  · exact absurd rfl c1
theorem r_tcY {d : Nat} {h : AHP} {TK : Nat → Tk} {n i m : Nat} (hR : RQ h TK n) (hm : h.1 183 17 = nI m) (hm7 : m ≤ 7) {x1 : Int32} (hu : ¬ (∃ k, k < m ∧ h.1 189 (55 + 4 * k) = x1)) {Q : Option Value → AHP → Prop} (hq : Q (some (.int x1)) (AT h i 0)) : TT d 183 9 [some (.ref 183), some (.int x1), none, none] [] (AT h i 0) Q := by
  have hS := hR.1
  have hB := hR.2.2.2.1
  have hn := hR.2.2.1
  refine t_go (op := o_ci 10 0) (fe_X12_takeCell 9) (fun _ _ => rfl) ?_
  refine t_go (op := o_istore 11 2) (fe_X12_takeCell 10) (fun _ _ => rfl) ?_
  refine t_go (op := o_ci 12 0) (fe_X12_takeCell 11) (fun _ _ => rfl) ?_
  refine t_go (op := o_istore 13 3) (fe_X12_takeCell 12) (fun _ _ => rfl) ?_
  refine lr_tc (i := i) (f := 0) hR hm hm7 m 0 () (by omega) 0 (b2i_f (fun ⟨k, k1, _⟩ => absurd k1 (Nat.not_lt_zero _))).symm (fun x2 hx2 => ?_)
  refine t_go (op := o_aload 55 0) (fe_X12_takeCell 54) (fun _ _ => rfl) ?_
  refine t_go (op := o_getI 58 11 8) (fe_X12_takeCell 55) (g_getI hS (show (lay 183).1 = 11 by decide) (by decide)) ?_
  rw [show (AT h i 0).1 183 8 = nI 0 from AT_8]
  refine t_ite (op := o_if 80 61 (fun x => x = 0) (fun _ => inferInstance)) (fe_X12_takeCell 58) g_if (fun c1 => ?_) (fun c1 => ?_)
  · refine t_go (op := o_iload 62 2) (fe_X12_takeCell 61) (fun _ _ => rfl) ?_
    refine t_ite (op := o_if 65 80 (fun x => x = 0) (fun _ => inferInstance)) (fe_X12_takeCell 62) g_if (fun c2 => ?_) (fun c2 => ?_)
    · refine t_go (op := o_iload 81 1) (fe_X12_takeCell 80) (fun _ _ => rfl) ?_
      refine t_ret (op := o_iret) (fe_X12_takeCell 81) (fun _ _ => rfl) ?_
      exact hq
    · exact absurd (b2i_nn (fun q => c2 (hx2.trans q))) hu
  · exact absurd rfl c1
theorem r_takeCellF {d : Nat} {h : AHP} {TK : Nat → Tk} {n i f : Nat} (hR : RQ h TK n) (hi : i ≤ n) (hf : f < 100000) (h0 : ¬ f = 0) {m : Nat} (hm : h.1 183 17 = nI m) (hm7 : m ≤ 7) : MM (d + 4) 183 [.ref 183] (AT h i f) (fun v h2 => v = some (.int 0) ∧ h2 = AT h i f) := by
  refine ⟨Nat.le_of_ble_eq_true rfl, ?_⟩
  have hS := hR.1
  have hB := hR.2.2.2.1
  have hn := hR.2.2.1
  refine t_go (op := o_aload 1 0) (fe_X12_takeCell 0) (fun _ _ => rfl) ?_
  refine t_go (op := o_ci 2 1) (fe_X12_takeCell 1) (fun _ _ => rfl) ?_
  refine t_go (op := o_ci 3 0) (fe_X12_takeCell 2) (fun _ _ => rfl) ?_
  refine t_go (op := o_ci 5 11) (fe_X12_takeCell 3) (fun _ _ => rfl) ?_
  refine t_call (op := o_callV 8 176 4 11) (fe_X12_takeCell 5) (g_callV hS (show (lay 183).1 = 11 by decide) (by decide) rfl rfl rfl (Nat.le_of_ble_eq_true rfl)) ?_
  refine M_eq (r_takeAfterF (c := 1) (lo := 0) (hi2 := 11) hR hi hf h0 (by decide) (by decide) (by decide)) ?_
  refine t_go (op := o_istore 9 1) (fe_X12_takeCell 8) (fun _ _ => rfl) ?_
  exact r_tcF hR hm hm7 hf h0 ⟨rfl, rfl⟩
theorem r_takeCellN {d : Nat} {h : AHP} {TK : Nat → Tk} {n i : Nat} (hR : RQ h TK n) (hi : i ≤ n) (hw : ¬ isWd TK 1 i 0) {m : Nat} (hm : h.1 183 17 = nI m) (hm7 : m ≤ 7) : MM (d + 4) 183 [.ref 183] (AT h i 0) (fun v h2 => v = some (.int 0) ∧ h2 = AT h i (wrF TK 1 i 0)) := by
  refine ⟨Nat.le_of_ble_eq_true rfl, ?_⟩
  have hS := hR.1
  have hB := hR.2.2.2.1
  have hn := hR.2.2.1
  refine t_go (op := o_aload 1 0) (fe_X12_takeCell 0) (fun _ _ => rfl) ?_
  refine t_go (op := o_ci 2 1) (fe_X12_takeCell 1) (fun _ _ => rfl) ?_
  refine t_go (op := o_ci 3 0) (fe_X12_takeCell 2) (fun _ _ => rfl) ?_
  refine t_go (op := o_ci 5 11) (fe_X12_takeCell 3) (fun _ _ => rfl) ?_
  refine t_call (op := o_callV 8 176 4 11) (fe_X12_takeCell 5) (g_callV hS (show (lay 183).1 = 11 by decide) (by decide) rfl rfl rfl (Nat.le_of_ble_eq_true rfl)) ?_
  refine M_eq (r_takeAfterN (c := 1) (lo := 0) (hi2 := 11) hR hi (by decide) (by decide) (by decide) hw) ?_
  refine t_go (op := o_istore 9 1) (fe_X12_takeCell 8) (fun _ _ => rfl) ?_
  exact r_tcF hR hm hm7 (wr0_b hB (by decide)) (wrF_p (by decide)) ⟨rfl, rfl⟩
theorem r_takeCellM {d : Nat} {h : AHP} {TK : Nat → Tk} {n i : Nat} (hR : RQ h TK n) (hi : i ≤ n) (hw : isWd TK 1 i 0) (hi1 : i + 1 ≤ n) (hN : ¬ nuP TK 0 11 (i + 1) 0) {m : Nat} (hm : h.1 183 17 = nI m) (hm7 : m ≤ 7) : MM (d + 4) 183 [.ref 183] (AT h i 0) (fun v h2 => v = some (.int 0) ∧ h2 = AT h (i + 1) (wrF TK (nmF TK (i + 1)) (i + 1) 0)) := by
  refine ⟨Nat.le_of_ble_eq_true rfl, ?_⟩
  have hS := hR.1
  have hB := hR.2.2.2.1
  have hn := hR.2.2.1
  refine t_go (op := o_aload 1 0) (fe_X12_takeCell 0) (fun _ _ => rfl) ?_
  refine t_go (op := o_ci 2 1) (fe_X12_takeCell 1) (fun _ _ => rfl) ?_
  refine t_go (op := o_ci 3 0) (fe_X12_takeCell 2) (fun _ _ => rfl) ?_
  refine t_go (op := o_ci 5 11) (fe_X12_takeCell 3) (fun _ _ => rfl) ?_
  refine t_call (op := o_callV 8 176 4 11) (fe_X12_takeCell 5) (g_callV hS (show (lay 183).1 = 11 by decide) (by decide) rfl rfl rfl (Nat.le_of_ble_eq_true rfl)) ?_
  refine M_eq (r_takeAfterM (c := 1) (lo := 0) (hi2 := 11) hR hi (by decide) (by decide) (by decide) hw hi1 hN) ?_
  refine t_go (op := o_istore 9 1) (fe_X12_takeCell 8) (fun _ _ => rfl) ?_
  exact r_tcF hR hm hm7 (wr0_b hB nmF_5.2) (wrF_p nmF_5.1) ⟨rfl, rfl⟩
theorem r_takeCellU {d : Nat} {h : AHP} {TK : Nat → Tk} {n i : Nat} (hR : RQ h TK n) (hi : i ≤ n) (hw : isWd TK 1 i 0) (hi1 : i + 1 ≤ n) (hN : nuP TK 0 11 (i + 1) 0) {m : Nat} (hm : h.1 183 17 = nI m) (hm7 : m ≤ 7) : MM (d + 4) 183 [.ref 183] (AT h i 0) (fun v h2 => (∃ k, k < m ∧ h.1 189 (55 + 4 * k) = nI (TK (i + 1)).2.2.1) → v = some (.int (nI (TK (i + 1)).2.2.1)) ∧ h2 = AT h (i + 1) (wrF TK 3 (i + 1) 0)) := by
  refine ⟨Nat.le_of_ble_eq_true rfl, ?_⟩
  have hS := hR.1
  have hB := hR.2.2.2.1
  have hn := hR.2.2.1
  refine t_go (op := o_aload 1 0) (fe_X12_takeCell 0) (fun _ _ => rfl) ?_
  refine t_go (op := o_ci 2 1) (fe_X12_takeCell 1) (fun _ _ => rfl) ?_
  refine t_go (op := o_ci 3 0) (fe_X12_takeCell 2) (fun _ _ => rfl) ?_
  refine t_go (op := o_ci 5 11) (fe_X12_takeCell 3) (fun _ _ => rfl) ?_
  refine t_call (op := o_callV 8 176 4 11) (fe_X12_takeCell 5) (g_callV hS (show (lay 183).1 = 11 by decide) (by decide) rfl rfl rfl (Nat.le_of_ble_eq_true rfl)) ?_
  refine M_eq (r_takeAfterY (c := 1) (lo := 0) (hi2 := 11) hR hi (by decide) (by decide) (by decide) hw hi1 hN) ?_
  refine t_go (op := o_istore 9 1) (fe_X12_takeCell 8) (fun _ _ => rfl) ?_
  by_cases hu : ∃ k, k < m ∧ h.1 189 (55 + 4 * k) = nI (TK (i + 1)).2.2.1
  · exact r_tcU (i := i + 1) hR hm hm7 hi1 hu (fun _ => ⟨rfl, rfl⟩)
  · exact r_tcY hR hm hm7 hu (fun q => absurd q hu)
theorem r_takeCellY {d : Nat} {h : AHP} {TK : Nat → Tk} {n i : Nat} (hR : RQ h TK n) (hi : i ≤ n) (hw : isWd TK 1 i 0) (hi1 : i + 1 ≤ n) (hN : nuP TK 0 11 (i + 1) 0) {m : Nat} (hm : h.1 183 17 = nI m) (hm7 : m ≤ 7) : MM (d + 4) 183 [.ref 183] (AT h i 0) (fun v h2 => ¬ (∃ k, k < m ∧ h.1 189 (55 + 4 * k) = nI (TK (i + 1)).2.2.1) → v = some (.int (nI (TK (i + 1)).2.2.1)) ∧ h2 = AT h (i + 2) 0) := by
  refine ⟨Nat.le_of_ble_eq_true rfl, ?_⟩
  have hS := hR.1
  have hB := hR.2.2.2.1
  have hn := hR.2.2.1
  refine t_go (op := o_aload 1 0) (fe_X12_takeCell 0) (fun _ _ => rfl) ?_
  refine t_go (op := o_ci 2 1) (fe_X12_takeCell 1) (fun _ _ => rfl) ?_
  refine t_go (op := o_ci 3 0) (fe_X12_takeCell 2) (fun _ _ => rfl) ?_
  refine t_go (op := o_ci 5 11) (fe_X12_takeCell 3) (fun _ _ => rfl) ?_
  refine t_call (op := o_callV 8 176 4 11) (fe_X12_takeCell 5) (g_callV hS (show (lay 183).1 = 11 by decide) (by decide) rfl rfl rfl (Nat.le_of_ble_eq_true rfl)) ?_
  refine M_eq (r_takeAfterY (c := 1) (lo := 0) (hi2 := 11) hR hi (by decide) (by decide) (by decide) hw hi1 hN) ?_
  refine t_go (op := o_istore 9 1) (fe_X12_takeCell 8) (fun _ _ => rfl) ?_
  by_cases hu : ∃ k, k < m ∧ h.1 189 (55 + 4 * k) = nI (TK (i + 1)).2.2.1
  · exact r_tcU (i := i + 1) hR hm hm7 hi1 hu (fun q => absurd hu q)
  · exact r_tcY hR hm hm7 hu (fun _ => ⟨rfl, rfl⟩)
set_option maxRecDepth 8000 in
theorem r_re115 {d : Nat} {h : AHP} {TK : Nat → Tk} {n i f : Nat} (hR : RQ h TK n) (hi : i ≤ n) (hf : f < 100000) (h0 : ¬ f = 0) {m : Nat} (hm : h.1 183 17 = nI m) (hm7 : m ≤ 7) {nm : Int64} {x3 x4 x5 x6 : Int32} {Q : Option Value → AHP → Prop} (hq : Q none (AT h i f)) : TT (d + 5) 184 115 [some (.ref 183), some (.long nm), none, some (.int x3), some (.int x4), some (.int x5), some (.int x6), none] [] (AT h i f) Q := by
  have hS := hR.1
  have hB := hR.2.2.2.1
  have hn := hR.2.2.1
  refine t_go (op := o_aload 116 0) (fe_X12_readEmber 115) (fun _ _ => rfl) ?_
  refine t_go (op := o_getI 119 11 8) (fe_X12_readEmber 116) (g_getI hS (show (lay 183).1 = 11 by decide) (by decide)) ?_
  rw [show (AT h i f).1 183 8 = nI f from AT_8]
  refine t_ite (op := o_if 205 122 (fun x => x = 0) (fun _ => inferInstance)) (fe_X12_readEmber 119) g_if (fun c1 => ?_) (fun c1 => ?_)
  · exact absurd ((f_0 hf).mp c1) h0
  · refine t_ret (op := o_vret) (fe_X12_readEmber 205) (fun _ _ => rfl) ?_
    exact hq
set_option maxRecDepth 8000 in
theorem r_re105 {d : Nat} {h : AHP} {TK : Nat → Tk} {n i f : Nat} (hR : RQ h TK n) (hi : i ≤ n) (hf : f < 100000) (h0 : ¬ f = 0) {m : Nat} (hm : h.1 183 17 = nI m) (hm7 : m ≤ 7) {nm : Int64} {x3 x4 x5 : Int32} {Q : Option Value → AHP → Prop} (hq : Q none (AT h i f)) : TT (d + 5) 184 105 [some (.ref 183), some (.long nm), none, some (.int x3), some (.int x4), some (.int x5), none, none] [] (AT h i f) Q := by
  have hS := hR.1
  have hB := hR.2.2.2.1
  have hn := hR.2.2.1
  refine t_go (op := o_aload 106 0) (fe_X12_readEmber 105) (fun _ _ => rfl) ?_
  refine t_go (op := o_ci 107 3) (fe_X12_readEmber 106) (fun _ _ => rfl) ?_
  refine t_go (op := o_ci 108 1) (fe_X12_readEmber 107) (fun _ _ => rfl) ?_
  refine t_go (op := o_ci 110 20) (fe_X12_readEmber 108) (fun _ _ => rfl) ?_
  refine t_call (op := o_callV 113 176 4 11) (fe_X12_readEmber 110) (g_callV hS (show (lay 183).1 = 11 by decide) (by decide) rfl rfl rfl (Nat.le_of_ble_eq_true rfl)) ?_
  refine M_eq (r_takeAfterF (c := 3) (lo := 1) (hi2 := 20) hR hi hf h0 (by decide) (by decide) (by decide)) ?_
  refine t_go (op := o_istore 115 6) (fe_X12_readEmber 113) (fun _ _ => rfl) ?_
  exact r_re115 hR hi hf h0 hm hm7 hq
set_option maxRecDepth 8000 in
theorem r_re95 {d : Nat} {h : AHP} {TK : Nat → Tk} {n i f : Nat} (hR : RQ h TK n) (hi : i ≤ n) (hf : f < 100000) (h0 : ¬ f = 0) {m : Nat} (hm : h.1 183 17 = nI m) (hm7 : m ≤ 7) {nm : Int64} {x3 x4 : Int32} {Q : Option Value → AHP → Prop} (hq : Q none (AT h i f)) : TT (d + 5) 184 95 [some (.ref 183), some (.long nm), none, some (.int x3), some (.int x4), none, none, none] [] (AT h i f) Q := by
  have hS := hR.1
  have hB := hR.2.2.2.1
  have hn := hR.2.2.1
  refine t_go (op := o_aload 96 0) (fe_X12_readEmber 95) (fun _ _ => rfl) ?_
  refine t_go (op := o_ci 97 2) (fe_X12_readEmber 96) (fun _ _ => rfl) ?_
  refine t_go (op := o_ci 98 0) (fe_X12_readEmber 97) (fun _ _ => rfl) ?_
  refine t_go (op := o_ci 100 20) (fe_X12_readEmber 98) (fun _ _ => rfl) ?_
  refine t_call (op := o_callV 103 176 4 11) (fe_X12_readEmber 100) (g_callV hS (show (lay 183).1 = 11 by decide) (by decide) rfl rfl rfl (Nat.le_of_ble_eq_true rfl)) ?_
  refine M_eq (r_takeAfterF (c := 2) (lo := 0) (hi2 := 20) hR hi hf h0 (by decide) (by decide) (by decide)) ?_
  refine t_go (op := o_istore 105 5) (fe_X12_readEmber 103) (fun _ _ => rfl) ?_
  exact r_re105 hR hi hf h0 hm hm7 hq
set_option maxRecDepth 8000 in
theorem r_re89 {d : Nat} {h : AHP} {TK : Nat → Tk} {n i f : Nat} (hR : RQ h TK n) (hi : i ≤ n) (hf : f < 100000) (h0 : ¬ f = 0) {m : Nat} (hm : h.1 183 17 = nI m) (hm7 : m ≤ 7) {nm : Int64} {x3 : Int32} {Q : Option Value → AHP → Prop} (hq : Q none (AT h i f)) : TT (d + 5) 184 89 [some (.ref 183), some (.long nm), none, some (.int x3), none, none, none, none] [] (AT h i f) Q := by
  have hS := hR.1
  have hB := hR.2.2.2.1
  have hn := hR.2.2.1
  refine t_go (op := o_aload 90 0) (fe_X12_readEmber 89) (fun _ _ => rfl) ?_
  refine t_call (op := o_callV 93 183 1 11) (fe_X12_readEmber 90) (g_callV hS (show (lay 183).1 = 11 by decide) (by decide) rfl rfl rfl (Nat.le_of_ble_eq_true rfl)) ?_
  refine M_eq (r_takeCellF hR hi hf h0 hm hm7) ?_
  refine t_go (op := o_istore 95 4) (fe_X12_readEmber 93) (fun _ _ => rfl) ?_
  exact r_re95 hR hi hf h0 hm hm7 hq
set_option maxRecDepth 8000 in
theorem r_re53 {d : Nat} {h : AHP} {TK : Nat → Tk} {n i f : Nat} (hR : RQ h TK n) (hi : i ≤ n) (hf : f < 100000) (h0 : ¬ f = 0) {Q : Option Value → AHP → Prop} (hq : Q none (AT h i f)) : TT (d + 5) 184 53 [some (.ref 183), none, none, none, none, none, none, none] [] (AT h i f) Q := by
  have hS := hR.1
  have hB := hR.2.2.2.1
  have hn := hR.2.2.1
  refine t_go (op := o_aload 54 0) (fe_X12_readEmber 53) (fun _ _ => rfl) ?_
  refine t_go (op := o_getI 57 11 8) (fe_X12_readEmber 54) (g_getI hS (show (lay 183).1 = 11 by decide) (by decide)) ?_
  rw [show (AT h i f).1 183 8 = nI f from AT_8]
  refine t_ite (op := o_if 60 61 (fun x => x ≤ 0) (fun _ => inferInstance)) (fe_X12_readEmber 57) g_if (fun c1 => ?_) (fun c1 => ?_)
  · exact absurd ((le_0 hf).mp c1) h0
  · refine t_ret (op := o_vret) (fe_X12_readEmber 60) (fun _ _ => rfl) ?_
    exact hq
