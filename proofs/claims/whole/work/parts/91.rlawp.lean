/-! ===== the reference reads a law: the levels ===== -/
theorem w_whole_y {d : Nat} {h0 h : AHP} {TK : Nat → Tk} {n dep : Nat} {s s1 : St} (hR : RQ h0 TK n) (hs : RS h0 h s) (hk : okR TK n s) {x2 : Option Value} (hop : opP TK 0 s) (hJ : ∀ h2, RS h0 h2 (nx1 s) → MM (d + 3) 190 [.ref 183, .int (nI dep)] h2 (fun v h3 => v = none ∧ RS h0 h3 s1)) (hq1 : s1.2.2.length < 1100) {Q : Option Value → AHP → Prop} (hq : ∀ h2 x, RS h0 h2 (emS (opC TK 0 s) 0 s1) → TT (d + 4) 189 5 [some (.ref 183), some (.int (nI dep)), x] [] h2 Q) : TT (d + 4) 189 5 [some (.ref 183), some (.int (nI dep)), x2] [] h Q := by
  have hS := hs.std hR.1
  refine t_go (op := o_aload 6 0) (fe_X12_whole 5) (fun _ _ => rfl) ?_
  refine t_go (op := o_ci 8 17) (fe_X12_whole 6) (fun _ _ => rfl) ?_
  refine t_call (op := o_callV 11 168 2 11) (fe_X12_whole 8) (g_callV hS (show (lay 183).1 = 11 by decide) (by decide) rfl rfl rfl (Nat.le_of_ble_eq_true rfl)) ?_
  refine M_eq (w_isWord (c := 17) hR hs hk (by decide)) ?_
  refine t_ite (op := o_if 23 14 (fun x => x = 0) (fun _ => inferInstance)) (fe_X12_whole 11) g_if (fun c1 => ?_) (fun c1 => ?_)
  · replace c1 := b2i_z c1
    refine t_go (op := o_aload 15 0) (fe_X12_whole 14) (fun _ _ => rfl) ?_
    refine t_go (op := o_ci 17 18) (fe_X12_whole 15) (fun _ _ => rfl) ?_
    refine t_call (op := o_callV 20 168 2 11) (fe_X12_whole 17) (g_callV hS (show (lay 183).1 = 11 by decide) (by decide) rfl rfl rfl (Nat.le_of_ble_eq_true rfl)) ?_
    refine M_eq (w_isWord (c := 18) hR hs hk (by decide)) ?_
    refine t_ite (op := o_if 23 64 (fun x => x = 0) (fun _ => inferInstance)) (fe_X12_whole 20) g_if (fun c2 => ?_) (fun c2 => ?_)
    · exact (hop.elim c1 (b2i_z c2)).elim
    · replace c2 := b2i_nn c2
      refine t_go (op := o_aload 24 0) (fe_X12_whole 23) (fun _ _ => rfl) ?_
      refine t_go (op := o_ci 26 17) (fe_X12_whole 24) (fun _ _ => rfl) ?_
      refine t_call (op := o_callV 29 168 2 11) (fe_X12_whole 26) (g_callV hS (show (lay 183).1 = 11 by decide) (by decide) rfl rfl rfl (Nat.le_of_ble_eq_true rfl)) ?_
      refine M_eq (w_isWord (c := 17) hR hs hk (by decide)) ?_
      refine t_go (op := o_istore 30 2) (fe_X12_whole 29) (fun _ _ => rfl) ?_
      refine t_go (op := o_aload 31 0) (fe_X12_whole 30) (fun _ _ => rfl) ?_
      refine t_go (op := o_dupA 32) (fe_X12_whole 31) (fun _ _ => rfl) ?_
      refine t_go (op := o_getI 35 11 7) (fe_X12_whole 32) (g_getI hS (show (lay 183).1 = 11 by decide) (by decide)) ?_
      rw [show h.1 183 7 = nI s.1 from hs.2.1]
      refine t_go (op := o_ci 36 1) (fe_X12_whole 35) (fun _ _ => rfl) ?_
      refine t_go (op := o_i2 37 (fun x y => x + y)) (fe_X12_whole 36) (fun _ _ => rfl) ?_
      refine t_go (op := o_putI 40 11 7) (fe_X12_whole 37) (g_putI hS (show (lay 183).1 = 11 by decide) (by decide)) ?_
      refine t_go (op := o_aload 41 0) (fe_X12_whole 40) (fun _ _ => rfl) ?_
      refine t_go (op := o_iload 42 1) (fe_X12_whole 41) (fun _ _ => rfl) ?_
      refine t_call (op := o_callV 45 190 2 11) (fe_X12_whole 42) (g_callV hS (show (lay 183).1 = 11 by decide) (by decide) rfl rfl rfl (Nat.le_of_ble_eq_true rfl)) ?_
      refine M_mono ?_ (hJ _ (RS_n1 hs))
      rintro _ k2 ⟨rfl, hs2⟩
      replace hS := RS.std hR.1 hs2
      refine t_go (op := o_aload 46 0) (fe_X12_whole 45) (fun _ _ => rfl) ?_
      refine t_go (op := o_iload 47 2) (fe_X12_whole 46) (fun _ _ => rfl) ?_
      refine t_ite (op := o_if 50 55 (fun x => x = 0) (fun _ => inferInstance)) (fe_X12_whole 47) g_if (fun c3 => ?_) (fun c3 => ?_)
      · replace c3 := b2i_z c3
        refine t_go (op := o_ci 57 10) (fe_X12_whole 55) (fun _ _ => rfl) ?_
        refine t_go (op := o_ci 58 0) (fe_X12_whole 57) (fun _ _ => rfl) ?_
        refine t_call (op := o_callV 61 188 3 11) (fe_X12_whole 58) (g_callV hS (show (lay 183).1 = 11 by decide) (by decide) rfl rfl rfl (Nat.le_of_ble_eq_true rfl)) ?_
        refine M_mono ?_ (w_emit (a := 10) (b := 0) hR.1 hs2 hq1)
        rintro _ k3 ⟨rfl, hs3⟩
        replace hS := RS.std hR.1 hs3
        refine t_go (op := o_goto 5) (fe_X12_whole 61) (fun _ _ => rfl) ?_
        exact hq _ _ (by rw [show opC TK 0 s = 10 from cI_f c1]; exact hs3)
      · exact absurd (b2i_nn c3) c1
  · replace c1 := b2i_nn c1
    refine t_go (op := o_aload 24 0) (fe_X12_whole 23) (fun _ _ => rfl) ?_
    refine t_go (op := o_ci 26 17) (fe_X12_whole 24) (fun _ _ => rfl) ?_
    refine t_call (op := o_callV 29 168 2 11) (fe_X12_whole 26) (g_callV hS (show (lay 183).1 = 11 by decide) (by decide) rfl rfl rfl (Nat.le_of_ble_eq_true rfl)) ?_
    refine M_eq (w_isWord (c := 17) hR hs hk (by decide)) ?_
    refine t_go (op := o_istore 30 2) (fe_X12_whole 29) (fun _ _ => rfl) ?_
    refine t_go (op := o_aload 31 0) (fe_X12_whole 30) (fun _ _ => rfl) ?_
    refine t_go (op := o_dupA 32) (fe_X12_whole 31) (fun _ _ => rfl) ?_
    refine t_go (op := o_getI 35 11 7) (fe_X12_whole 32) (g_getI hS (show (lay 183).1 = 11 by decide) (by decide)) ?_
    rw [show h.1 183 7 = nI s.1 from hs.2.1]
    refine t_go (op := o_ci 36 1) (fe_X12_whole 35) (fun _ _ => rfl) ?_
    refine t_go (op := o_i2 37 (fun x y => x + y)) (fe_X12_whole 36) (fun _ _ => rfl) ?_
    refine t_go (op := o_putI 40 11 7) (fe_X12_whole 37) (g_putI hS (show (lay 183).1 = 11 by decide) (by decide)) ?_
    refine t_go (op := o_aload 41 0) (fe_X12_whole 40) (fun _ _ => rfl) ?_
    refine t_go (op := o_iload 42 1) (fe_X12_whole 41) (fun _ _ => rfl) ?_
    refine t_call (op := o_callV 45 190 2 11) (fe_X12_whole 42) (g_callV hS (show (lay 183).1 = 11 by decide) (by decide) rfl rfl rfl (Nat.le_of_ble_eq_true rfl)) ?_
    refine M_mono ?_ (hJ _ (RS_n1 hs))
    rintro _ k2 ⟨rfl, hs2⟩
    replace hS := RS.std hR.1 hs2
    refine t_go (op := o_aload 46 0) (fe_X12_whole 45) (fun _ _ => rfl) ?_
    refine t_go (op := o_iload 47 2) (fe_X12_whole 46) (fun _ _ => rfl) ?_
    refine t_ite (op := o_if 50 55 (fun x => x = 0) (fun _ => inferInstance)) (fe_X12_whole 47) g_if (fun c4 => ?_) (fun c4 => ?_)
    · exact absurd c1 (b2i_z c4)
    · replace c4 := b2i_nn c4
      refine t_go (op := o_ci 52 9) (fe_X12_whole 50) (fun _ _ => rfl) ?_
      refine t_go (op := o_goto 57) (fe_X12_whole 52) (fun _ _ => rfl) ?_
      refine t_go (op := o_ci 58 0) (fe_X12_whole 57) (fun _ _ => rfl) ?_
      refine t_call (op := o_callV 61 188 3 11) (fe_X12_whole 58) (g_callV hS (show (lay 183).1 = 11 by decide) (by decide) rfl rfl rfl (Nat.le_of_ble_eq_true rfl)) ?_
      refine M_mono ?_ (w_emit (a := 9) (b := 0) hR.1 hs2 hq1)
      rintro _ k3 ⟨rfl, hs3⟩
      replace hS := RS.std hR.1 hs3
      refine t_go (op := o_goto 5) (fe_X12_whole 61) (fun _ _ => rfl) ?_
      exact hq _ _ (by rw [show opC TK 0 s = 9 from cI_t c1]; exact hs3)
theorem w_whole_n {d : Nat} {h0 h : AHP} {TK : Nat → Tk} {n dep : Nat} {s : St} (hR : RQ h0 TK n) (hs : RS h0 h s) (hk : okR TK n s) {x2 : Option Value} (hop : ¬ opP TK 0 s) {Q : Option Value → AHP → Prop} (hq : Q none h) : TT (d + 4) 189 5 [some (.ref 183), some (.int (nI dep)), x2] [] h Q := by
  have hS := hs.std hR.1
  refine t_go (op := o_aload 6 0) (fe_X12_whole 5) (fun _ _ => rfl) ?_
  refine t_go (op := o_ci 8 17) (fe_X12_whole 6) (fun _ _ => rfl) ?_
  refine t_call (op := o_callV 11 168 2 11) (fe_X12_whole 8) (g_callV hS (show (lay 183).1 = 11 by decide) (by decide) rfl rfl rfl (Nat.le_of_ble_eq_true rfl)) ?_
  refine M_eq (w_isWord (c := 17) hR hs hk (by decide)) ?_
  refine t_ite (op := o_if 23 14 (fun x => x = 0) (fun _ => inferInstance)) (fe_X12_whole 11) g_if (fun c1 => ?_) (fun c1 => ?_)
  · replace c1 := b2i_z c1
    refine t_go (op := o_aload 15 0) (fe_X12_whole 14) (fun _ _ => rfl) ?_
    refine t_go (op := o_ci 17 18) (fe_X12_whole 15) (fun _ _ => rfl) ?_
    refine t_call (op := o_callV 20 168 2 11) (fe_X12_whole 17) (g_callV hS (show (lay 183).1 = 11 by decide) (by decide) rfl rfl rfl (Nat.le_of_ble_eq_true rfl)) ?_
    refine M_eq (w_isWord (c := 18) hR hs hk (by decide)) ?_
    refine t_ite (op := o_if 23 64 (fun x => x = 0) (fun _ => inferInstance)) (fe_X12_whole 20) g_if (fun c2 => ?_) (fun c2 => ?_)
    · replace c2 := b2i_z c2
      refine t_ret (op := o_vret) (fe_X12_whole 64) (fun _ _ => rfl) ?_
      exact hq
    · exact absurd (Or.inr (b2i_nn c2)) hop
  · exact absurd (Or.inl (b2i_nn c1)) hop
theorem w_sums_y {d : Nat} {h0 h : AHP} {TK : Nat → Tk} {n dep : Nat} {s s1 : St} (hR : RQ h0 TK n) (hs : RS h0 h s) (hk : okR TK n s) {x2 : Option Value} (hop : opP TK 2 s) (hJ : ∀ h2, RS h0 h2 (nx1 s) → MM (d + 3) 192 [.ref 183, .int (nI dep)] h2 (fun v h3 => v = none ∧ RS h0 h3 s1)) (hq1 : s1.2.2.length < 1100) {Q : Option Value → AHP → Prop} (hq : ∀ h2 x, RS h0 h2 (emS (opC TK 2 s) 0 s1) → TT (d + 4) 191 5 [some (.ref 183), some (.int (nI dep)), x] [] h2 Q) : TT (d + 4) 191 5 [some (.ref 183), some (.int (nI dep)), x2] [] h Q := by
  have hS := hs.std hR.1
  refine t_go (op := o_aload 6 0) (fe_X12_sums 5) (fun _ _ => rfl) ?_
  refine t_go (op := o_ci 8 43) (fe_X12_sums 6) (fun _ _ => rfl) ?_
  refine t_call (op := o_callV 11 167 2 11) (fe_X12_sums 8) (g_callV hS (show (lay 183).1 = 11 by decide) (by decide) rfl rfl rfl (Nat.le_of_ble_eq_true rfl)) ?_
  refine M_eq (w_isSign (c := 43) hR hs hk (by decide)) ?_
  refine t_ite (op := o_if 23 14 (fun x => x = 0) (fun _ => inferInstance)) (fe_X12_sums 11) g_if (fun c1 => ?_) (fun c1 => ?_)
  · replace c1 := b2i_z c1
    refine t_go (op := o_aload 15 0) (fe_X12_sums 14) (fun _ _ => rfl) ?_
    refine t_go (op := o_ci 17 45) (fe_X12_sums 15) (fun _ _ => rfl) ?_
    refine t_call (op := o_callV 20 167 2 11) (fe_X12_sums 17) (g_callV hS (show (lay 183).1 = 11 by decide) (by decide) rfl rfl rfl (Nat.le_of_ble_eq_true rfl)) ?_
    refine M_eq (w_isSign (c := 45) hR hs hk (by decide)) ?_
    refine t_ite (op := o_if 23 62 (fun x => x = 0) (fun _ => inferInstance)) (fe_X12_sums 20) g_if (fun c2 => ?_) (fun c2 => ?_)
    · exact (hop.elim c1 (b2i_z c2)).elim
    · replace c2 := b2i_nn c2
      refine t_go (op := o_aload 24 0) (fe_X12_sums 23) (fun _ _ => rfl) ?_
      refine t_go (op := o_ci 26 43) (fe_X12_sums 24) (fun _ _ => rfl) ?_
      refine t_call (op := o_callV 29 167 2 11) (fe_X12_sums 26) (g_callV hS (show (lay 183).1 = 11 by decide) (by decide) rfl rfl rfl (Nat.le_of_ble_eq_true rfl)) ?_
      refine M_eq (w_isSign (c := 43) hR hs hk (by decide)) ?_
      refine t_go (op := o_istore 30 2) (fe_X12_sums 29) (fun _ _ => rfl) ?_
      refine t_go (op := o_aload 31 0) (fe_X12_sums 30) (fun _ _ => rfl) ?_
      refine t_go (op := o_dupA 32) (fe_X12_sums 31) (fun _ _ => rfl) ?_
      refine t_go (op := o_getI 35 11 7) (fe_X12_sums 32) (g_getI hS (show (lay 183).1 = 11 by decide) (by decide)) ?_
      rw [show h.1 183 7 = nI s.1 from hs.2.1]
      refine t_go (op := o_ci 36 1) (fe_X12_sums 35) (fun _ _ => rfl) ?_
      refine t_go (op := o_i2 37 (fun x y => x + y)) (fe_X12_sums 36) (fun _ _ => rfl) ?_
      refine t_go (op := o_putI 40 11 7) (fe_X12_sums 37) (g_putI hS (show (lay 183).1 = 11 by decide) (by decide)) ?_
      refine t_go (op := o_aload 41 0) (fe_X12_sums 40) (fun _ _ => rfl) ?_
      refine t_go (op := o_iload 42 1) (fe_X12_sums 41) (fun _ _ => rfl) ?_
      refine t_call (op := o_callV 45 192 2 11) (fe_X12_sums 42) (g_callV hS (show (lay 183).1 = 11 by decide) (by decide) rfl rfl rfl (Nat.le_of_ble_eq_true rfl)) ?_
      refine M_mono ?_ (hJ _ (RS_n1 hs))
      rintro _ k2 ⟨rfl, hs2⟩
      replace hS := RS.std hR.1 hs2
      refine t_go (op := o_aload 46 0) (fe_X12_sums 45) (fun _ _ => rfl) ?_
      refine t_go (op := o_iload 47 2) (fe_X12_sums 46) (fun _ _ => rfl) ?_
      refine t_ite (op := o_if 50 54 (fun x => x = 0) (fun _ => inferInstance)) (fe_X12_sums 47) g_if (fun c3 => ?_) (fun c3 => ?_)
      · replace c3 := b2i_z c3
        refine t_go (op := o_ci 55 5) (fe_X12_sums 54) (fun _ _ => rfl) ?_
        refine t_go (op := o_ci 56 0) (fe_X12_sums 55) (fun _ _ => rfl) ?_
        refine t_call (op := o_callV 59 188 3 11) (fe_X12_sums 56) (g_callV hS (show (lay 183).1 = 11 by decide) (by decide) rfl rfl rfl (Nat.le_of_ble_eq_true rfl)) ?_
        refine M_mono ?_ (w_emit (a := 5) (b := 0) hR.1 hs2 hq1)
        rintro _ k3 ⟨rfl, hs3⟩
        replace hS := RS.std hR.1 hs3
        refine t_go (op := o_goto 5) (fe_X12_sums 59) (fun _ _ => rfl) ?_
        exact hq _ _ (by rw [show opC TK 2 s = 5 from cI_f c1]; exact hs3)
      · exact absurd (b2i_nn c3) c1
  · replace c1 := b2i_nn c1
    refine t_go (op := o_aload 24 0) (fe_X12_sums 23) (fun _ _ => rfl) ?_
    refine t_go (op := o_ci 26 43) (fe_X12_sums 24) (fun _ _ => rfl) ?_
    refine t_call (op := o_callV 29 167 2 11) (fe_X12_sums 26) (g_callV hS (show (lay 183).1 = 11 by decide) (by decide) rfl rfl rfl (Nat.le_of_ble_eq_true rfl)) ?_
    refine M_eq (w_isSign (c := 43) hR hs hk (by decide)) ?_
    refine t_go (op := o_istore 30 2) (fe_X12_sums 29) (fun _ _ => rfl) ?_
    refine t_go (op := o_aload 31 0) (fe_X12_sums 30) (fun _ _ => rfl) ?_
    refine t_go (op := o_dupA 32) (fe_X12_sums 31) (fun _ _ => rfl) ?_
    refine t_go (op := o_getI 35 11 7) (fe_X12_sums 32) (g_getI hS (show (lay 183).1 = 11 by decide) (by decide)) ?_
    rw [show h.1 183 7 = nI s.1 from hs.2.1]
    refine t_go (op := o_ci 36 1) (fe_X12_sums 35) (fun _ _ => rfl) ?_
    refine t_go (op := o_i2 37 (fun x y => x + y)) (fe_X12_sums 36) (fun _ _ => rfl) ?_
    refine t_go (op := o_putI 40 11 7) (fe_X12_sums 37) (g_putI hS (show (lay 183).1 = 11 by decide) (by decide)) ?_
    refine t_go (op := o_aload 41 0) (fe_X12_sums 40) (fun _ _ => rfl) ?_
    refine t_go (op := o_iload 42 1) (fe_X12_sums 41) (fun _ _ => rfl) ?_
    refine t_call (op := o_callV 45 192 2 11) (fe_X12_sums 42) (g_callV hS (show (lay 183).1 = 11 by decide) (by decide) rfl rfl rfl (Nat.le_of_ble_eq_true rfl)) ?_
    refine M_mono ?_ (hJ _ (RS_n1 hs))
    rintro _ k2 ⟨rfl, hs2⟩
    replace hS := RS.std hR.1 hs2
    refine t_go (op := o_aload 46 0) (fe_X12_sums 45) (fun _ _ => rfl) ?_
    refine t_go (op := o_iload 47 2) (fe_X12_sums 46) (fun _ _ => rfl) ?_
    refine t_ite (op := o_if 50 54 (fun x => x = 0) (fun _ => inferInstance)) (fe_X12_sums 47) g_if (fun c4 => ?_) (fun c4 => ?_)
    · exact absurd c1 (b2i_z c4)
    · replace c4 := b2i_nn c4
      refine t_go (op := o_ci 51 4) (fe_X12_sums 50) (fun _ _ => rfl) ?_
      refine t_go (op := o_goto 55) (fe_X12_sums 51) (fun _ _ => rfl) ?_
      refine t_go (op := o_ci 56 0) (fe_X12_sums 55) (fun _ _ => rfl) ?_
      refine t_call (op := o_callV 59 188 3 11) (fe_X12_sums 56) (g_callV hS (show (lay 183).1 = 11 by decide) (by decide) rfl rfl rfl (Nat.le_of_ble_eq_true rfl)) ?_
      refine M_mono ?_ (w_emit (a := 4) (b := 0) hR.1 hs2 hq1)
      rintro _ k3 ⟨rfl, hs3⟩
      replace hS := RS.std hR.1 hs3
      refine t_go (op := o_goto 5) (fe_X12_sums 59) (fun _ _ => rfl) ?_
      exact hq _ _ (by rw [show opC TK 2 s = 4 from cI_t c1]; exact hs3)
theorem w_sums_n {d : Nat} {h0 h : AHP} {TK : Nat → Tk} {n dep : Nat} {s : St} (hR : RQ h0 TK n) (hs : RS h0 h s) (hk : okR TK n s) {x2 : Option Value} (hop : ¬ opP TK 2 s) {Q : Option Value → AHP → Prop} (hq : Q none h) : TT (d + 4) 191 5 [some (.ref 183), some (.int (nI dep)), x2] [] h Q := by
  have hS := hs.std hR.1
  refine t_go (op := o_aload 6 0) (fe_X12_sums 5) (fun _ _ => rfl) ?_
  refine t_go (op := o_ci 8 43) (fe_X12_sums 6) (fun _ _ => rfl) ?_
  refine t_call (op := o_callV 11 167 2 11) (fe_X12_sums 8) (g_callV hS (show (lay 183).1 = 11 by decide) (by decide) rfl rfl rfl (Nat.le_of_ble_eq_true rfl)) ?_
  refine M_eq (w_isSign (c := 43) hR hs hk (by decide)) ?_
  refine t_ite (op := o_if 23 14 (fun x => x = 0) (fun _ => inferInstance)) (fe_X12_sums 11) g_if (fun c1 => ?_) (fun c1 => ?_)
  · replace c1 := b2i_z c1
    refine t_go (op := o_aload 15 0) (fe_X12_sums 14) (fun _ _ => rfl) ?_
    refine t_go (op := o_ci 17 45) (fe_X12_sums 15) (fun _ _ => rfl) ?_
    refine t_call (op := o_callV 20 167 2 11) (fe_X12_sums 17) (g_callV hS (show (lay 183).1 = 11 by decide) (by decide) rfl rfl rfl (Nat.le_of_ble_eq_true rfl)) ?_
    refine M_eq (w_isSign (c := 45) hR hs hk (by decide)) ?_
    refine t_ite (op := o_if 23 62 (fun x => x = 0) (fun _ => inferInstance)) (fe_X12_sums 20) g_if (fun c2 => ?_) (fun c2 => ?_)
    · replace c2 := b2i_z c2
      refine t_ret (op := o_vret) (fe_X12_sums 62) (fun _ _ => rfl) ?_
      exact hq
    · exact absurd (Or.inr (b2i_nn c2)) hop
  · exact absurd (Or.inl (b2i_nn c1)) hop
theorem w_test_y {d : Nat} {h0 h : AHP} {TK : Nat → Tk} {n dep : Nat} {s s1 : St} (hR : RQ h0 TK n) (hs : RS h0 h s) (hk : okR TK n s) {x2 : Option Value} (hop : opP TK 1 s) (hJ : ∀ h2, RS h0 h2 (nx1 s) → MM (d + 3) 191 [.ref 183, .int (nI dep)] h2 (fun v h3 => v = none ∧ RS h0 h3 s1)) (hq1 : s1.2.2.length < 1100) {Q : Option Value → AHP → Prop} (hq : ∀ h2, RS h0 h2 (emS (opC TK 1 s) 0 s1) → Q none h2) : TT (d + 4) 190 5 [some (.ref 183), some (.int (nI dep)), x2] [] h Q := by
  have hS := hs.std hR.1
  refine t_go (op := o_aload 6 0) (fe_X12_test 5) (fun _ _ => rfl) ?_
  refine t_go (op := o_ci 8 60) (fe_X12_test 6) (fun _ _ => rfl) ?_
  refine t_call (op := o_callV 11 167 2 11) (fe_X12_test 8) (g_callV hS (show (lay 183).1 = 11 by decide) (by decide) rfl rfl rfl (Nat.le_of_ble_eq_true rfl)) ?_
  refine M_eq (w_isSign (c := 60) hR hs hk (by decide)) ?_
  refine t_go (op := o_istore 12 2) (fe_X12_test 11) (fun _ _ => rfl) ?_
  refine t_go (op := o_aload 13 0) (fe_X12_test 12) (fun _ _ => rfl) ?_
  refine t_go (op := o_ci 15 60) (fe_X12_test 13) (fun _ _ => rfl) ?_
  refine t_call (op := o_callV 18 170 2 11) (fe_X12_test 15) (g_callV hS (show (lay 183).1 = 11 by decide) (by decide) rfl rfl rfl (Nat.le_of_ble_eq_true rfl)) ?_
  refine M_mono ?_ (w_hasSign (c := 60) hR hs hk (by decide))
  rintro _ k2 ⟨rfl, hy, hno⟩
  refine t_ite (op := o_if 30 21 (fun x => x = 0) (fun _ => inferInstance)) (fe_X12_test 18) g_if (fun c1 => ?_) (fun c1 => ?_)
  · replace c1 := b2i_z c1
    have e9 := hno c1
    subst e9
    refine t_go (op := o_aload 22 0) (fe_X12_test 21) (fun _ _ => rfl) ?_
    refine t_go (op := o_ci 24 61) (fe_X12_test 22) (fun _ _ => rfl) ?_
    refine t_call (op := o_callV 27 170 2 11) (fe_X12_test 24) (g_callV hS (show (lay 183).1 = 11 by decide) (by decide) rfl rfl rfl (Nat.le_of_ble_eq_true rfl)) ?_
    refine M_mono ?_ (w_hasSign (c := 61) hR hs hk (by decide))
    rintro _ k3 ⟨rfl, hy3, hno3⟩
    refine t_ite (op := o_if 30 51 (fun x => x = 0) (fun _ => inferInstance)) (fe_X12_test 27) g_if (fun c2 => ?_) (fun c2 => ?_)
    · exact (hop.elim c1 (b2i_z c2)).elim
    · replace c2 := b2i_nn c2
      have hs1 := hy3 c2
      replace hS := RS.std hR.1 hs1
      refine t_go (op := o_aload 31 0) (fe_X12_test 30) (fun _ _ => rfl) ?_
      refine t_go (op := o_iload 32 1) (fe_X12_test 31) (fun _ _ => rfl) ?_
      refine t_call (op := o_callV 35 191 2 11) (fe_X12_test 32) (g_callV hS (show (lay 183).1 = 11 by decide) (by decide) rfl rfl rfl (Nat.le_of_ble_eq_true rfl)) ?_
      refine M_mono ?_ (hJ _ hs1)
      rintro _ k4 ⟨rfl, hs2⟩
      replace hS := RS.std hR.1 hs2
      refine t_go (op := o_aload 36 0) (fe_X12_test 35) (fun _ _ => rfl) ?_
      refine t_go (op := o_iload 37 2) (fe_X12_test 36) (fun _ _ => rfl) ?_
      refine t_ite (op := o_if 40 45 (fun x => x = 0) (fun _ => inferInstance)) (fe_X12_test 37) g_if (fun c3 => ?_) (fun c3 => ?_)
      · replace c3 := b2i_z c3
        refine t_go (op := o_ci 47 8) (fe_X12_test 45) (fun _ _ => rfl) ?_
        refine t_go (op := o_ci 48 0) (fe_X12_test 47) (fun _ _ => rfl) ?_
        refine t_call (op := o_callV 51 188 3 11) (fe_X12_test 48) (g_callV hS (show (lay 183).1 = 11 by decide) (by decide) rfl rfl rfl (Nat.le_of_ble_eq_true rfl)) ?_
        refine M_mono ?_ (w_emit (a := 8) (b := 0) hR.1 hs2 hq1)
        rintro _ k5 ⟨rfl, hs3⟩
        replace hS := RS.std hR.1 hs3
        refine t_ret (op := o_vret) (fe_X12_test 51) (fun _ _ => rfl) ?_
        exact hq _ (by rw [show opC TK 1 s = 8 from cI_f c1]; exact hs3)
      · exact absurd (b2i_nn c3) c1
  · replace c1 := b2i_nn c1
    have hs1 := hy c1
    replace hS := RS.std hR.1 hs1
    refine t_go (op := o_aload 31 0) (fe_X12_test 30) (fun _ _ => rfl) ?_
    refine t_go (op := o_iload 32 1) (fe_X12_test 31) (fun _ _ => rfl) ?_
    refine t_call (op := o_callV 35 191 2 11) (fe_X12_test 32) (g_callV hS (show (lay 183).1 = 11 by decide) (by decide) rfl rfl rfl (Nat.le_of_ble_eq_true rfl)) ?_
    refine M_mono ?_ (hJ _ hs1)
    rintro _ k4 ⟨rfl, hs2⟩
    replace hS := RS.std hR.1 hs2
    refine t_go (op := o_aload 36 0) (fe_X12_test 35) (fun _ _ => rfl) ?_
    refine t_go (op := o_iload 37 2) (fe_X12_test 36) (fun _ _ => rfl) ?_
    refine t_ite (op := o_if 40 45 (fun x => x = 0) (fun _ => inferInstance)) (fe_X12_test 37) g_if (fun c4 => ?_) (fun c4 => ?_)
    · exact absurd c1 (b2i_z c4)
    · replace c4 := b2i_nn c4
      refine t_go (op := o_ci 42 7) (fe_X12_test 40) (fun _ _ => rfl) ?_
      refine t_go (op := o_goto 47) (fe_X12_test 42) (fun _ _ => rfl) ?_
      refine t_go (op := o_ci 48 0) (fe_X12_test 47) (fun _ _ => rfl) ?_
      refine t_call (op := o_callV 51 188 3 11) (fe_X12_test 48) (g_callV hS (show (lay 183).1 = 11 by decide) (by decide) rfl rfl rfl (Nat.le_of_ble_eq_true rfl)) ?_
      refine M_mono ?_ (w_emit (a := 7) (b := 0) hR.1 hs2 hq1)
      rintro _ k5 ⟨rfl, hs3⟩
      replace hS := RS.std hR.1 hs3
      refine t_ret (op := o_vret) (fe_X12_test 51) (fun _ _ => rfl) ?_
      exact hq _ (by rw [show opC TK 1 s = 7 from cI_t c1]; exact hs3)
theorem w_test_n {d : Nat} {h0 h : AHP} {TK : Nat → Tk} {n dep : Nat} {s : St} (hR : RQ h0 TK n) (hs : RS h0 h s) (hk : okR TK n s) {x2 : Option Value} (hop : ¬ opP TK 1 s) {Q : Option Value → AHP → Prop} (hq : Q none h) : TT (d + 4) 190 5 [some (.ref 183), some (.int (nI dep)), x2] [] h Q := by
  have hS := hs.std hR.1
  refine t_go (op := o_aload 6 0) (fe_X12_test 5) (fun _ _ => rfl) ?_
  refine t_go (op := o_ci 8 60) (fe_X12_test 6) (fun _ _ => rfl) ?_
  refine t_call (op := o_callV 11 167 2 11) (fe_X12_test 8) (g_callV hS (show (lay 183).1 = 11 by decide) (by decide) rfl rfl rfl (Nat.le_of_ble_eq_true rfl)) ?_
  refine M_eq (w_isSign (c := 60) hR hs hk (by decide)) ?_
  refine t_go (op := o_istore 12 2) (fe_X12_test 11) (fun _ _ => rfl) ?_
  refine t_go (op := o_aload 13 0) (fe_X12_test 12) (fun _ _ => rfl) ?_
  refine t_go (op := o_ci 15 60) (fe_X12_test 13) (fun _ _ => rfl) ?_
  refine t_call (op := o_callV 18 170 2 11) (fe_X12_test 15) (g_callV hS (show (lay 183).1 = 11 by decide) (by decide) rfl rfl rfl (Nat.le_of_ble_eq_true rfl)) ?_
  refine M_mono ?_ (w_hasSign (c := 60) hR hs hk (by decide))
  rintro _ k2 ⟨rfl, hy, hno⟩
  refine t_ite (op := o_if 30 21 (fun x => x = 0) (fun _ => inferInstance)) (fe_X12_test 18) g_if (fun c1 => ?_) (fun c1 => ?_)
  · replace c1 := b2i_z c1
    have e9 := hno c1
    subst e9
    refine t_go (op := o_aload 22 0) (fe_X12_test 21) (fun _ _ => rfl) ?_
    refine t_go (op := o_ci 24 61) (fe_X12_test 22) (fun _ _ => rfl) ?_
    refine t_call (op := o_callV 27 170 2 11) (fe_X12_test 24) (g_callV hS (show (lay 183).1 = 11 by decide) (by decide) rfl rfl rfl (Nat.le_of_ble_eq_true rfl)) ?_
    refine M_mono ?_ (w_hasSign (c := 61) hR hs hk (by decide))
    rintro _ k3 ⟨rfl, hy3, hno3⟩
    refine t_ite (op := o_if 30 51 (fun x => x = 0) (fun _ => inferInstance)) (fe_X12_test 27) g_if (fun c2 => ?_) (fun c2 => ?_)
    · replace c2 := b2i_z c2
      have e8 := hno3 c2
      subst e8
      refine t_ret (op := o_vret) (fe_X12_test 51) (fun _ _ => rfl) ?_
      exact hq
    · exact absurd (Or.inr (b2i_nn c2)) hop
  · exact absurd (Or.inl (b2i_nn c1)) hop
theorem w_products_y {d : Nat} {h0 h : AHP} {TK : Nat → Tk} {n dep : Nat} {s s1 : St} (hR : RQ h0 TK n) (hs : RS h0 h s) (hk : okR TK n s) (hop : opP TK 3 s) (hJ : ∀ h2, RS h0 h2 (nx1 s) → MM (d + 3) 193 [.ref 183, .int (nI dep)] h2 (fun v h3 => v = none ∧ RS h0 h3 s1)) (hq1 : s1.2.2.length < 1100) {Q : Option Value → AHP → Prop} (hq : ∀ h2, RS h0 h2 (emS (opC TK 3 s) 0 s1) → TT (d + 4) 192 5 [some (.ref 183), some (.int (nI dep))] [] h2 Q) : TT (d + 4) 192 5 [some (.ref 183), some (.int (nI dep))] [] h Q := by
  have hS := hs.std hR.1
  refine t_go (op := o_aload 6 0) (fe_X12_products 5) (fun _ _ => rfl) ?_
  refine t_go (op := o_ci 8 42) (fe_X12_products 6) (fun _ _ => rfl) ?_
  refine t_call (op := o_callV 11 170 2 11) (fe_X12_products 8) (g_callV hS (show (lay 183).1 = 11 by decide) (by decide) rfl rfl rfl (Nat.le_of_ble_eq_true rfl)) ?_
  refine M_mono ?_ (w_hasSign (c := 42) hR hs hk (by decide))
  rintro _ k1 ⟨rfl, hy, hno⟩
  refine t_ite (op := o_if 14 29 (fun x => x = 0) (fun _ => inferInstance)) (fe_X12_products 11) g_if (fun c1 => ?_) (fun c1 => ?_)
  · exact absurd hop (b2i_z c1)
  · replace c1 := b2i_nn c1
    have hs1 := hy c1
    replace hS := RS.std hR.1 hs1
    refine t_go (op := o_aload 15 0) (fe_X12_products 14) (fun _ _ => rfl) ?_
    refine t_go (op := o_iload 16 1) (fe_X12_products 15) (fun _ _ => rfl) ?_
    refine t_call (op := o_callV 19 193 2 11) (fe_X12_products 16) (g_callV hS (show (lay 183).1 = 11 by decide) (by decide) rfl rfl rfl (Nat.le_of_ble_eq_true rfl)) ?_
    refine M_mono ?_ (hJ _ hs1)
    rintro _ k2 ⟨rfl, hs2⟩
    replace hS := RS.std hR.1 hs2
    refine t_go (op := o_aload 20 0) (fe_X12_products 19) (fun _ _ => rfl) ?_
    refine t_go (op := o_ci 22 6) (fe_X12_products 20) (fun _ _ => rfl) ?_
    refine t_go (op := o_ci 23 0) (fe_X12_products 22) (fun _ _ => rfl) ?_
    refine t_call (op := o_callV 26 188 3 11) (fe_X12_products 23) (g_callV hS (show (lay 183).1 = 11 by decide) (by decide) rfl rfl rfl (Nat.le_of_ble_eq_true rfl)) ?_
    refine M_mono ?_ (w_emit (a := 6) (b := 0) hR.1 hs2 hq1)
    rintro _ k3 ⟨rfl, hs3⟩
    replace hS := RS.std hR.1 hs3
    refine t_go (op := o_goto 5) (fe_X12_products 26) (fun _ _ => rfl) ?_
    exact hq _ hs3
theorem w_products_n {d : Nat} {h0 h : AHP} {TK : Nat → Tk} {n dep : Nat} {s : St} (hR : RQ h0 TK n) (hs : RS h0 h s) (hk : okR TK n s) (hop : ¬ opP TK 3 s) {Q : Option Value → AHP → Prop} (hq : Q none h) : TT (d + 4) 192 5 [some (.ref 183), some (.int (nI dep))] [] h Q := by
  have hS := hs.std hR.1
  refine t_go (op := o_aload 6 0) (fe_X12_products 5) (fun _ _ => rfl) ?_
  refine t_go (op := o_ci 8 42) (fe_X12_products 6) (fun _ _ => rfl) ?_
  refine t_call (op := o_callV 11 170 2 11) (fe_X12_products 8) (g_callV hS (show (lay 183).1 = 11 by decide) (by decide) rfl rfl rfl (Nat.le_of_ble_eq_true rfl)) ?_
  refine M_mono ?_ (w_hasSign (c := 42) hR hs hk (by decide))
  rintro _ k1 ⟨rfl, hy, hno⟩
  refine t_ite (op := o_if 14 29 (fun x => x = 0) (fun _ => inferInstance)) (fe_X12_products 11) g_if (fun c1 => ?_) (fun c1 => ?_)
  · replace c1 := b2i_z c1
    have e9 := hno c1
    subst e9
    refine t_ret (op := o_vret) (fe_X12_products 29) (fun _ _ => rfl) ?_
    exact hq
  · exact absurd (b2i_nn c1) hop
theorem w_whole_0 {d : Nat} {h0 h : AHP} {TK : Nat → Tk} {n dep : Nat} {s s1 : St} (hR : RQ h0 TK n) (hs : RS h0 h s) {Q : Option Value → AHP → Prop} (hJ : MM (d + 3) 190 [.ref 183, .int (nI dep)] h (fun v h3 => v = none ∧ RS h0 h3 s1)) (hq : ∀ h2, RS h0 h2 s1 → TT (d + 4) 189 5 [some (.ref 183), some (.int (nI dep)), none] [] h2 Q) : MM (d + 4) 189 [.ref 183, .int (nI dep)] h (fun v h2 => Q v h2) := by
  refine ⟨Nat.le_of_ble_eq_true rfl, ?_⟩
  have hS := hs.std hR.1
  refine t_go (op := o_aload 1 0) (fe_X12_whole 0) (fun _ _ => rfl) ?_
  refine t_go (op := o_iload 2 1) (fe_X12_whole 1) (fun _ _ => rfl) ?_
  refine t_call (op := o_callV 5 190 2 11) (fe_X12_whole 2) (g_callV hS (show (lay 183).1 = 11 by decide) (by decide) rfl rfl rfl (Nat.le_of_ble_eq_true rfl)) ?_
  refine M_mono ?_ hJ
  rintro _ k2 ⟨rfl, hs2⟩
  replace hS := RS.std hR.1 hs2
  exact hq _ hs2
theorem w_test_0 {d : Nat} {h0 h : AHP} {TK : Nat → Tk} {n dep : Nat} {s s1 : St} (hR : RQ h0 TK n) (hs : RS h0 h s) {Q : Option Value → AHP → Prop} (hJ : MM (d + 3) 191 [.ref 183, .int (nI dep)] h (fun v h3 => v = none ∧ RS h0 h3 s1)) (hq : ∀ h2, RS h0 h2 s1 → TT (d + 4) 190 5 [some (.ref 183), some (.int (nI dep)), none] [] h2 Q) : MM (d + 4) 190 [.ref 183, .int (nI dep)] h (fun v h2 => Q v h2) := by
  refine ⟨Nat.le_of_ble_eq_true rfl, ?_⟩
  have hS := hs.std hR.1
  refine t_go (op := o_aload 1 0) (fe_X12_test 0) (fun _ _ => rfl) ?_
  refine t_go (op := o_iload 2 1) (fe_X12_test 1) (fun _ _ => rfl) ?_
  refine t_call (op := o_callV 5 191 2 11) (fe_X12_test 2) (g_callV hS (show (lay 183).1 = 11 by decide) (by decide) rfl rfl rfl (Nat.le_of_ble_eq_true rfl)) ?_
  refine M_mono ?_ hJ
  rintro _ k2 ⟨rfl, hs2⟩
  replace hS := RS.std hR.1 hs2
  exact hq _ hs2
theorem w_sums_0 {d : Nat} {h0 h : AHP} {TK : Nat → Tk} {n dep : Nat} {s s1 : St} (hR : RQ h0 TK n) (hs : RS h0 h s) {Q : Option Value → AHP → Prop} (hJ : MM (d + 3) 192 [.ref 183, .int (nI dep)] h (fun v h3 => v = none ∧ RS h0 h3 s1)) (hq : ∀ h2, RS h0 h2 s1 → TT (d + 4) 191 5 [some (.ref 183), some (.int (nI dep)), none] [] h2 Q) : MM (d + 4) 191 [.ref 183, .int (nI dep)] h (fun v h2 => Q v h2) := by
  refine ⟨Nat.le_of_ble_eq_true rfl, ?_⟩
  have hS := hs.std hR.1
  refine t_go (op := o_aload 1 0) (fe_X12_sums 0) (fun _ _ => rfl) ?_
  refine t_go (op := o_iload 2 1) (fe_X12_sums 1) (fun _ _ => rfl) ?_
  refine t_call (op := o_callV 5 192 2 11) (fe_X12_sums 2) (g_callV hS (show (lay 183).1 = 11 by decide) (by decide) rfl rfl rfl (Nat.le_of_ble_eq_true rfl)) ?_
  refine M_mono ?_ hJ
  rintro _ k2 ⟨rfl, hs2⟩
  replace hS := RS.std hR.1 hs2
  exact hq _ hs2
theorem w_products_0 {d : Nat} {h0 h : AHP} {TK : Nat → Tk} {n dep : Nat} {s s1 : St} (hR : RQ h0 TK n) (hs : RS h0 h s) {Q : Option Value → AHP → Prop} (hJ : MM (d + 3) 193 [.ref 183, .int (nI dep)] h (fun v h3 => v = none ∧ RS h0 h3 s1)) (hq : ∀ h2, RS h0 h2 s1 → TT (d + 4) 192 5 [some (.ref 183), some (.int (nI dep))] [] h2 Q) : MM (d + 4) 192 [.ref 183, .int (nI dep)] h (fun v h2 => Q v h2) := by
  refine ⟨Nat.le_of_ble_eq_true rfl, ?_⟩
  have hS := hs.std hR.1
  refine t_go (op := o_aload 1 0) (fe_X12_products 0) (fun _ _ => rfl) ?_
  refine t_go (op := o_iload 2 1) (fe_X12_products 1) (fun _ _ => rfl) ?_
  refine t_call (op := o_callV 5 193 2 11) (fe_X12_products 2) (g_callV hS (show (lay 183).1 = 11 by decide) (by decide) rfl rfl rfl (Nat.le_of_ble_eq_true rfl)) ?_
  refine M_mono ?_ hJ
  rintro _ k2 ⟨rfl, hs2⟩
  replace hS := RS.std hR.1 hs2
  exact hq _ hs2
