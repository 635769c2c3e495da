/-! ===== the reference reads lines: leaves ===== -/
theorem wrF_n {TK : Nat → Tk} {c i f : Nat} (hf : ¬ f = 0) : wrF TK c i f = f := if_neg hf
def nmF (TK : Nat → Tk) (i : Nat) : Nat := if (TK i).1 = 2 then 4 else 1
theorem wr0_b {TK : Nat → Tk} {c i : Nat} (hB : ∀ j, TKb (TK j)) (hc : c ≤ 5) : wrF TK c i 0 < 100000 := wrF_b hB (by decide) hc
theorem nmF_5 {TK : Nat → Tk} {i : Nat} : 1 ≤ nmF TK i ∧ nmF TK i ≤ 5 := by unfold nmF; split <;> omega
section RLF
variable {d : Nat} {h : AHP} {TK : Nat → Tk} {n i f : Nat}
theorem r_takeWordF (hR : RQ h TK n) (hi : i ≤ n) (hf : f < 100000) (h0 : ¬ f = 0) {c : Nat} (hc : c < 23) : MM (d + 2) 172 [.ref 183, .int (nI c)] (AT h i f) (fun v h2 => v = none ∧ h2 = AT h i f) :=
  M_mono (fun v h2 q => ⟨q.1, by have e := q.2.2 (fun w => h0 w.1); rw [wrF_n h0] at e; exact e⟩) (r_takeWord hR hi hf hc)
theorem r_takeSignF (hR : RQ h TK n) (hi : i ≤ n) (hf : f < 100000) (h0 : ¬ f = 0) {c : Nat} (hc : c < 10000) : MM (d + 1) 169 [.ref 183, .int (nI c)] (AT h i f) (fun v h2 => v = none ∧ h2 = AT h i f) :=
  M_mono (fun v h2 q => ⟨q.1, by have e := q.2.2 (fun w => h0 w.1); rw [wrF_n h0] at e; exact e⟩) (r_takeSign hR hi hf hc)
theorem r_takeNumberF (hR : RQ h TK n) (hi : i ≤ n) (hf : f < 100000) (h0 : ¬ f = 0) {lo hi2 : Nat} (hl : lo < 10000) (hh : hi2 < 10000) : MM (d + 1) 175 [.ref 183, .int (nI lo), .int (nI hi2)] (AT h i f) (fun v h2 => v = some (.int 0) ∧ h2 = AT h i f) :=
  M_mono (fun v h2 q => by have e := q.2 (fun w => h0 w.1); rw [wrF_n h0] at e; exact e) (r_takeNumber hR hi hf hl hh)
theorem r_takeNumberN (hR : RQ h TK n) (hi : i ≤ n) {lo hi2 : Nat} (hl : lo < 10000) (hh : hi2 < 10000) (hN : ¬ nuP TK lo hi2 i 0) : MM (d + 1) 175 [.ref 183, .int (nI lo), .int (nI hi2)] (AT h i 0) (fun v h2 => v = some (.int 0) ∧ h2 = AT h i (wrF TK (nmF TK i) i 0)) :=
  M_mono (fun v h2 q => q.2 hN) (r_takeNumber hR hi (by decide) hl hh)
theorem r_takeNumberY (hR : RQ h TK n) (hi : i ≤ n) {lo hi2 : Nat} (hl : lo < 10000) (hh : hi2 < 10000) (hN : nuP TK lo hi2 i 0) : MM (d + 1) 175 [.ref 183, .int (nI lo), .int (nI hi2)] (AT h i 0) (fun v h2 => v = some (.int (nI (TK i).2.2.1)) ∧ h2 = AT h (i + 1) 0) :=
  M_mono (fun v h2 q => q.1 hN) (r_takeNumber hR hi (by decide) hl hh)
theorem r_takeWordY (hR : RQ h TK n) (hi : i ≤ n) {c : Nat} (hc : c < 23) (hw : isWd TK c i 0) : MM (d + 2) 172 [.ref 183, .int (nI c)] (AT h i 0) (fun v h2 => v = none ∧ h2 = AT h (i + 1) 0) :=
  M_mono (fun v h2 q => ⟨q.1, q.2.1 hw⟩) (r_takeWord hR hi (by decide) hc)
theorem r_takeWordN (hR : RQ h TK n) (hi : i ≤ n) {c : Nat} (hc : c < 23) (hw : ¬ isWd TK c i 0) : MM (d + 2) 172 [.ref 183, .int (nI c)] (AT h i 0) (fun v h2 => v = none ∧ h2 = AT h i (wrF TK 1 i 0)) :=
  M_mono (fun v h2 q => ⟨q.1, q.2.2 hw⟩) (r_takeWord hR hi (by decide) hc)
theorem r_takeSignY (hR : RQ h TK n) (hi : i ≤ n) {c : Nat} (hc : c < 10000) (hw : isS TK c i 0) : MM (d + 1) 169 [.ref 183, .int (nI c)] (AT h i 0) (fun v h2 => v = none ∧ h2 = AT h (i + 1) 0) :=
  M_mono (fun v h2 q => ⟨q.1, q.2.1 hw⟩) (r_takeSign hR hi (by decide) hc)
theorem r_takeSignN (hR : RQ h TK n) (hi : i ≤ n) {c : Nat} (hc : c < 10000) (hw : ¬ isS TK c i 0) : MM (d + 1) 169 [.ref 183, .int (nI c)] (AT h i 0) (fun v h2 => v = none ∧ h2 = AT h i (wrF TK 1 i 0)) :=
  M_mono (fun v h2 q => ⟨q.1, q.2.2 hw⟩) (r_takeSign hR hi (by decide) hc)
end RLF
theorem r_takeAfterF {d : Nat} {h : AHP} {TK : Nat → Tk} {n i f : Nat} (hR : RQ h TK n) (hi : i ≤ n) (hf : f < 100000) (h0 : ¬ f = 0) {c lo hi2 : Nat} (hc : c < 23) (hl : lo < 10000) (hh : hi2 < 10000) : MM (d + 3) 176 [.ref 183, .int (nI c), .int (nI lo), .int (nI hi2)] (AT h i f) (fun v h2 => v = some (.int 0) ∧ h2 = AT h i f) := by
  refine ⟨Nat.le_of_ble_eq_true rfl, ?_⟩
  have hS := hR.1
  have hB := hR.2.2.2.1
  have hn := hR.2.2.1
  refine t_go (op := o_aload 1 0) (fe_X12_takeAfter 0) (fun _ _ => rfl) ?_
  refine t_go (op := o_iload 2 1) (fe_X12_takeAfter 1) (fun _ _ => rfl) ?_
  refine t_call (op := o_callV 5 172 2 11) (fe_X12_takeAfter 2) (g_callV hS (show (lay 183).1 = 11 by decide) (by decide) rfl rfl rfl (Nat.le_of_ble_eq_true rfl)) ?_
  refine M_eq (r_takeWordF hR hi hf h0 hc) ?_
  refine t_go (op := o_aload 6 0) (fe_X12_takeAfter 5) (fun _ _ => rfl) ?_
  refine t_go (op := o_iload 7 2) (fe_X12_takeAfter 6) (fun _ _ => rfl) ?_
  refine t_go (op := o_iload 8 3) (fe_X12_takeAfter 7) (fun _ _ => rfl) ?_
  refine t_call (op := o_callV 11 175 3 11) (fe_X12_takeAfter 8) (g_callV hS (show (lay 183).1 = 11 by decide) (by decide) rfl rfl rfl (Nat.le_of_ble_eq_true rfl)) ?_
  refine M_eq (r_takeNumberF hR hi hf h0 hl hh) ?_
  refine t_ret (op := o_iret) (fe_X12_takeAfter 11) (fun _ _ => rfl) ?_
  exact ⟨rfl, rfl⟩
theorem r_takeAfterN {d : Nat} {h : AHP} {TK : Nat → Tk} {n i : Nat} (hR : RQ h TK n) (hi : i ≤ n) {c lo hi2 : Nat} (hc : c < 23) (hl : lo < 10000) (hh : hi2 < 10000) (hw : ¬ isWd TK c i 0) : MM (d + 3) 176 [.ref 183, .int (nI c), .int (nI lo), .int (nI hi2)] (AT h i 0) (fun v h2 => v = some (.int 0) ∧ h2 = AT h i (wrF TK 1 i 0)) := by
  refine ⟨Nat.le_of_ble_eq_true rfl, ?_⟩
  have hS := hR.1
  have hB := hR.2.2.2.1
  have hn := hR.2.2.1
  refine t_go (op := o_aload 1 0) (fe_X12_takeAfter 0) (fun _ _ => rfl) ?_
  refine t_go (op := o_iload 2 1) (fe_X12_takeAfter 1) (fun _ _ => rfl) ?_
  refine t_call (op := o_callV 5 172 2 11) (fe_X12_takeAfter 2) (g_callV hS (show (lay 183).1 = 11 by decide) (by decide) rfl rfl rfl (Nat.le_of_ble_eq_true rfl)) ?_
  refine M_eq (r_takeWordN hR hi hc hw) ?_
  refine t_go (op := o_aload 6 0) (fe_X12_takeAfter 5) (fun _ _ => rfl) ?_
  refine t_go (op := o_iload 7 2) (fe_X12_takeAfter 6) (fun _ _ => rfl) ?_
  refine t_go (op := o_iload 8 3) (fe_X12_takeAfter 7) (fun _ _ => rfl) ?_
  refine t_call (op := o_callV 11 175 3 11) (fe_X12_takeAfter 8) (g_callV hS (show (lay 183).1 = 11 by decide) (by decide) rfl rfl rfl (Nat.le_of_ble_eq_true rfl)) ?_
  refine M_eq (r_takeNumberF hR hi (wr0_b hB (by decide)) (wrF_p (by decide)) hl hh) ?_
  refine t_ret (op := o_iret) (fe_X12_takeAfter 11) (fun _ _ => rfl) ?_
  exact ⟨rfl, rfl⟩
theorem r_takeAfterM {d : Nat} {h : AHP} {TK : Nat → Tk} {n i : Nat} (hR : RQ h TK n) (hi : i ≤ n) {c lo hi2 : Nat} (hc : c < 23) (hl : lo < 10000) (hh : hi2 < 10000) (hw : isWd TK c i 0) (hi1 : i + 1 ≤ n) (hN : ¬ nuP TK lo hi2 (i + 1) 0) : MM (d + 3) 176 [.ref 183, .int (nI c), .int (nI lo), .int (nI hi2)] (AT h i 0) (fun v h2 => v = some (.int 0) ∧ h2 = AT h (i + 1) (wrF TK (nmF TK (i + 1)) (i + 1) 0)) := by
  refine ⟨Nat.le_of_ble_eq_true rfl, ?_⟩
  have hS := hR.1
  have hB := hR.2.2.2.1
  have hn := hR.2.2.1
  refine t_go (op := o_aload 1 0) (fe_X12_takeAfter 0) (fun _ _ => rfl) ?_
  refine t_go (op := o_iload 2 1) (fe_X12_takeAfter 1) (fun _ _ => rfl) ?_
  refine t_call (op := o_callV 5 172 2 11) (fe_X12_takeAfter 2) (g_callV hS (show (lay 183).1 = 11 by decide) (by decide) rfl rfl rfl (Nat.le_of_ble_eq_true rfl)) ?_
  refine M_eq (r_takeWordY hR hi hc hw) ?_
  refine t_go (op := o_aload 6 0) (fe_X12_takeAfter 5) (fun _ _ => rfl) ?_
  refine t_go (op := o_iload 7 2) (fe_X12_takeAfter 6) (fun _ _ => rfl) ?_
  refine t_go (op := o_iload 8 3) (fe_X12_takeAfter 7) (fun _ _ => rfl) ?_
  refine t_call (op := o_callV 11 175 3 11) (fe_X12_takeAfter 8) (g_callV hS (show (lay 183).1 = 11 by decide) (by decide) rfl rfl rfl (Nat.le_of_ble_eq_true rfl)) ?_
  refine M_eq (r_takeNumberN hR hi1 hl hh hN) ?_
  refine t_ret (op := o_iret) (fe_X12_takeAfter 11) (fun _ _ => rfl) ?_
  exact ⟨rfl, rfl⟩
theorem r_takeAfterY {d : Nat} {h : AHP} {TK : Nat → Tk} {n i : Nat} (hR : RQ h TK n) (hi : i ≤ n) {c lo hi2 : Nat} (hc : c < 23) (hl : lo < 10000) (hh : hi2 < 10000) (hw : isWd TK c i 0) (hi1 : i + 1 ≤ n) (hN : nuP TK lo hi2 (i + 1) 0) : MM (d + 3) 176 [.ref 183, .int (nI c), .int (nI lo), .int (nI hi2)] (AT h i 0) (fun v h2 => v = some (.int (nI (TK (i + 1)).2.2.1)) ∧ h2 = AT h (i + 2) 0) := by
  refine ⟨Nat.le_of_ble_eq_true rfl, ?_⟩
  have hS := hR.1
  have hB := hR.2.2.2.1
  have hn := hR.2.2.1
  refine t_go (op := o_aload 1 0) (fe_X12_takeAfter 0) (fun _ _ => rfl) ?_
  refine t_go (op := o_iload 2 1) (fe_X12_takeAfter 1) (fun _ _ => rfl) ?_
  refine t_call (op := o_callV 5 172 2 11) (fe_X12_takeAfter 2) (g_callV hS (show (lay 183).1 = 11 by decide) (by decide) rfl rfl rfl (Nat.le_of_ble_eq_true rfl)) ?_
  refine M_eq (r_takeWordY hR hi hc hw) ?_
  refine t_go (op := o_aload 6 0) (fe_X12_takeAfter 5) (fun _ _ => rfl) ?_
  refine t_go (op := o_iload 7 2) (fe_X12_takeAfter 6) (fun _ _ => rfl) ?_
  refine t_go (op := o_iload 8 3) (fe_X12_takeAfter 7) (fun _ _ => rfl) ?_
  refine t_call (op := o_callV 11 175 3 11) (fe_X12_takeAfter 8) (g_callV hS (show (lay 183).1 = 11 by decide) (by decide) rfl rfl rfl (Nat.le_of_ble_eq_true rfl)) ?_
  refine M_eq (r_takeNumberY hR hi1 hl hh hN) ?_
  refine t_ret (op := o_iret) (fe_X12_takeAfter 11) (fun _ _ => rfl) ?_
  exact ⟨rfl, rfl⟩
theorem r_takeOneF {d : Nat} {h : AHP} {TK : Nat → Tk} {n i f : Nat} (hR : RQ h TK n) (hi : i ≤ n) (hf : f < 100000) (h0 : ¬ f = 0) {b cnt : Nat} (hb : b + cnt ≤ 23) : MM (d + 2) 178 [.ref 183, .int (nI b), .int (nI cnt)] (AT h i f) (fun v h2 => v = some (.int 0) ∧ h2 = AT h i f) := by
  refine ⟨Nat.le_of_ble_eq_true rfl, ?_⟩
  have hS := hR.1
  have hB := hR.2.2.2.1
  have hn := hR.2.2.1
  refine t_go (op := o_aload 1 0) (fe_X12_takeOne 0) (fun _ _ => rfl) ?_
  refine t_go (op := o_getI 4 11 8) (fe_X12_takeOne 1) (g_getI hS (show (lay 183).1 = 11 by decide) (by decide)) ?_
  rw [show (AT h i f).1 183 8 = nI f from AT_8]
  refine t_ite (op := o_if 7 11 (fun x => x ≤ 0) (fun _ => inferInstance)) (fe_X12_takeOne 4) g_if (fun c1 => ?_) (fun c1 => ?_)
  · exact absurd ((le_0 hf).mp c1) h0
  · refine t_go (op := o_ci 8 (-1)) (fe_X12_takeOne 7) (fun _ _ => rfl) ?_
    refine t_go (op := o_goto 17) (fe_X12_takeOne 8) (fun _ _ => rfl) ?_
    refine t_go (op := o_istore 18 3) (fe_X12_takeOne 17) (fun _ _ => rfl) ?_
    refine t_go (op := o_aload 19 0) (fe_X12_takeOne 18) (fun _ _ => rfl) ?_
    refine t_go (op := o_getI 22 11 8) (fe_X12_takeOne 19) (g_getI hS (show (lay 183).1 = 11 by decide) (by decide)) ?_
    rw [show (AT h i f).1 183 8 = nI f from AT_8]
    refine t_ite (op := o_if 34 25 (fun x => x = 0) (fun _ => inferInstance)) (fe_X12_takeOne 22) g_if (fun c2 => ?_) (fun c2 => ?_)
    · exact absurd ((f_0 hf).mp c2) h0
    · refine t_go (op := o_aload 35 0) (fe_X12_takeOne 34) (fun _ _ => rfl) ?_
      refine t_go (op := o_dupA 36) (fe_X12_takeOne 35) (fun _ _ => rfl) ?_
      refine t_go (op := o_getI 39 11 7) (fe_X12_takeOne 36) (g_getI hS (show (lay 183).1 = 11 by decide) (by decide)) ?_
      rw [show (AT h i f).1 183 7 = nI i from AT_7]
      refine t_go (op := o_aload 40 0) (fe_X12_takeOne 39) (fun _ _ => rfl) ?_
      refine t_go (op := o_getI 43 11 8) (fe_X12_takeOne 40) (g_getI hS (show (lay 183).1 = 11 by decide) (by decide)) ?_
      rw [show (AT h i f).1 183 8 = nI f from AT_8]
      refine t_ite (op := o_if 46 50 (fun x => x ≤ 0) (fun _ => inferInstance)) (fe_X12_takeOne 43) g_if (fun c3 => ?_) (fun c3 => ?_)
      · exact absurd ((le_0 hf).mp c3) h0
      · refine t_go (op := o_ci 47 0) (fe_X12_takeOne 46) (fun _ _ => rfl) ?_
        refine t_go (op := o_goto 51) (fe_X12_takeOne 47) (fun _ _ => rfl) ?_
        refine t_go (op := o_i2 52 (fun x y => x + y)) (fe_X12_takeOne 51) (fun _ _ => rfl) ?_
        refine t_go (op := o_putI 55 11 7) (fe_X12_takeOne 52) (g_putI hS (show (lay 183).1 = 11 by decide) (by decide)) ?_
        refine T_heap ((congrArg (sI (AT h i f) 183 7) (show (fun x y : Int32 => x + y) (nI i) 0 = nI i from nIa rfl (nIl 0))).trans AT_7s).symm ?_
        refine t_go (op := o_aload 56 0) (fe_X12_takeOne 55) (fun _ _ => rfl) ?_
        refine t_go (op := o_getI 59 11 8) (fe_X12_takeOne 56) (g_getI hS (show (lay 183).1 = 11 by decide) (by decide)) ?_
        rw [show (AT h i f).1 183 8 = nI f from AT_8]
        refine t_ite (op := o_if 62 66 (fun x => x ≤ 0) (fun _ => inferInstance)) (fe_X12_takeOne 59) g_if (fun c4 => ?_) (fun c4 => ?_)
        · exact absurd ((le_0 hf).mp c4) h0
        · refine t_go (op := o_ci 63 0) (fe_X12_takeOne 62) (fun _ _ => rfl) ?_
          refine t_go (op := o_goto 67) (fe_X12_takeOne 63) (fun _ _ => rfl) ?_
          refine t_ret (op := o_iret) (fe_X12_takeOne 67) (fun _ _ => rfl) ?_
          exact ⟨rfl, rfl⟩
theorem r_takeOneN {d : Nat} {h : AHP} {TK : Nat → Tk} {n i : Nat} (hR : RQ h TK n) (hi : i ≤ n) {b cnt : Nat} (hb : b + cnt ≤ 23) (hw : ¬ whP TK b i 0 cnt) : MM (d + 2) 178 [.ref 183, .int (nI b), .int (nI cnt)] (AT h i 0) (fun v h2 => v = some (.int 0) ∧ h2 = AT h i (wrF TK 1 i 0)) := by
  refine ⟨Nat.le_of_ble_eq_true rfl, ?_⟩
  have hS := hR.1
  have hB := hR.2.2.2.1
  have hn := hR.2.2.1
  refine t_go (op := o_aload 1 0) (fe_X12_takeOne 0) (fun _ _ => rfl) ?_
  refine t_go (op := o_getI 4 11 8) (fe_X12_takeOne 1) (g_getI hS (show (lay 183).1 = 11 by decide) (by decide)) ?_
  rw [show (AT h i 0).1 183 8 = nI 0 from AT_8]
  refine t_ite (op := o_if 7 11 (fun x => x ≤ 0) (fun _ => inferInstance)) (fe_X12_takeOne 4) g_if (fun c1 => ?_) (fun c1 => ?_)
  · refine t_go (op := o_aload 12 0) (fe_X12_takeOne 11) (fun _ _ => rfl) ?_
    refine t_go (op := o_iload 13 1) (fe_X12_takeOne 12) (fun _ _ => rfl) ?_
    refine t_go (op := o_iload 14 2) (fe_X12_takeOne 13) (fun _ _ => rfl) ?_
    refine t_call (op := o_callV 17 177 3 11) (fe_X12_takeOne 14) (g_callV hS (show (lay 183).1 = 11 by decide) (by decide) rfl rfl rfl (Nat.le_of_ble_eq_true rfl)) ?_
    refine M_eq (r_wordHere (f := 0) hR hi (by decide) hb) ?_
    refine t_go (op := o_istore 18 3) (fe_X12_takeOne 17) (fun _ _ => rfl) ?_
    refine t_go (op := o_aload 19 0) (fe_X12_takeOne 18) (fun _ _ => rfl) ?_
    refine t_go (op := o_getI 22 11 8) (fe_X12_takeOne 19) (g_getI hS (show (lay 183).1 = 11 by decide) (by decide)) ?_
    rw [show (AT h i 0).1 183 8 = nI 0 from AT_8]
    refine t_ite (op := o_if 34 25 (fun x => x = 0) (fun _ => inferInstance)) (fe_X12_takeOne 22) g_if (fun c2 => ?_) (fun c2 => ?_)
    · refine t_go (op := o_iload 26 3) (fe_X12_takeOne 25) (fun _ _ => rfl) ?_
      refine t_ite (op := o_if 29 34 (fun x => 0 ≤ x) (fun _ => inferInstance)) (fe_X12_takeOne 26) g_if (fun c3 => ?_) (fun c3 => ?_)
      · exact absurd ((whV_n (hB i)).mp c3) hw
      · refine t_go (op := o_aload 30 0) (fe_X12_takeOne 29) (fun _ _ => rfl) ?_
        refine t_go (op := o_ci 31 1) (fe_X12_takeOne 30) (fun _ _ => rfl) ?_
        refine t_call (op := o_callV 34 166 2 11) (fe_X12_takeOne 31) (g_callV hS (show (lay 183).1 = 11 by decide) (by decide) rfl rfl rfl (Nat.le_of_ble_eq_true rfl)) ?_
        refine M_eq (r_wrong (c := 1) (f := 0) hR hi (by decide)) ?_
        refine t_go (op := o_aload 35 0) (fe_X12_takeOne 34) (fun _ _ => rfl) ?_
        refine t_go (op := o_dupA 36) (fe_X12_takeOne 35) (fun _ _ => rfl) ?_
        refine t_go (op := o_getI 39 11 7) (fe_X12_takeOne 36) (g_getI hS (show (lay 183).1 = 11 by decide) (by decide)) ?_
        rw [show (AT h i (wrF TK 1 i 0)).1 183 7 = nI i from AT_7]
        refine t_go (op := o_aload 40 0) (fe_X12_takeOne 39) (fun _ _ => rfl) ?_
        refine t_go (op := o_getI 43 11 8) (fe_X12_takeOne 40) (g_getI hS (show (lay 183).1 = 11 by decide) (by decide)) ?_
        rw [show (AT h i (wrF TK 1 i 0)).1 183 8 = nI (wrF TK 1 i 0) from AT_8]
        refine t_ite (op := o_if 46 50 (fun x => x ≤ 0) (fun _ => inferInstance)) (fe_X12_takeOne 43) g_if (fun c4 => ?_) (fun c4 => ?_)
        · exact absurd ((le_0 (wr0_b hB (by decide))).mp c4) (wrF_p (by decide))
        · refine t_go (op := o_ci 47 0) (fe_X12_takeOne 46) (fun _ _ => rfl) ?_
          refine t_go (op := o_goto 51) (fe_X12_takeOne 47) (fun _ _ => rfl) ?_
          refine t_go (op := o_i2 52 (fun x y => x + y)) (fe_X12_takeOne 51) (fun _ _ => rfl) ?_
          refine t_go (op := o_putI 55 11 7) (fe_X12_takeOne 52) (g_putI hS (show (lay 183).1 = 11 by decide) (by decide)) ?_
          refine T_heap ((congrArg (sI (AT h i (wrF TK 1 i 0)) 183 7) (show (fun x y : Int32 => x + y) (nI i) 0 = nI i from nIa rfl (nIl 0))).trans AT_7s).symm ?_
          refine t_go (op := o_aload 56 0) (fe_X12_takeOne 55) (fun _ _ => rfl) ?_
          refine t_go (op := o_getI 59 11 8) (fe_X12_takeOne 56) (g_getI hS (show (lay 183).1 = 11 by decide) (by decide)) ?_
          rw [show (AT h i (wrF TK 1 i 0)).1 183 8 = nI (wrF TK 1 i 0) from AT_8]
          refine t_ite (op := o_if 62 66 (fun x => x ≤ 0) (fun _ => inferInstance)) (fe_X12_takeOne 59) g_if (fun c5 => ?_) (fun c5 => ?_)
          · exact absurd ((le_0 (wr0_b hB (by decide))).mp c5) (wrF_p (by decide))
          · refine t_go (op := o_ci 63 0) (fe_X12_takeOne 62) (fun _ _ => rfl) ?_
            refine t_go (op := o_goto 67) (fe_X12_takeOne 63) (fun _ _ => rfl) ?_
            refine t_ret (op := o_iret) (fe_X12_takeOne 67) (fun _ _ => rfl) ?_
            exact ⟨rfl, rfl⟩
    · exact absurd rfl c2
  · exact absurd (Int32.le_refl _) c1
theorem r_takeOneY {d : Nat} {h : AHP} {TK : Nat → Tk} {n i : Nat} (hR : RQ h TK n) (hi : i ≤ n) {b cnt : Nat} (hb : b + cnt ≤ 23) (hw : whP TK b i 0 cnt) : MM (d + 2) 178 [.ref 183, .int (nI b), .int (nI cnt)] (AT h i 0) (fun v h2 => v = some (.int (nI ((TK i).2.2.1 - b))) ∧ h2 = AT h (i + 1) 0) := by
  refine ⟨Nat.le_of_ble_eq_true rfl, ?_⟩
  have hS := hR.1
  have hB := hR.2.2.2.1
  have hn := hR.2.2.1
  refine t_go (op := o_aload 1 0) (fe_X12_takeOne 0) (fun _ _ => rfl) ?_
  refine t_go (op := o_getI 4 11 8) (fe_X12_takeOne 1) (g_getI hS (show (lay 183).1 = 11 by decide) (by decide)) ?_
  rw [show (AT h i 0).1 183 8 = nI 0 from AT_8]
  refine t_ite (op := o_if 7 11 (fun x => x ≤ 0) (fun _ => inferInstance)) (fe_X12_takeOne 4) g_if (fun c1 => ?_) (fun c1 => ?_)
  · refine t_go (op := o_aload 12 0) (fe_X12_takeOne 11) (fun _ _ => rfl) ?_
    refine t_go (op := o_iload 13 1) (fe_X12_takeOne 12) (fun _ _ => rfl) ?_
    refine t_go (op := o_iload 14 2) (fe_X12_takeOne 13) (fun _ _ => rfl) ?_
    refine t_call (op := o_callV 17 177 3 11) (fe_X12_takeOne 14) (g_callV hS (show (lay 183).1 = 11 by decide) (by decide) rfl rfl rfl (Nat.le_of_ble_eq_true rfl)) ?_
    refine M_eq (r_wordHere (f := 0) hR hi (by decide) hb) ?_
    refine t_go (op := o_istore 18 3) (fe_X12_takeOne 17) (fun _ _ => rfl) ?_
    refine t_go (op := o_aload 19 0) (fe_X12_takeOne 18) (fun _ _ => rfl) ?_
    refine t_go (op := o_getI 22 11 8) (fe_X12_takeOne 19) (g_getI hS (show (lay 183).1 = 11 by decide) (by decide)) ?_
    rw [show (AT h i 0).1 183 8 = nI 0 from AT_8]
    refine t_ite (op := o_if 34 25 (fun x => x = 0) (fun _ => inferInstance)) (fe_X12_takeOne 22) g_if (fun c2 => ?_) (fun c2 => ?_)
    · refine t_go (op := o_iload 26 3) (fe_X12_takeOne 25) (fun _ _ => rfl) ?_
      refine t_ite (op := o_if 29 34 (fun x => 0 ≤ x) (fun _ => inferInstance)) (fe_X12_takeOne 26) g_if (fun c3 => ?_) (fun c3 => ?_)
      · refine t_go (op := o_aload 35 0) (fe_X12_takeOne 34) (fun _ _ => rfl) ?_
        refine t_go (op := o_dupA 36) (fe_X12_takeOne 35) (fun _ _ => rfl) ?_
        refine t_go (op := o_getI 39 11 7) (fe_X12_takeOne 36) (g_getI hS (show (lay 183).1 = 11 by decide) (by decide)) ?_
        rw [show (AT h i 0).1 183 7 = nI i from AT_7]
        refine t_go (op := o_aload 40 0) (fe_X12_takeOne 39) (fun _ _ => rfl) ?_
        refine t_go (op := o_getI 43 11 8) (fe_X12_takeOne 40) (g_getI hS (show (lay 183).1 = 11 by decide) (by decide)) ?_
        rw [show (AT h i 0).1 183 8 = nI 0 from AT_8]
        refine t_ite (op := o_if 46 50 (fun x => x ≤ 0) (fun _ => inferInstance)) (fe_X12_takeOne 43) g_if (fun c4 => ?_) (fun c4 => ?_)
        · refine t_go (op := o_ci 51 1) (fe_X12_takeOne 50) (fun _ _ => rfl) ?_
          refine t_go (op := o_i2 52 (fun x y => x + y)) (fe_X12_takeOne 51) (fun _ _ => rfl) ?_
          refine t_go (op := o_putI 55 11 7) (fe_X12_takeOne 52) (g_putI hS (show (lay 183).1 = 11 by decide) (by decide)) ?_
          refine T_heap ((congrArg (sI (AT h i 0) 183 7) (show (fun x y : Int32 => x + y) (nI i) 1 = nI (i + 1) from nI_1 i)).trans AT_7s).symm ?_
          refine t_go (op := o_aload 56 0) (fe_X12_takeOne 55) (fun _ _ => rfl) ?_
          refine t_go (op := o_getI 59 11 8) (fe_X12_takeOne 56) (g_getI hS (show (lay 183).1 = 11 by decide) (by decide)) ?_
          rw [show (AT h (i + 1) 0).1 183 8 = nI 0 from AT_8]
          refine t_ite (op := o_if 62 66 (fun x => x ≤ 0) (fun _ => inferInstance)) (fe_X12_takeOne 59) g_if (fun c5 => ?_) (fun c5 => ?_)
          · refine t_go (op := o_iload 67 3) (fe_X12_takeOne 66) (fun _ _ => rfl) ?_
            refine t_ret (op := o_iret) (fe_X12_takeOne 67) (fun _ _ => rfl) ?_
            exact ⟨congrArg (fun z => some (Value.int z)) (if_pos hw), rfl⟩
          · exact absurd (Int32.le_refl _) c5
        · exact absurd (Int32.le_refl _) c4
      · exact absurd ((whV_n (hB i)).mpr hw) c3
    · exact absurd rfl c2
  · exact absurd (Int32.le_refl _) c1
/-- the first place of what is sought, or -1 -/
def FIp (P : Nat → Prop) (m : Nat) (v : Int32) : Prop := (∃ k, k < m ∧ P k ∧ (∀ j, j < k → ¬ P j) ∧ v = nI k) ∨ ((∀ k, k < m → ¬ P k) ∧ v = -1)
theorem FIp_same {P P2 : Nat → Prop} {m : Nat} {v v2 : Int32} (e : ∀ k, k < m → (P k ↔ P2 k)) (h : FIp P m v) (h2 : FIp P2 m v2) : v = v2 := by
  rcases h with ⟨k, k1, k2, k3, k4⟩ | ⟨k1, k2⟩
  · rcases h2 with ⟨j, j1, j2, j3, j4⟩ | ⟨j1, j2⟩
    · rcases Nat.lt_trichotomy k j with q | q | q
      · exact absurd ((e k k1).mp k2) (j3 k q)
      · subst q; rw [k4, j4]
      · exact absurd ((e j j1).mpr j2) (k3 j q)
    · exact absurd ((e k k1).mp k2) (j1 k k1)
  · rcases h2 with ⟨j, j1, j2, j3, j4⟩ | ⟨j1, j2⟩
    · exact absurd ((e j j1).mpr j2) (k1 j j1)
    · rw [k2, j2]
theorem lr_nameAtT {d : Nat} {h : AHP} {TK : Nat → Tk} {n i m : Nat} (hR : RQ h TK n) (hi : i ≤ n) (hm : h.1 183 17 = nI m) (hm7 : m ≤ 7) {Q : Option Value → AHP → Prop} : ∀ (j a : Nat) (_ : Unit), a + j = m → (∀ j, j < a → ¬ h.2.1 193 j = h.2.1 187 i) → (∀ v, FIp (fun k => h.2.1 193 k = h.2.1 187 i) m v → Q (some (.int v)) (AT h i 0)) → TT d 180 2 [some (.ref 183), some (.int 1), some (.int (nI a))] [] (AT h i 0) Q := by
  intro j
  induction j with
  | zero =>
    intro a _ hja hpr hq
    have hN : a = m := by omega
    have hS := hR.1
    have hn := hR.2.2.1
    refine t_go (op := o_iload 3 2) (fe_X12_nameAt 2) (fun _ _ => rfl) ?_
    refine t_go (op := o_iload 4 1) (fe_X12_nameAt 3) (fun _ _ => rfl) ?_
    refine t_ite (op := o_if 7 14 (fun x => x = 0) (fun _ => inferInstance)) (fe_X12_nameAt 4) g_if (fun c1 => ?_) (fun c1 => ?_)
    · exact absurd c1 (by decide)
    · clear c1
      refine t_go (op := o_aload 8 0) (fe_X12_nameAt 7) (fun _ _ => rfl) ?_
      refine t_go (op := o_getI 11 11 17) (fe_X12_nameAt 8) (g_getI hS (show (lay 183).1 = 11 by decide) (by decide)) ?_
      rw [show (AT h i 0).1 183 17 = nI m from (AT_o (by decide) (by decide)).trans hm]
      refine t_go (op := o_goto 18) (fe_X12_nameAt 11) (fun _ _ => rfl) ?_
      refine t_ite (op := o_icmp 21 61 (fun x y => y ≤ x) (fun _ _ => inferInstance)) (fe_X12_nameAt 18) g_icmp (fun c2 => ?_) (fun c2 => ?_)
      · refine t_go (op := o_ci 62 (-1)) (fe_X12_nameAt 61) (fun _ _ => rfl) ?_
        refine t_ret (op := o_iret) (fe_X12_nameAt 62) (fun _ _ => rfl) ?_
        exact hq _ (Or.inr ⟨fun k hk => hpr k (by omega), rfl⟩)
      · exact absurd (by rw [hN]; exact Int32.le_refl _) c2
  | succ j ih =>
    intro a _ hja hpr hq
    have hi7 : a < m := by omega
    have hS := hR.1
    have hn := hR.2.2.1
    refine t_go (op := o_iload 3 2) (fe_X12_nameAt 2) (fun _ _ => rfl) ?_
    refine t_go (op := o_iload 4 1) (fe_X12_nameAt 3) (fun _ _ => rfl) ?_
    refine t_ite (op := o_if 7 14 (fun x => x = 0) (fun _ => inferInstance)) (fe_X12_nameAt 4) g_if (fun c1 => ?_) (fun c1 => ?_)
    · exact absurd c1 (by decide)
    · clear c1
      refine t_go (op := o_aload 8 0) (fe_X12_nameAt 7) (fun _ _ => rfl) ?_
      refine t_go (op := o_getI 11 11 17) (fe_X12_nameAt 8) (g_getI hS (show (lay 183).1 = 11 by decide) (by decide)) ?_
      rw [show (AT h i 0).1 183 17 = nI m from (AT_o (by decide) (by decide)).trans hm]
      refine t_go (op := o_goto 18) (fe_X12_nameAt 11) (fun _ _ => rfl) ?_
      refine t_ite (op := o_icmp 21 61 (fun x y => y ≤ x) (fun _ _ => inferInstance)) (fe_X12_nameAt 18) g_icmp (fun c2 => ?_) (fun c2 => ?_)
      · exact absurd c2 (nI_ge hi7 (by omega))
      · refine t_go (op := o_iload 22 1) (fe_X12_nameAt 21) (fun _ _ => rfl) ?_
        refine t_ite (op := o_if 25 34 (fun x => x = 0) (fun _ => inferInstance)) (fe_X12_nameAt 22) g_if (fun c3 => ?_) (fun c3 => ?_)
        · exact absurd c3 (by decide)
        · clear c3
          refine t_go (op := o_aload 26 0) (fe_X12_nameAt 25) (fun _ _ => rfl) ?_
          refine t_go (op := o_getR 29 11 15) (fe_X12_nameAt 26) (g_getR hS (show (lay 183).1 = 11 by decide) (by decide) (fr_11_15 hS) (by decide)) ?_
          refine t_go (op := o_iload 30 2) (fe_X12_nameAt 29) (fun _ _ => rfl) ?_
          refine t_go (op := o_lald 31) (fe_X12_nameAt 30) (g_laldN hS (show lay 193 = (21, 7) by decide) rfl (by omega) (by decide)) ?_
          refine t_go (op := o_goto 40) (fe_X12_nameAt 31) (fun _ _ => rfl) ?_
          refine t_go (op := o_aload 41 0) (fe_X12_nameAt 40) (fun _ _ => rfl) ?_
          refine t_go (op := o_getR 44 11 6) (fe_X12_nameAt 41) (g_getR hS (show (lay 183).1 = 11 by decide) (by decide) (fr_11_6 hS) (by decide)) ?_
          refine t_go (op := o_aload 45 0) (fe_X12_nameAt 44) (fun _ _ => rfl) ?_
          refine t_go (op := o_getI 48 11 7) (fe_X12_nameAt 45) (g_getI hS (show (lay 183).1 = 11 by decide) (by decide)) ?_
          rw [show (AT h i 0).1 183 7 = nI i from AT_7]
          refine t_go (op := o_lald 49) (fe_X12_nameAt 48) (g_laldN hS (show lay 187 = (21, 1002) by decide) rfl (by omega) (by decide)) ?_
          refine t_go (op := o_lcmp 50) (fe_X12_nameAt 49) (fun _ _ => rfl) ?_
          refine t_ite (op := o_if 55 53 (fun x => x = 0) (fun _ => inferInstance)) (fe_X12_nameAt 50) g_if (fun c4 => ?_) (fun c4 => ?_)
          · refine t_go (op := o_iload 54 2) (fe_X12_nameAt 53) (fun _ _ => rfl) ?_
            refine t_ret (op := o_iret) (fe_X12_nameAt 54) (fun _ _ => rfl) ?_
            exact hq _ (Or.inl ⟨a, hi7, cmp_0.mp c4, hpr, rfl⟩)
          · refine t_go (op := o_iinc 58 2 1) (fe_X12_nameAt 55) (fun _ _ => rfl) ?_
            refine t_go (op := o_goto 2) (fe_X12_nameAt 58) (fun _ _ => rfl) ?_
            rw [nI_1]
            exact ih (a + 1) () (by omega) (fun j hj => by
                rcases Nat.lt_or_ge j a with q | q
                · exact hpr j q
                · rw [show j = a by omega]; exact fun q2 => c4 (cmp_0.mpr q2)) hq
theorem r_nameAtT {d : Nat} {h : AHP} {TK : Nat → Tk} {n i m : Nat} (hR : RQ h TK n) (hi : i ≤ n) (hm : h.1 183 17 = nI m) (hm7 : m ≤ 7) : MM d 180 [.ref 183, .int 1] (AT h i 0) (fun v h2 => (∃ a, v = some (.int a) ∧ FIp (fun k => h.2.1 193 k = h.2.1 187 i) m a) ∧ h2 = AT h i 0) := by
  refine ⟨Nat.le_of_ble_eq_true rfl, ?_⟩
  refine t_go (op := o_ci 1 0) (fe_X12_nameAt 0) (fun _ _ => rfl) ?_
  refine t_go (op := o_istore 2 2) (fe_X12_nameAt 1) (fun _ _ => rfl) ?_
  exact lr_nameAtT hR hi hm hm7 m 0 () (by omega) (fun j hj => absurd hj (Nat.not_lt_zero _)) (fun v q => ⟨⟨v, rfl, q⟩, rfl⟩)
theorem lr_nameAtF {d : Nat} {h : AHP} {TK : Nat → Tk} {n i m : Nat} (hR : RQ h TK n) (hi : i ≤ n) (hm : h.1 183 16 = nI m) (hm7 : m ≤ 7) {Q : Option Value → AHP → Prop} : ∀ (j a : Nat) (_ : Unit), a + j = m → (∀ j, j < a → ¬ h.2.1 192 j = h.2.1 187 i) → (∀ v, FIp (fun k => h.2.1 192 k = h.2.1 187 i) m v → Q (some (.int v)) (AT h i 0)) → TT d 180 2 [some (.ref 183), some (.int 0), some (.int (nI a))] [] (AT h i 0) Q := by
  intro j
  induction j with
  | zero =>
    intro a _ hja hpr hq
    have hN : a = m := by omega
    have hS := hR.1
    have hn := hR.2.2.1
    refine t_go (op := o_iload 3 2) (fe_X12_nameAt 2) (fun _ _ => rfl) ?_
    refine t_go (op := o_iload 4 1) (fe_X12_nameAt 3) (fun _ _ => rfl) ?_
    refine t_ite (op := o_if 7 14 (fun x => x = 0) (fun _ => inferInstance)) (fe_X12_nameAt 4) g_if (fun c1 => ?_) (fun c1 => ?_)
    · clear c1
      refine t_go (op := o_aload 15 0) (fe_X12_nameAt 14) (fun _ _ => rfl) ?_
      refine t_go (op := o_getI 18 11 16) (fe_X12_nameAt 15) (g_getI hS (show (lay 183).1 = 11 by decide) (by decide)) ?_
      rw [show (AT h i 0).1 183 16 = nI m from (AT_o (by decide) (by decide)).trans hm]
      refine t_ite (op := o_icmp 21 61 (fun x y => y ≤ x) (fun _ _ => inferInstance)) (fe_X12_nameAt 18) g_icmp (fun c2 => ?_) (fun c2 => ?_)
      · refine t_go (op := o_ci 62 (-1)) (fe_X12_nameAt 61) (fun _ _ => rfl) ?_
        refine t_ret (op := o_iret) (fe_X12_nameAt 62) (fun _ _ => rfl) ?_
        exact hq _ (Or.inr ⟨fun k hk => hpr k (by omega), rfl⟩)
      · exact absurd (by rw [hN]; exact Int32.le_refl _) c2
    · exact absurd (by decide) c1
  | succ j ih =>
    intro a _ hja hpr hq
    have hi7 : a < m := by omega
    have hS := hR.1
    have hn := hR.2.2.1
    refine t_go (op := o_iload 3 2) (fe_X12_nameAt 2) (fun _ _ => rfl) ?_
    refine t_go (op := o_iload 4 1) (fe_X12_nameAt 3) (fun _ _ => rfl) ?_
    refine t_ite (op := o_if 7 14 (fun x => x = 0) (fun _ => inferInstance)) (fe_X12_nameAt 4) g_if (fun c1 => ?_) (fun c1 => ?_)
    · clear c1
      refine t_go (op := o_aload 15 0) (fe_X12_nameAt 14) (fun _ _ => rfl) ?_
      refine t_go (op := o_getI 18 11 16) (fe_X12_nameAt 15) (g_getI hS (show (lay 183).1 = 11 by decide) (by decide)) ?_
      rw [show (AT h i 0).1 183 16 = nI m from (AT_o (by decide) (by decide)).trans hm]
      refine t_ite (op := o_icmp 21 61 (fun x y => y ≤ x) (fun _ _ => inferInstance)) (fe_X12_nameAt 18) g_icmp (fun c2 => ?_) (fun c2 => ?_)
      · exact absurd c2 (nI_ge hi7 (by omega))
      · refine t_go (op := o_iload 22 1) (fe_X12_nameAt 21) (fun _ _ => rfl) ?_
        refine t_ite (op := o_if 25 34 (fun x => x = 0) (fun _ => inferInstance)) (fe_X12_nameAt 22) g_if (fun c3 => ?_) (fun c3 => ?_)
        · clear c3
          refine t_go (op := o_aload 35 0) (fe_X12_nameAt 34) (fun _ _ => rfl) ?_
          refine t_go (op := o_getR 38 11 14) (fe_X12_nameAt 35) (g_getR hS (show (lay 183).1 = 11 by decide) (by decide) (fr_11_14 hS) (by decide)) ?_
          refine t_go (op := o_iload 39 2) (fe_X12_nameAt 38) (fun _ _ => rfl) ?_
          refine t_go (op := o_lald 40) (fe_X12_nameAt 39) (g_laldN hS (show lay 192 = (21, 7) by decide) rfl (by omega) (by decide)) ?_
          refine t_go (op := o_aload 41 0) (fe_X12_nameAt 40) (fun _ _ => rfl) ?_
          refine t_go (op := o_getR 44 11 6) (fe_X12_nameAt 41) (g_getR hS (show (lay 183).1 = 11 by decide) (by decide) (fr_11_6 hS) (by decide)) ?_
          refine t_go (op := o_aload 45 0) (fe_X12_nameAt 44) (fun _ _ => rfl) ?_
          refine t_go (op := o_getI 48 11 7) (fe_X12_nameAt 45) (g_getI hS (show (lay 183).1 = 11 by decide) (by decide)) ?_
          rw [show (AT h i 0).1 183 7 = nI i from AT_7]
          refine t_go (op := o_lald 49) (fe_X12_nameAt 48) (g_laldN hS (show lay 187 = (21, 1002) by decide) rfl (by omega) (by decide)) ?_
          refine t_go (op := o_lcmp 50) (fe_X12_nameAt 49) (fun _ _ => rfl) ?_
          refine t_ite (op := o_if 55 53 (fun x => x = 0) (fun _ => inferInstance)) (fe_X12_nameAt 50) g_if (fun c4 => ?_) (fun c4 => ?_)
          · refine t_go (op := o_iload 54 2) (fe_X12_nameAt 53) (fun _ _ => rfl) ?_
            refine t_ret (op := o_iret) (fe_X12_nameAt 54) (fun _ _ => rfl) ?_
            exact hq _ (Or.inl ⟨a, hi7, cmp_0.mp c4, hpr, rfl⟩)
          · refine t_go (op := o_iinc 58 2 1) (fe_X12_nameAt 55) (fun _ _ => rfl) ?_
            refine t_go (op := o_goto 2) (fe_X12_nameAt 58) (fun _ _ => rfl) ?_
            rw [nI_1]
            exact ih (a + 1) () (by omega) (fun j hj => by
                rcases Nat.lt_or_ge j a with q | q
                · exact hpr j q
                · rw [show j = a by omega]; exact fun q2 => c4 (cmp_0.mpr q2)) hq
        · exact absurd (by decide) c3
    · exact absurd (by decide) c1
theorem r_nameAtF {d : Nat} {h : AHP} {TK : Nat → Tk} {n i m : Nat} (hR : RQ h TK n) (hi : i ≤ n) (hm : h.1 183 16 = nI m) (hm7 : m ≤ 7) : MM d 180 [.ref 183, .int 0] (AT h i 0) (fun v h2 => (∃ a, v = some (.int a) ∧ FIp (fun k => h.2.1 192 k = h.2.1 187 i) m a) ∧ h2 = AT h i 0) := by
  refine ⟨Nat.le_of_ble_eq_true rfl, ?_⟩
  refine t_go (op := o_ci 1 0) (fe_X12_nameAt 0) (fun _ _ => rfl) ?_
  refine t_go (op := o_istore 2 2) (fe_X12_nameAt 1) (fun _ _ => rfl) ?_
  exact lr_nameAtF hR hi hm hm7 m 0 () (by omega) (fun j hj => absurd hj (Nat.not_lt_zero _)) (fun v q => ⟨⟨v, rfl, q⟩, rfl⟩)
