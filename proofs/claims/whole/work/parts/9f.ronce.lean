/-! ===== the reference reads what is told once ===== -/
theorem whV_no {TK : Nat → Tk} {b p f c : Nat} (h : ¬ whP TK b p f c) : whV TK b p f c = -1 := if_neg h
theorem whV_at {TK : Nat → Tk} {b p c q : Nat} (h : isWd TK (b + q) p 0) (hq : q < c) : whV TK b p 0 c = nI q := by
  unfold whV
  rw [if_pos ⟨h.1, h.2.1, by rw [h.2.2]; omega, by rw [h.2.2]; omega⟩, h.2.2, Nat.add_sub_cancel_left]
theorem RS_0 {h : AHP} {i : Nat} (h7 : h.1 183 7 = nI i) (h8 : h.1 183 8 = nI 0) (h13 : h.1 183 13 = nI 0) : RS h h (i, 0, []) := ⟨⟨rfl, fun _ _ _ _ => rfl, fun _ _ _ _ => rfl, fun _ _ => ⟨rfl, rfl⟩⟩, h7, h8, h13, fun j hj => absurd hj (Nat.not_lt_zero _)⟩
theorem r_o1 {d : Nat} {h : AHP} {TK : Nat → Tk} {n i : Nat} (hR : RQ h TK n) (hi : i ≤ n) (hw : ¬ whP TK 4 i 0 3) : MM (d + 36) 185 [.ref 183] (AT h i 0) (fun v h2 => v = none ∧ h2 = AT h i (wrF TK 1 i 0)) := by
  refine ⟨Nat.le_of_ble_eq_true rfl, ?_⟩
  have hS := hR.1
  have hB := hR.2.2.2.1
  have hn := hR.2.2.1
  refine t_go (op := o_aload 1 0) (fe_X12_readOnce 0) (fun _ _ => rfl) ?_
  refine t_go (op := o_ci 2 4) (fe_X12_readOnce 1) (fun _ _ => rfl) ?_
  refine t_go (op := o_ci 3 3) (fe_X12_readOnce 2) (fun _ _ => rfl) ?_
  refine t_call (op := o_callV 6 177 3 11) (fe_X12_readOnce 3) (g_callV hS (show (lay 183).1 = 11 by decide) (by decide) rfl rfl rfl (Nat.le_of_ble_eq_true rfl)) ?_
  refine M_eq (r_wordHere (b := 4) (cnt := 3) (f := 0) hR hi (by decide) (by decide)) ?_
  rw [whV_no hw]
  refine t_go (op := o_istore 7 1) (fe_X12_readOnce 6) (fun _ _ => rfl) ?_
  refine t_go (op := o_iload 8 1) (fe_X12_readOnce 7) (fun _ _ => rfl) ?_
  refine t_ite (op := o_if 11 19 (fun x => 0 ≤ x) (fun _ => inferInstance)) (fe_X12_readOnce 8) g_if (fun c1 => ?_) (fun c1 => ?_)
  · exact absurd c1 (by decide)
  · clear c1
    refine t_go (op := o_aload 12 0) (fe_X12_readOnce 11) (fun _ _ => rfl) ?_
    refine t_go (op := o_ci 13 1) (fe_X12_readOnce 12) (fun _ _ => rfl) ?_
    refine t_call (op := o_callV 16 166 2 11) (fe_X12_readOnce 13) (g_callV hS (show (lay 183).1 = 11 by decide) (by decide) rfl rfl rfl (Nat.le_of_ble_eq_true rfl)) ?_
    refine M_eq (r_wrong (c := 1) (f := 0) hR hi (by decide)) ?_
    refine t_go (op := o_goto 36) (fe_X12_readOnce 16) (fun _ _ => rfl) ?_
    refine t_go (op := o_aload 37 0) (fe_X12_readOnce 36) (fun _ _ => rfl) ?_
    refine t_go (op := o_getI 40 11 8) (fe_X12_readOnce 37) (g_getI hS (show (lay 183).1 = 11 by decide) (by decide)) ?_
    rw [show (AT h i (wrF TK 1 i 0)).1 183 8 = nI (wrF TK 1 i 0) from AT_8]
    refine t_ite (op := o_if 43 44 (fun x => x ≤ 0) (fun _ => inferInstance)) (fe_X12_readOnce 40) g_if (fun c2 => ?_) (fun c2 => ?_)
    · exact absurd ((le_0 (wr0_b hB (by decide))).mp c2) (wrF_p (by decide))
    · refine t_ret (op := o_vret) (fe_X12_readOnce 43) (fun _ _ => rfl) ?_
      exact ⟨rfl, rfl⟩
theorem r_oT0 {d : Nat} {h : AHP} {TK : Nat → Tk} {n i : Nat} (hR : RQ h TK n) (hi : i ≤ n) {oo : Nat} (ho : h.1 183 18 = nI oo) (hw : isWd TK 4 i 0) (hb : (nI oo >>> ((0 : Int32) &&& 31)) &&& 1 = 1) : MM (d + 36) 185 [.ref 183] (AT h i 0) (fun v h2 => v = none ∧ h2 = AT h i (wrF TK 3 i 0)) := by
  refine ⟨Nat.le_of_ble_eq_true rfl, ?_⟩
  have hS := hR.1
  have hB := hR.2.2.2.1
  have hn := hR.2.2.1
  refine t_go (op := o_aload 1 0) (fe_X12_readOnce 0) (fun _ _ => rfl) ?_
  refine t_go (op := o_ci 2 4) (fe_X12_readOnce 1) (fun _ _ => rfl) ?_
  refine t_go (op := o_ci 3 3) (fe_X12_readOnce 2) (fun _ _ => rfl) ?_
  refine t_call (op := o_callV 6 177 3 11) (fe_X12_readOnce 3) (g_callV hS (show (lay 183).1 = 11 by decide) (by decide) rfl rfl rfl (Nat.le_of_ble_eq_true rfl)) ?_
  refine M_eq (r_wordHere (b := 4) (cnt := 3) (f := 0) hR hi (by decide) (by decide)) ?_
  rw [show whV TK 4 i 0 3 = 0 from whV_at (q := 0) hw (by decide)]
  refine t_go (op := o_istore 7 1) (fe_X12_readOnce 6) (fun _ _ => rfl) ?_
  refine t_go (op := o_iload 8 1) (fe_X12_readOnce 7) (fun _ _ => rfl) ?_
  refine t_ite (op := o_if 11 19 (fun x => 0 ≤ x) (fun _ => inferInstance)) (fe_X12_readOnce 8) g_if (fun c1 => ?_) (fun c1 => ?_)
  · clear c1
    refine t_go (op := o_aload 20 0) (fe_X12_readOnce 19) (fun _ _ => rfl) ?_
    refine t_go (op := o_getI 23 11 18) (fe_X12_readOnce 20) (g_getI hS (show (lay 183).1 = 11 by decide) (by decide)) ?_
    rw [show (AT h i 0).1 183 18 = nI oo from (AT_o (by decide) (by decide)).trans ho]
    refine t_go (op := o_iload 24 1) (fe_X12_readOnce 23) (fun _ _ => rfl) ?_
    refine t_go (op := o_i2 25 (fun x y => x >>> (y &&& 31))) (fe_X12_readOnce 24) (fun _ _ => rfl) ?_
    refine t_go (op := o_ci 26 1) (fe_X12_readOnce 25) (fun _ _ => rfl) ?_
    refine t_go (op := o_i2 27 (fun x y => x &&& y)) (fe_X12_readOnce 26) (fun _ _ => rfl) ?_
    refine t_go (op := o_ci 28 1) (fe_X12_readOnce 27) (fun _ _ => rfl) ?_
    refine t_ite (op := o_icmp 36 31 (fun x y => x = y) (fun _ _ => inferInstance)) (fe_X12_readOnce 28) g_icmp (fun c2 => ?_) (fun c2 => ?_)
    · refine t_go (op := o_aload 32 0) (fe_X12_readOnce 31) (fun _ _ => rfl) ?_
      refine t_go (op := o_ci 33 3) (fe_X12_readOnce 32) (fun _ _ => rfl) ?_
      refine t_call (op := o_callV 36 166 2 11) (fe_X12_readOnce 33) (g_callV hS (show (lay 183).1 = 11 by decide) (by decide) rfl rfl rfl (Nat.le_of_ble_eq_true rfl)) ?_
      refine M_eq (r_wrong (c := 3) (f := 0) hR hi (by decide)) ?_
      refine t_go (op := o_aload 37 0) (fe_X12_readOnce 36) (fun _ _ => rfl) ?_
      refine t_go (op := o_getI 40 11 8) (fe_X12_readOnce 37) (g_getI hS (show (lay 183).1 = 11 by decide) (by decide)) ?_
      rw [show (AT h i (wrF TK 3 i 0)).1 183 8 = nI (wrF TK 3 i 0) from AT_8]
      refine t_ite (op := o_if 43 44 (fun x => x ≤ 0) (fun _ => inferInstance)) (fe_X12_readOnce 40) g_if (fun c3 => ?_) (fun c3 => ?_)
      · exact absurd ((le_0 (wr0_b hB (by decide))).mp c3) (wrF_p (by decide))
      · refine t_ret (op := o_vret) (fe_X12_readOnce 43) (fun _ _ => rfl) ?_
        exact ⟨rfl, rfl⟩
    · exact absurd hb c2
  · exact absurd (by decide) c1
theorem r_oD {d : Nat} {h : AHP} {TK : Nat → Tk} {n i : Nat} (hR : RQ h TK n) (hi : i ≤ n) {oo o2 : Nat} (ho : h.1 183 18 = nI oo) (hw : isWd TK 4 i 0) (hb : ¬ (nI oo >>> ((0 : Int32) &&& 31)) &&& 1 = 1) (ho2 : nI oo ||| ((1 : Int32) <<< ((0 : Int32) &&& 31)) = nI o2) (hi1 : i + 1 ≤ n) (hE : (TK n).1 = 0) : MM (d + 36) 185 [.ref 183] (AT h i 0) (fun v h2 => v = none ∧ h2 = AT (rowI (sI h 183 18 (nI o2)) 189 (fup (drW (h.1 189) 82 (dS TK 13 (i + 1) 0).2.2) 51 (nI (dS TK 13 (i + 1) 0).2.2.length))) (dS TK 13 (i + 1) 0).2.1 (dS TK 13 (i + 1) 0).1 ∧ (dS TK 13 (i + 1) 0).2.1 ≤ n ∧ (dS TK 13 (i + 1) 0).1 < 100000) := by
  refine ⟨Nat.le_of_ble_eq_true rfl, ?_⟩
  have hS := hR.1
  have hB := hR.2.2.2.1
  have hn := hR.2.2.1
  refine t_go (op := o_aload 1 0) (fe_X12_readOnce 0) (fun _ _ => rfl) ?_
  refine t_go (op := o_ci 2 4) (fe_X12_readOnce 1) (fun _ _ => rfl) ?_
  refine t_go (op := o_ci 3 3) (fe_X12_readOnce 2) (fun _ _ => rfl) ?_
  refine t_call (op := o_callV 6 177 3 11) (fe_X12_readOnce 3) (g_callV hS (show (lay 183).1 = 11 by decide) (by decide) rfl rfl rfl (Nat.le_of_ble_eq_true rfl)) ?_
  refine M_eq (r_wordHere (b := 4) (cnt := 3) (f := 0) hR hi (by decide) (by decide)) ?_
  rw [show whV TK 4 i 0 3 = 0 from whV_at (q := 0) hw (by decide)]
  refine t_go (op := o_istore 7 1) (fe_X12_readOnce 6) (fun _ _ => rfl) ?_
  refine t_go (op := o_iload 8 1) (fe_X12_readOnce 7) (fun _ _ => rfl) ?_
  refine t_ite (op := o_if 11 19 (fun x => 0 ≤ x) (fun _ => inferInstance)) (fe_X12_readOnce 8) g_if (fun c1 => ?_) (fun c1 => ?_)
  · clear c1
    refine t_go (op := o_aload 20 0) (fe_X12_readOnce 19) (fun _ _ => rfl) ?_
    refine t_go (op := o_getI 23 11 18) (fe_X12_readOnce 20) (g_getI hS (show (lay 183).1 = 11 by decide) (by decide)) ?_
    rw [show (AT h i 0).1 183 18 = nI oo from (AT_o (by decide) (by decide)).trans ho]
    refine t_go (op := o_iload 24 1) (fe_X12_readOnce 23) (fun _ _ => rfl) ?_
    refine t_go (op := o_i2 25 (fun x y => x >>> (y &&& 31))) (fe_X12_readOnce 24) (fun _ _ => rfl) ?_
    refine t_go (op := o_ci 26 1) (fe_X12_readOnce 25) (fun _ _ => rfl) ?_
    refine t_go (op := o_i2 27 (fun x y => x &&& y)) (fe_X12_readOnce 26) (fun _ _ => rfl) ?_
    refine t_go (op := o_ci 28 1) (fe_X12_readOnce 27) (fun _ _ => rfl) ?_
    refine t_ite (op := o_icmp 36 31 (fun x y => x = y) (fun _ _ => inferInstance)) (fe_X12_readOnce 28) g_icmp (fun c2 => ?_) (fun c2 => ?_)
    · exact absurd c2 hb
    · refine t_go (op := o_aload 37 0) (fe_X12_readOnce 36) (fun _ _ => rfl) ?_
      refine t_go (op := o_getI 40 11 8) (fe_X12_readOnce 37) (g_getI hS (show (lay 183).1 = 11 by decide) (by decide)) ?_
      rw [show (AT h i 0).1 183 8 = nI 0 from AT_8]
      refine t_ite (op := o_if 43 44 (fun x => x ≤ 0) (fun _ => inferInstance)) (fe_X12_readOnce 40) g_if (fun c3 => ?_) (fun c3 => ?_)
      · refine t_go (op := o_aload 45 0) (fe_X12_readOnce 44) (fun _ _ => rfl) ?_
        refine t_go (op := o_dupA 46) (fe_X12_readOnce 45) (fun _ _ => rfl) ?_
        refine t_go (op := o_getI 49 11 18) (fe_X12_readOnce 46) (g_getI hS (show (lay 183).1 = 11 by decide) (by decide)) ?_
        rw [show (AT h i 0).1 183 18 = nI oo from (AT_o (by decide) (by decide)).trans ho]
        refine t_go (op := o_ci 50 1) (fe_X12_readOnce 49) (fun _ _ => rfl) ?_
        refine t_go (op := o_iload 51 1) (fe_X12_readOnce 50) (fun _ _ => rfl) ?_
        refine t_go (op := o_i2 52 (fun x y => x <<< (y &&& 31))) (fe_X12_readOnce 51) (fun _ _ => rfl) ?_
        refine t_go (op := o_i2 53 (fun x y => x ||| y)) (fe_X12_readOnce 52) (fun _ _ => rfl) ?_
        refine t_go (op := o_putI 56 11 18) (fe_X12_readOnce 53) (g_putI hS (show (lay 183).1 = 11 by decide) (by decide)) ?_
        refine T_heap (show AT (sI h 183 18 (nI o2)) i 0 = sI (AT h i 0) 183 18 _ from by rw [← sI_AT3 (by decide) (by decide), ← ho2]) ?_
        replace hR := RQ_s3 (k := 18) (x := nI o2) hR
        replace hS := hR.1
        refine t_go (op := o_aload 57 0) (fe_X12_readOnce 56) (fun _ _ => rfl) ?_
        refine t_go (op := o_dupA 58) (fe_X12_readOnce 57) (fun _ _ => rfl) ?_
        refine t_go (op := o_getI 61 11 7) (fe_X12_readOnce 58) (g_getI hS (show (lay 183).1 = 11 by decide) (by decide)) ?_
        rw [show (AT (sI h 183 18 (nI o2)) i 0).1 183 7 = nI i from AT_7]
        refine t_go (op := o_ci 62 1) (fe_X12_readOnce 61) (fun _ _ => rfl) ?_
        refine t_go (op := o_i2 63 (fun x y => x + y)) (fe_X12_readOnce 62) (fun _ _ => rfl) ?_
        refine t_go (op := o_putI 66 11 7) (fe_X12_readOnce 63) (g_putI hS (show (lay 183).1 = 11 by decide) (by decide)) ?_
        refine T_heap ((congrArg (sI (AT (sI h 183 18 (nI o2)) i 0) 183 7) (show (fun x y : Int32 => x + y) (nI i) 1 = nI (i + 1) from nI_1 i)).trans AT_7s).symm ?_
        refine t_go (op := o_iload 67 1) (fe_X12_readOnce 66) (fun _ _ => rfl) ?_
        refine t_ite (op := o_if 77 70 (fun x => x = 0) (fun _ => inferInstance)) (fe_X12_readOnce 67) g_if (fun c4 => ?_) (fun c4 => ?_)
        · clear c4
          refine t_go (op := o_aload 71 0) (fe_X12_readOnce 70) (fun _ _ => rfl) ?_
          refine t_call (op := o_callV 74 186 1 11) (fe_X12_readOnce 71) (g_callV hS (show (lay 183).1 = 11 by decide) (by decide) rfl rfl rfl (Nat.le_of_ble_eq_true rfl)) ?_
          refine M_mono ?_ (r_readDraught hR hE hi1)
          rintro _ _ ⟨rfl, rfl, hd1, hd2⟩
          refine t_go (op := o_goto 121) (fe_X12_readOnce 74) (fun _ _ => rfl) ?_
          refine t_ret (op := o_vret) (fe_X12_readOnce 121) (fun _ _ => rfl) ?_
          exact ⟨rfl, by rw [sI_ne (a := 183) (b := 189) (by decide)], hd1, hd2⟩
        · exact absurd (by decide) c4
      · exact absurd (Int32.le_refl _) c3
  · exact absurd (by decide) c1
theorem r_oT1 {d : Nat} {h : AHP} {TK : Nat → Tk} {n i : Nat} (hR : RQ h TK n) (hi : i ≤ n) {oo : Nat} (ho : h.1 183 18 = nI oo) (hw : isWd TK 5 i 0) (hb : (nI oo >>> ((1 : Int32) &&& 31)) &&& 1 = 1) : MM (d + 36) 185 [.ref 183] (AT h i 0) (fun v h2 => v = none ∧ h2 = AT h i (wrF TK 3 i 0)) := by
  refine ⟨Nat.le_of_ble_eq_true rfl, ?_⟩
  have hS := hR.1
  have hB := hR.2.2.2.1
  have hn := hR.2.2.1
  refine t_go (op := o_aload 1 0) (fe_X12_readOnce 0) (fun _ _ => rfl) ?_
  refine t_go (op := o_ci 2 4) (fe_X12_readOnce 1) (fun _ _ => rfl) ?_
  refine t_go (op := o_ci 3 3) (fe_X12_readOnce 2) (fun _ _ => rfl) ?_
  refine t_call (op := o_callV 6 177 3 11) (fe_X12_readOnce 3) (g_callV hS (show (lay 183).1 = 11 by decide) (by decide) rfl rfl rfl (Nat.le_of_ble_eq_true rfl)) ?_
  refine M_eq (r_wordHere (b := 4) (cnt := 3) (f := 0) hR hi (by decide) (by decide)) ?_
  rw [show whV TK 4 i 0 3 = 1 from whV_at (q := 1) hw (by decide)]
  refine t_go (op := o_istore 7 1) (fe_X12_readOnce 6) (fun _ _ => rfl) ?_
  refine t_go (op := o_iload 8 1) (fe_X12_readOnce 7) (fun _ _ => rfl) ?_
  refine t_ite (op := o_if 11 19 (fun x => 0 ≤ x) (fun _ => inferInstance)) (fe_X12_readOnce 8) g_if (fun c1 => ?_) (fun c1 => ?_)
  · clear c1
    refine t_go (op := o_aload 20 0) (fe_X12_readOnce 19) (fun _ _ => rfl) ?_
    refine t_go (op := o_getI 23 11 18) (fe_X12_readOnce 20) (g_getI hS (show (lay 183).1 = 11 by decide) (by decide)) ?_
    rw [show (AT h i 0).1 183 18 = nI oo from (AT_o (by decide) (by decide)).trans ho]
    refine t_go (op := o_iload 24 1) (fe_X12_readOnce 23) (fun _ _ => rfl) ?_
    refine t_go (op := o_i2 25 (fun x y => x >>> (y &&& 31))) (fe_X12_readOnce 24) (fun _ _ => rfl) ?_
    refine t_go (op := o_ci 26 1) (fe_X12_readOnce 25) (fun _ _ => rfl) ?_
    refine t_go (op := o_i2 27 (fun x y => x &&& y)) (fe_X12_readOnce 26) (fun _ _ => rfl) ?_
    refine t_go (op := o_ci 28 1) (fe_X12_readOnce 27) (fun _ _ => rfl) ?_
    refine t_ite (op := o_icmp 36 31 (fun x y => x = y) (fun _ _ => inferInstance)) (fe_X12_readOnce 28) g_icmp (fun c2 => ?_) (fun c2 => ?_)
    · refine t_go (op := o_aload 32 0) (fe_X12_readOnce 31) (fun _ _ => rfl) ?_
      refine t_go (op := o_ci 33 3) (fe_X12_readOnce 32) (fun _ _ => rfl) ?_
      refine t_call (op := o_callV 36 166 2 11) (fe_X12_readOnce 33) (g_callV hS (show (lay 183).1 = 11 by decide) (by decide) rfl rfl rfl (Nat.le_of_ble_eq_true rfl)) ?_
      refine M_eq (r_wrong (c := 3) (f := 0) hR hi (by decide)) ?_
      refine t_go (op := o_aload 37 0) (fe_X12_readOnce 36) (fun _ _ => rfl) ?_
      refine t_go (op := o_getI 40 11 8) (fe_X12_readOnce 37) (g_getI hS (show (lay 183).1 = 11 by decide) (by decide)) ?_
      rw [show (AT h i (wrF TK 3 i 0)).1 183 8 = nI (wrF TK 3 i 0) from AT_8]
      refine t_ite (op := o_if 43 44 (fun x => x ≤ 0) (fun _ => inferInstance)) (fe_X12_readOnce 40) g_if (fun c3 => ?_) (fun c3 => ?_)
      · exact absurd ((le_0 (wr0_b hB (by decide))).mp c3) (wrF_p (by decide))
      · refine t_ret (op := o_vret) (fe_X12_readOnce 43) (fun _ _ => rfl) ?_
        exact ⟨rfl, rfl⟩
    · exact absurd hb c2
  · exact absurd (by decide) c1
theorem r_oCY {d : Nat} {h : AHP} {TK : Nat → Tk} {n i : Nat} (hR : RQ h TK n) (hi : i ≤ n) {oo o2 : Nat} (ho : h.1 183 18 = nI oo) (hw : isWd TK 5 i 0) (hb : ¬ (nI oo >>> ((1 : Int32) &&& 31)) &&& 1 = 1) (ho2 : nI oo ||| ((1 : Int32) <<< ((1 : Int32) &&& 31)) = nI o2) (hi1 : i + 1 ≤ n) (hN : nuP TK 1 20 (i + 1) 0) : MM (d + 36) 185 [.ref 183] (AT h i 0) (fun v h2 => v = none ∧ h2 = AT (sI (sI h 183 18 (nI o2)) 189 52 (nI (TK (i + 1)).2.2.1)) (i + 2) 0) := by
  refine ⟨Nat.le_of_ble_eq_true rfl, ?_⟩
  have hS := hR.1
  have hB := hR.2.2.2.1
  have hn := hR.2.2.1
  refine t_go (op := o_aload 1 0) (fe_X12_readOnce 0) (fun _ _ => rfl) ?_
  refine t_go (op := o_ci 2 4) (fe_X12_readOnce 1) (fun _ _ => rfl) ?_
  refine t_go (op := o_ci 3 3) (fe_X12_readOnce 2) (fun _ _ => rfl) ?_
  refine t_call (op := o_callV 6 177 3 11) (fe_X12_readOnce 3) (g_callV hS (show (lay 183).1 = 11 by decide) (by decide) rfl rfl rfl (Nat.le_of_ble_eq_true rfl)) ?_
  refine M_eq (r_wordHere (b := 4) (cnt := 3) (f := 0) hR hi (by decide) (by decide)) ?_
  rw [show whV TK 4 i 0 3 = 1 from whV_at (q := 1) hw (by decide)]
  refine t_go (op := o_istore 7 1) (fe_X12_readOnce 6) (fun _ _ => rfl) ?_
  refine t_go (op := o_iload 8 1) (fe_X12_readOnce 7) (fun _ _ => rfl) ?_
  refine t_ite (op := o_if 11 19 (fun x => 0 ≤ x) (fun _ => inferInstance)) (fe_X12_readOnce 8) g_if (fun c1 => ?_) (fun c1 => ?_)
  · clear c1
    refine t_go (op := o_aload 20 0) (fe_X12_readOnce 19) (fun _ _ => rfl) ?_
    refine t_go (op := o_getI 23 11 18) (fe_X12_readOnce 20) (g_getI hS (show (lay 183).1 = 11 by decide) (by decide)) ?_
    rw [show (AT h i 0).1 183 18 = nI oo from (AT_o (by decide) (by decide)).trans ho]
    refine t_go (op := o_iload 24 1) (fe_X12_readOnce 23) (fun _ _ => rfl) ?_
    refine t_go (op := o_i2 25 (fun x y => x >>> (y &&& 31))) (fe_X12_readOnce 24) (fun _ _ => rfl) ?_
    refine t_go (op := o_ci 26 1) (fe_X12_readOnce 25) (fun _ _ => rfl) ?_
    refine t_go (op := o_i2 27 (fun x y => x &&& y)) (fe_X12_readOnce 26) (fun _ _ => rfl) ?_
    refine t_go (op := o_ci 28 1) (fe_X12_readOnce 27) (fun _ _ => rfl) ?_
    refine t_ite (op := o_icmp 36 31 (fun x y => x = y) (fun _ _ => inferInstance)) (fe_X12_readOnce 28) g_icmp (fun c2 => ?_) (fun c2 => ?_)
    · exact absurd c2 hb
    · refine t_go (op := o_aload 37 0) (fe_X12_readOnce 36) (fun _ _ => rfl) ?_
      refine t_go (op := o_getI 40 11 8) (fe_X12_readOnce 37) (g_getI hS (show (lay 183).1 = 11 by decide) (by decide)) ?_
      rw [show (AT h i 0).1 183 8 = nI 0 from AT_8]
      refine t_ite (op := o_if 43 44 (fun x => x ≤ 0) (fun _ => inferInstance)) (fe_X12_readOnce 40) g_if (fun c3 => ?_) (fun c3 => ?_)
      · refine t_go (op := o_aload 45 0) (fe_X12_readOnce 44) (fun _ _ => rfl) ?_
        refine t_go (op := o_dupA 46) (fe_X12_readOnce 45) (fun _ _ => rfl) ?_
        refine t_go (op := o_getI 49 11 18) (fe_X12_readOnce 46) (g_getI hS (show (lay 183).1 = 11 by decide) (by decide)) ?_
        rw [show (AT h i 0).1 183 18 = nI oo from (AT_o (by decide) (by decide)).trans ho]
        refine t_go (op := o_ci 50 1) (fe_X12_readOnce 49) (fun _ _ => rfl) ?_
        refine t_go (op := o_iload 51 1) (fe_X12_readOnce 50) (fun _ _ => rfl) ?_
        refine t_go (op := o_i2 52 (fun x y => x <<< (y &&& 31))) (fe_X12_readOnce 51) (fun _ _ => rfl) ?_
        refine t_go (op := o_i2 53 (fun x y => x ||| y)) (fe_X12_readOnce 52) (fun _ _ => rfl) ?_
        refine t_go (op := o_putI 56 11 18) (fe_X12_readOnce 53) (g_putI hS (show (lay 183).1 = 11 by decide) (by decide)) ?_
        refine T_heap (show AT (sI h 183 18 (nI o2)) i 0 = sI (AT h i 0) 183 18 _ from by rw [← sI_AT3 (by decide) (by decide), ← ho2]) ?_
        replace hR := RQ_s3 (k := 18) (x := nI o2) hR
        replace hS := hR.1
        refine t_go (op := o_aload 57 0) (fe_X12_readOnce 56) (fun _ _ => rfl) ?_
        refine t_go (op := o_dupA 58) (fe_X12_readOnce 57) (fun _ _ => rfl) ?_
        refine t_go (op := o_getI 61 11 7) (fe_X12_readOnce 58) (g_getI hS (show (lay 183).1 = 11 by decide) (by decide)) ?_
        rw [show (AT (sI h 183 18 (nI o2)) i 0).1 183 7 = nI i from AT_7]
        refine t_go (op := o_ci 62 1) (fe_X12_readOnce 61) (fun _ _ => rfl) ?_
        refine t_go (op := o_i2 63 (fun x y => x + y)) (fe_X12_readOnce 62) (fun _ _ => rfl) ?_
        refine t_go (op := o_putI 66 11 7) (fe_X12_readOnce 63) (g_putI hS (show (lay 183).1 = 11 by decide) (by decide)) ?_
        refine T_heap ((congrArg (sI (AT (sI h 183 18 (nI o2)) i 0) 183 7) (show (fun x y : Int32 => x + y) (nI i) 1 = nI (i + 1) from nI_1 i)).trans AT_7s).symm ?_
        refine t_go (op := o_iload 67 1) (fe_X12_readOnce 66) (fun _ _ => rfl) ?_
        refine t_ite (op := o_if 77 70 (fun x => x = 0) (fun _ => inferInstance)) (fe_X12_readOnce 67) g_if (fun c4 => ?_) (fun c4 => ?_)
        · exact absurd c4 (by decide)
        · clear c4
          refine t_go (op := o_iload 78 1) (fe_X12_readOnce 77) (fun _ _ => rfl) ?_
          refine t_go (op := o_ci 79 1) (fe_X12_readOnce 78) (fun _ _ => rfl) ?_
          refine t_ite (op := o_icmp 99 82 (fun x y => x = y) (fun _ _ => inferInstance)) (fe_X12_readOnce 79) g_icmp (fun c5 => ?_) (fun c5 => ?_)
          · clear c5
            refine t_go (op := o_aload 83 0) (fe_X12_readOnce 82) (fun _ _ => rfl) ?_
            refine t_go (op := o_getR 86 11 10) (fe_X12_readOnce 83) (g_getR hS (show (lay 183).1 = 11 by decide) (by decide) (fr_11_10 hS) (by decide)) ?_
            refine t_go (op := o_ci 88 52) (fe_X12_readOnce 86) (fun _ _ => rfl) ?_
            refine t_go (op := o_aload 89 0) (fe_X12_readOnce 88) (fun _ _ => rfl) ?_
            refine t_go (op := o_ci 90 1) (fe_X12_readOnce 89) (fun _ _ => rfl) ?_
            refine t_go (op := o_ci 92 20) (fe_X12_readOnce 90) (fun _ _ => rfl) ?_
            refine t_call (op := o_callV 95 175 3 11) (fe_X12_readOnce 92) (g_callV hS (show (lay 183).1 = 11 by decide) (by decide) rfl rfl rfl (Nat.le_of_ble_eq_true rfl)) ?_
            refine M_eq (r_takeNumberY (lo := 1) (hi2 := 20) hR hi1 (by decide) (by decide) hN) ?_
            refine t_go (op := o_iast 96) (fe_X12_readOnce 95) (g_iastN hS (show lay 189 = (20, 100) by decide) (nIl 52) (by omega) (by decide)) ?_
            refine t_go (op := o_goto 121) (fe_X12_readOnce 96) (fun _ _ => rfl) ?_
            refine t_ret (op := o_vret) (fe_X12_readOnce 121) (fun _ _ => rfl) ?_
            exact ⟨rfl, sI_AT (by decide)⟩
          · exact absurd (by decide) c5
      · exact absurd (Int32.le_refl _) c3
  · exact absurd (by decide) c1
theorem r_oCN {d : Nat} {h : AHP} {TK : Nat → Tk} {n i : Nat} (hR : RQ h TK n) (hi : i ≤ n) {oo o2 : Nat} (ho : h.1 183 18 = nI oo) (hw : isWd TK 5 i 0) (hb : ¬ (nI oo >>> ((1 : Int32) &&& 31)) &&& 1 = 1) (ho2 : nI oo ||| ((1 : Int32) <<< ((1 : Int32) &&& 31)) = nI o2) (hi1 : i + 1 ≤ n) (hN : ¬ nuP TK 1 20 (i + 1) 0) : MM (d + 36) 185 [.ref 183] (AT h i 0) (fun v h2 => v = none ∧ h2 = AT (sI (sI h 183 18 (nI o2)) 189 52 0) (i + 1) (wrF TK (nmF TK (i + 1)) (i + 1) 0)) := by
  refine ⟨Nat.le_of_ble_eq_true rfl, ?_⟩
  have hS := hR.1
  have hB := hR.2.2.2.1
  have hn := hR.2.2.1
  refine t_go (op := o_aload 1 0) (fe_X12_readOnce 0) (fun _ _ => rfl) ?_
  refine t_go (op := o_ci 2 4) (fe_X12_readOnce 1) (fun _ _ => rfl) ?_
  refine t_go (op := o_ci 3 3) (fe_X12_readOnce 2) (fun _ _ => rfl) ?_
  refine t_call (op := o_callV 6 177 3 11) (fe_X12_readOnce 3) (g_callV hS (show (lay 183).1 = 11 by decide) (by decide) rfl rfl rfl (Nat.le_of_ble_eq_true rfl)) ?_
  refine M_eq (r_wordHere (b := 4) (cnt := 3) (f := 0) hR hi (by decide) (by decide)) ?_
  rw [show whV TK 4 i 0 3 = 1 from whV_at (q := 1) hw (by decide)]
  refine t_go (op := o_istore 7 1) (fe_X12_readOnce 6) (fun _ _ => rfl) ?_
  refine t_go (op := o_iload 8 1) (fe_X12_readOnce 7) (fun _ _ => rfl) ?_
  refine t_ite (op := o_if 11 19 (fun x => 0 ≤ x) (fun _ => inferInstance)) (fe_X12_readOnce 8) g_if (fun c1 => ?_) (fun c1 => ?_)
  · clear c1
    refine t_go (op := o_aload 20 0) (fe_X12_readOnce 19) (fun _ _ => rfl) ?_
    refine t_go (op := o_getI 23 11 18) (fe_X12_readOnce 20) (g_getI hS (show (lay 183).1 = 11 by decide) (by decide)) ?_
    rw [show (AT h i 0).1 183 18 = nI oo from (AT_o (by decide) (by decide)).trans ho]
    refine t_go (op := o_iload 24 1) (fe_X12_readOnce 23) (fun _ _ => rfl) ?_
    refine t_go (op := o_i2 25 (fun x y => x >>> (y &&& 31))) (fe_X12_readOnce 24) (fun _ _ => rfl) ?_
    refine t_go (op := o_ci 26 1) (fe_X12_readOnce 25) (fun _ _ => rfl) ?_
    refine t_go (op := o_i2 27 (fun x y => x &&& y)) (fe_X12_readOnce 26) (fun _ _ => rfl) ?_
    refine t_go (op := o_ci 28 1) (fe_X12_readOnce 27) (fun _ _ => rfl) ?_
    refine t_ite (op := o_icmp 36 31 (fun x y => x = y) (fun _ _ => inferInstance)) (fe_X12_readOnce 28) g_icmp (fun c2 => ?_) (fun c2 => ?_)
    · exact absurd c2 hb
    · refine t_go (op := o_aload 37 0) (fe_X12_readOnce 36) (fun _ _ => rfl) ?_
      refine t_go (op := o_getI 40 11 8) (fe_X12_readOnce 37) (g_getI hS (show (lay 183).1 = 11 by decide) (by decide)) ?_
      rw [show (AT h i 0).1 183 8 = nI 0 from AT_8]
      refine t_ite (op := o_if 43 44 (fun x => x ≤ 0) (fun _ => inferInstance)) (fe_X12_readOnce 40) g_if (fun c3 => ?_) (fun c3 => ?_)
      · refine t_go (op := o_aload 45 0) (fe_X12_readOnce 44) (fun _ _ => rfl) ?_
        refine t_go (op := o_dupA 46) (fe_X12_readOnce 45) (fun _ _ => rfl) ?_
        refine t_go (op := o_getI 49 11 18) (fe_X12_readOnce 46) (g_getI hS (show (lay 183).1 = 11 by decide) (by decide)) ?_
        rw [show (AT h i 0).1 183 18 = nI oo from (AT_o (by decide) (by decide)).trans ho]
        refine t_go (op := o_ci 50 1) (fe_X12_readOnce 49) (fun _ _ => rfl) ?_
        refine t_go (op := o_iload 51 1) (fe_X12_readOnce 50) (fun _ _ => rfl) ?_
        refine t_go (op := o_i2 52 (fun x y => x <<< (y &&& 31))) (fe_X12_readOnce 51) (fun _ _ => rfl) ?_
        refine t_go (op := o_i2 53 (fun x y => x ||| y)) (fe_X12_readOnce 52) (fun _ _ => rfl) ?_
        refine t_go (op := o_putI 56 11 18) (fe_X12_readOnce 53) (g_putI hS (show (lay 183).1 = 11 by decide) (by decide)) ?_
        refine T_heap (show AT (sI h 183 18 (nI o2)) i 0 = sI (AT h i 0) 183 18 _ from by rw [← sI_AT3 (by decide) (by decide), ← ho2]) ?_
        replace hR := RQ_s3 (k := 18) (x := nI o2) hR
        replace hS := hR.1
        refine t_go (op := o_aload 57 0) (fe_X12_readOnce 56) (fun _ _ => rfl) ?_
        refine t_go (op := o_dupA 58) (fe_X12_readOnce 57) (fun _ _ => rfl) ?_
        refine t_go (op := o_getI 61 11 7) (fe_X12_readOnce 58) (g_getI hS (show (lay 183).1 = 11 by decide) (by decide)) ?_
        rw [show (AT (sI h 183 18 (nI o2)) i 0).1 183 7 = nI i from AT_7]
        refine t_go (op := o_ci 62 1) (fe_X12_readOnce 61) (fun _ _ => rfl) ?_
        refine t_go (op := o_i2 63 (fun x y => x + y)) (fe_X12_readOnce 62) (fun _ _ => rfl) ?_
        refine t_go (op := o_putI 66 11 7) (fe_X12_readOnce 63) (g_putI hS (show (lay 183).1 = 11 by decide) (by decide)) ?_
        refine T_heap ((congrArg (sI (AT (sI h 183 18 (nI o2)) i 0) 183 7) (show (fun x y : Int32 => x + y) (nI i) 1 = nI (i + 1) from nI_1 i)).trans AT_7s).symm ?_
        refine t_go (op := o_iload 67 1) (fe_X12_readOnce 66) (fun _ _ => rfl) ?_
        refine t_ite (op := o_if 77 70 (fun x => x = 0) (fun _ => inferInstance)) (fe_X12_readOnce 67) g_if (fun c4 => ?_) (fun c4 => ?_)
        · exact absurd c4 (by decide)
        · clear c4
          refine t_go (op := o_iload 78 1) (fe_X12_readOnce 77) (fun _ _ => rfl) ?_
          refine t_go (op := o_ci 79 1) (fe_X12_readOnce 78) (fun _ _ => rfl) ?_
          refine t_ite (op := o_icmp 99 82 (fun x y => x = y) (fun _ _ => inferInstance)) (fe_X12_readOnce 79) g_icmp (fun c5 => ?_) (fun c5 => ?_)
          · clear c5
            refine t_go (op := o_aload 83 0) (fe_X12_readOnce 82) (fun _ _ => rfl) ?_
            refine t_go (op := o_getR 86 11 10) (fe_X12_readOnce 83) (g_getR hS (show (lay 183).1 = 11 by decide) (by decide) (fr_11_10 hS) (by decide)) ?_
            refine t_go (op := o_ci 88 52) (fe_X12_readOnce 86) (fun _ _ => rfl) ?_
            refine t_go (op := o_aload 89 0) (fe_X12_readOnce 88) (fun _ _ => rfl) ?_
            refine t_go (op := o_ci 90 1) (fe_X12_readOnce 89) (fun _ _ => rfl) ?_
            refine t_go (op := o_ci 92 20) (fe_X12_readOnce 90) (fun _ _ => rfl) ?_
            refine t_call (op := o_callV 95 175 3 11) (fe_X12_readOnce 92) (g_callV hS (show (lay 183).1 = 11 by decide) (by decide) rfl rfl rfl (Nat.le_of_ble_eq_true rfl)) ?_
            refine M_eq (r_takeNumberN (lo := 1) (hi2 := 20) hR hi1 (by decide) (by decide) hN) ?_
            refine t_go (op := o_iast 96) (fe_X12_readOnce 95) (g_iastN hS (show lay 189 = (20, 100) by decide) (nIl 52) (by omega) (by decide)) ?_
            refine t_go (op := o_goto 121) (fe_X12_readOnce 96) (fun _ _ => rfl) ?_
            refine t_ret (op := o_vret) (fe_X12_readOnce 121) (fun _ _ => rfl) ?_
            exact ⟨rfl, sI_AT (by decide)⟩
          · exact absurd (by decide) c5
      · exact absurd (Int32.le_refl _) c3
  · exact absurd (by decide) c1
theorem r_oT2 {d : Nat} {h : AHP} {TK : Nat → Tk} {n i : Nat} (hR : RQ h TK n) (hi : i ≤ n) {oo : Nat} (ho : h.1 183 18 = nI oo) (hw : isWd TK 6 i 0) (hb : (nI oo >>> ((2 : Int32) &&& 31)) &&& 1 = 1) : MM (d + 36) 185 [.ref 183] (AT h i 0) (fun v h2 => v = none ∧ h2 = AT h i (wrF TK 3 i 0)) := by
  refine ⟨Nat.le_of_ble_eq_true rfl, ?_⟩
  have hS := hR.1
  have hB := hR.2.2.2.1
  have hn := hR.2.2.1
  refine t_go (op := o_aload 1 0) (fe_X12_readOnce 0) (fun _ _ => rfl) ?_
  refine t_go (op := o_ci 2 4) (fe_X12_readOnce 1) (fun _ _ => rfl) ?_
  refine t_go (op := o_ci 3 3) (fe_X12_readOnce 2) (fun _ _ => rfl) ?_
  refine t_call (op := o_callV 6 177 3 11) (fe_X12_readOnce 3) (g_callV hS (show (lay 183).1 = 11 by decide) (by decide) rfl rfl rfl (Nat.le_of_ble_eq_true rfl)) ?_
  refine M_eq (r_wordHere (b := 4) (cnt := 3) (f := 0) hR hi (by decide) (by decide)) ?_
  rw [show whV TK 4 i 0 3 = 2 from whV_at (q := 2) hw (by decide)]
  refine t_go (op := o_istore 7 1) (fe_X12_readOnce 6) (fun _ _ => rfl) ?_
  refine t_go (op := o_iload 8 1) (fe_X12_readOnce 7) (fun _ _ => rfl) ?_
  refine t_ite (op := o_if 11 19 (fun x => 0 ≤ x) (fun _ => inferInstance)) (fe_X12_readOnce 8) g_if (fun c1 => ?_) (fun c1 => ?_)
  · clear c1
    refine t_go (op := o_aload 20 0) (fe_X12_readOnce 19) (fun _ _ => rfl) ?_
    refine t_go (op := o_getI 23 11 18) (fe_X12_readOnce 20) (g_getI hS (show (lay 183).1 = 11 by decide) (by decide)) ?_
    rw [show (AT h i 0).1 183 18 = nI oo from (AT_o (by decide) (by decide)).trans ho]
    refine t_go (op := o_iload 24 1) (fe_X12_readOnce 23) (fun _ _ => rfl) ?_
    refine t_go (op := o_i2 25 (fun x y => x >>> (y &&& 31))) (fe_X12_readOnce 24) (fun _ _ => rfl) ?_
    refine t_go (op := o_ci 26 1) (fe_X12_readOnce 25) (fun _ _ => rfl) ?_
    refine t_go (op := o_i2 27 (fun x y => x &&& y)) (fe_X12_readOnce 26) (fun _ _ => rfl) ?_
    refine t_go (op := o_ci 28 1) (fe_X12_readOnce 27) (fun _ _ => rfl) ?_
    refine t_ite (op := o_icmp 36 31 (fun x y => x = y) (fun _ _ => inferInstance)) (fe_X12_readOnce 28) g_icmp (fun c2 => ?_) (fun c2 => ?_)
    · refine t_go (op := o_aload 32 0) (fe_X12_readOnce 31) (fun _ _ => rfl) ?_
      refine t_go (op := o_ci 33 3) (fe_X12_readOnce 32) (fun _ _ => rfl) ?_
      refine t_call (op := o_callV 36 166 2 11) (fe_X12_readOnce 33) (g_callV hS (show (lay 183).1 = 11 by decide) (by decide) rfl rfl rfl (Nat.le_of_ble_eq_true rfl)) ?_
      refine M_eq (r_wrong (c := 3) (f := 0) hR hi (by decide)) ?_
      refine t_go (op := o_aload 37 0) (fe_X12_readOnce 36) (fun _ _ => rfl) ?_
      refine t_go (op := o_getI 40 11 8) (fe_X12_readOnce 37) (g_getI hS (show (lay 183).1 = 11 by decide) (by decide)) ?_
      rw [show (AT h i (wrF TK 3 i 0)).1 183 8 = nI (wrF TK 3 i 0) from AT_8]
      refine t_ite (op := o_if 43 44 (fun x => x ≤ 0) (fun _ => inferInstance)) (fe_X12_readOnce 40) g_if (fun c3 => ?_) (fun c3 => ?_)
      · exact absurd ((le_0 (wr0_b hB (by decide))).mp c3) (wrF_p (by decide))
      · refine t_ret (op := o_vret) (fe_X12_readOnce 43) (fun _ _ => rfl) ?_
        exact ⟨rfl, rfl⟩
    · exact absurd hb c2
  · exact absurd (by decide) c1
theorem r_oW {d : Nat} {h : AHP} {TK : Nat → Tk} {n i : Nat} (hR : RQ h TK n) (hi : i ≤ n) {oo o2 : Nat} (ho : h.1 183 18 = nI oo) (hw : isWd TK 6 i 0) (hb : ¬ (nI oo >>> ((2 : Int32) &&& 31)) &&& 1 = 1) (ho2 : nI oo ||| ((1 : Int32) <<< ((2 : Int32) &&& 31)) = nI o2) (hi1 : i + 1 ≤ n) (hE : (TK n).1 = 0) (h13 : h.1 183 13 = nI 0) : MM (d + 36) 185 [.ref 183] (AT h i 0) (fun v h2 => v = none ∧ RS (AT (sI (sI h 183 18 (nI o2)) 189 53 (nI 0)) (i + 1) 0) h2 (emS 0 0 (lawS TK n (i + 1, 0, []))) ∧ okR TK n (lawS TK n (i + 1, 0, []))) := by
  refine ⟨Nat.le_of_ble_eq_true rfl, ?_⟩
  have hS := hR.1
  have hB := hR.2.2.2.1
  have hn := hR.2.2.1
  refine t_go (op := o_aload 1 0) (fe_X12_readOnce 0) (fun _ _ => rfl) ?_
  refine t_go (op := o_ci 2 4) (fe_X12_readOnce 1) (fun _ _ => rfl) ?_
  refine t_go (op := o_ci 3 3) (fe_X12_readOnce 2) (fun _ _ => rfl) ?_
  refine t_call (op := o_callV 6 177 3 11) (fe_X12_readOnce 3) (g_callV hS (show (lay 183).1 = 11 by decide) (by decide) rfl rfl rfl (Nat.le_of_ble_eq_true rfl)) ?_
  refine M_eq (r_wordHere (b := 4) (cnt := 3) (f := 0) hR hi (by decide) (by decide)) ?_
  rw [show whV TK 4 i 0 3 = 2 from whV_at (q := 2) hw (by decide)]
  refine t_go (op := o_istore 7 1) (fe_X12_readOnce 6) (fun _ _ => rfl) ?_
  refine t_go (op := o_iload 8 1) (fe_X12_readOnce 7) (fun _ _ => rfl) ?_
  refine t_ite (op := o_if 11 19 (fun x => 0 ≤ x) (fun _ => inferInstance)) (fe_X12_readOnce 8) g_if (fun c1 => ?_) (fun c1 => ?_)
  · clear c1
    refine t_go (op := o_aload 20 0) (fe_X12_readOnce 19) (fun _ _ => rfl) ?_
    refine t_go (op := o_getI 23 11 18) (fe_X12_readOnce 20) (g_getI hS (show (lay 183).1 = 11 by decide) (by decide)) ?_
    rw [show (AT h i 0).1 183 18 = nI oo from (AT_o (by decide) (by decide)).trans ho]
    refine t_go (op := o_iload 24 1) (fe_X12_readOnce 23) (fun _ _ => rfl) ?_
    refine t_go (op := o_i2 25 (fun x y => x >>> (y &&& 31))) (fe_X12_readOnce 24) (fun _ _ => rfl) ?_
    refine t_go (op := o_ci 26 1) (fe_X12_readOnce 25) (fun _ _ => rfl) ?_
    refine t_go (op := o_i2 27 (fun x y => x &&& y)) (fe_X12_readOnce 26) (fun _ _ => rfl) ?_
    refine t_go (op := o_ci 28 1) (fe_X12_readOnce 27) (fun _ _ => rfl) ?_
    refine t_ite (op := o_icmp 36 31 (fun x y => x = y) (fun _ _ => inferInstance)) (fe_X12_readOnce 28) g_icmp (fun c2 => ?_) (fun c2 => ?_)
    · exact absurd c2 hb
    · refine t_go (op := o_aload 37 0) (fe_X12_readOnce 36) (fun _ _ => rfl) ?_
      refine t_go (op := o_getI 40 11 8) (fe_X12_readOnce 37) (g_getI hS (show (lay 183).1 = 11 by decide) (by decide)) ?_
      rw [show (AT h i 0).1 183 8 = nI 0 from AT_8]
      refine t_ite (op := o_if 43 44 (fun x => x ≤ 0) (fun _ => inferInstance)) (fe_X12_readOnce 40) g_if (fun c3 => ?_) (fun c3 => ?_)
      · refine t_go (op := o_aload 45 0) (fe_X12_readOnce 44) (fun _ _ => rfl) ?_
        refine t_go (op := o_dupA 46) (fe_X12_readOnce 45) (fun _ _ => rfl) ?_
        refine t_go (op := o_getI 49 11 18) (fe_X12_readOnce 46) (g_getI hS (show (lay 183).1 = 11 by decide) (by decide)) ?_
        rw [show (AT h i 0).1 183 18 = nI oo from (AT_o (by decide) (by decide)).trans ho]
        refine t_go (op := o_ci 50 1) (fe_X12_readOnce 49) (fun _ _ => rfl) ?_
        refine t_go (op := o_iload 51 1) (fe_X12_readOnce 50) (fun _ _ => rfl) ?_
        refine t_go (op := o_i2 52 (fun x y => x <<< (y &&& 31))) (fe_X12_readOnce 51) (fun _ _ => rfl) ?_
        refine t_go (op := o_i2 53 (fun x y => x ||| y)) (fe_X12_readOnce 52) (fun _ _ => rfl) ?_
        refine t_go (op := o_putI 56 11 18) (fe_X12_readOnce 53) (g_putI hS (show (lay 183).1 = 11 by decide) (by decide)) ?_
        refine T_heap (show AT (sI h 183 18 (nI o2)) i 0 = sI (AT h i 0) 183 18 _ from by rw [← sI_AT3 (by decide) (by decide), ← ho2]) ?_
        replace hR := RQ_s3 (k := 18) (x := nI o2) hR
        replace hS := hR.1
        refine t_go (op := o_aload 57 0) (fe_X12_readOnce 56) (fun _ _ => rfl) ?_
        refine t_go (op := o_dupA 58) (fe_X12_readOnce 57) (fun _ _ => rfl) ?_
        refine t_go (op := o_getI 61 11 7) (fe_X12_readOnce 58) (g_getI hS (show (lay 183).1 = 11 by decide) (by decide)) ?_
        rw [show (AT (sI h 183 18 (nI o2)) i 0).1 183 7 = nI i from AT_7]
        refine t_go (op := o_ci 62 1) (fe_X12_readOnce 61) (fun _ _ => rfl) ?_
        refine t_go (op := o_i2 63 (fun x y => x + y)) (fe_X12_readOnce 62) (fun _ _ => rfl) ?_
        refine t_go (op := o_putI 66 11 7) (fe_X12_readOnce 63) (g_putI hS (show (lay 183).1 = 11 by decide) (by decide)) ?_
        refine T_heap ((congrArg (sI (AT (sI h 183 18 (nI o2)) i 0) 183 7) (show (fun x y : Int32 => x + y) (nI i) 1 = nI (i + 1) from nI_1 i)).trans AT_7s).symm ?_
        refine t_go (op := o_iload 67 1) (fe_X12_readOnce 66) (fun _ _ => rfl) ?_
        refine t_ite (op := o_if 77 70 (fun x => x = 0) (fun _ => inferInstance)) (fe_X12_readOnce 67) g_if (fun c4 => ?_) (fun c4 => ?_)
        · exact absurd c4 (by decide)
        · clear c4
          refine t_go (op := o_iload 78 1) (fe_X12_readOnce 77) (fun _ _ => rfl) ?_
          refine t_go (op := o_ci 79 1) (fe_X12_readOnce 78) (fun _ _ => rfl) ?_
          refine t_ite (op := o_icmp 99 82 (fun x y => x = y) (fun _ _ => inferInstance)) (fe_X12_readOnce 79) g_icmp (fun c5 => ?_) (fun c5 => ?_)
          · exact absurd c5 (by decide)
          · clear c5
            refine t_go (op := o_aload 100 0) (fe_X12_readOnce 99) (fun _ _ => rfl) ?_
            refine t_go (op := o_getR 103 11 10) (fe_X12_readOnce 100) (g_getR hS (show (lay 183).1 = 11 by decide) (by decide) (fr_11_10 hS) (by decide)) ?_
            refine t_go (op := o_ci 105 53) (fe_X12_readOnce 103) (fun _ _ => rfl) ?_
            refine t_go (op := o_aload 106 0) (fe_X12_readOnce 105) (fun _ _ => rfl) ?_
            refine t_go (op := o_getI 109 11 13) (fe_X12_readOnce 106) (g_getI hS (show (lay 183).1 = 11 by decide) (by decide)) ?_
            rw [show (AT (sI h 183 18 (nI o2)) (i + 1) 0).1 183 13 = nI 0 from (AT_o (by decide) (by decide)).trans ((sI_nr (by decide)).trans h13)]
            refine t_go (op := o_iast 110) (fe_X12_readOnce 109) (g_iastN hS (show lay 189 = (20, 100) by decide) (nIl 53) (by omega) (by decide)) ?_
            refine T_heap (show AT (sI (sI h 183 18 (nI o2)) 189 53 (nI 0)) (i + 1) 0 = sI (AT (sI h 183 18 (nI o2)) (i + 1) 0) 189 53 (nI 0) from (sI_AT (by decide)).symm) ?_
            have hR9 : RQ (AT (sI (sI h 183 18 (nI o2)) 189 53 (nI 0)) (i + 1) 0) TK n := RQ_s3 (RQ_s3 (RQ_s9 hR))
            have hs9 : RS (AT (sI (sI h 183 18 (nI o2)) 189 53 (nI 0)) (i + 1) 0) (AT (sI (sI h 183 18 (nI o2)) 189 53 (nI 0)) (i + 1) 0) (i + 1, 0, []) := RS_0 AT_7 AT_8 ((AT_o (by decide) (by decide)).trans ((congrFun (sI_ne (by decide)) 13).trans ((sI_nr (by decide)).trans h13)))
            have hk9 : okR TK n (i + 1, 0, []) := ⟨hi1, show 0 < 100000 by decide, Nat.zero_le _⟩
            replace hS := hR9.1
            refine t_go (op := o_aload 111 0) (fe_X12_readOnce 110) (fun _ _ => rfl) ?_
            refine t_go (op := o_ci 112 0) (fe_X12_readOnce 111) (fun _ _ => rfl) ?_
            refine t_call (op := o_callV 115 189 2 11) (fe_X12_readOnce 112) (g_callV hS (show (lay 183).1 = 11 by decide) (by decide) rfl rfl rfl (Nat.le_of_ble_eq_true rfl)) ?_
            refine M_mono ?_ (r_whole (d := d + 2) hR9 hE hs9 hk9)
            rintro _ k3 ⟨rfl, hs3⟩
            have hk3 : okR TK n (lawS TK n (i + 1, 0, [])) := okR_go hk9 (pJ_go hR.2.2.2.1 hE _ _ _ _ _ hk9.1 hk9.2.1 (lawS_eq hR.2.2.2.1 hE hk9.1 hk9.2.1))
            replace hS := RS.std hR9.1 hs3
            refine t_go (op := o_aload 116 0) (fe_X12_readOnce 115) (fun _ _ => rfl) ?_
            refine t_go (op := o_ci 117 0) (fe_X12_readOnce 116) (fun _ _ => rfl) ?_
            refine t_go (op := o_ci 118 0) (fe_X12_readOnce 117) (fun _ _ => rfl) ?_
            refine t_call (op := o_callV 121 188 3 11) (fe_X12_readOnce 118) (g_callV hS (show (lay 183).1 = 11 by decide) (by decide) rfl rfl rfl (Nat.le_of_ble_eq_true rfl)) ?_
            refine M_mono ?_ (w_emit (a := 0) (b := 0) hR9.1 hs3 (by have := hk3.2.2; have := hk3.1; omega))
            rintro _ k4 ⟨rfl, hs4⟩
            refine t_ret (op := o_vret) (fe_X12_readOnce 121) (fun _ _ => rfl) ?_
            exact ⟨rfl, hs4, hk3⟩
      · exact absurd (Int32.le_refl _) c3
  · exact absurd (by decide) c1
