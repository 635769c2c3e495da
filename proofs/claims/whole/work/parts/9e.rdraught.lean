/-! ===== the reference reads draughts ===== -/
theorem sI_AT {h : AHP} {i f a k : Nat} {x : Int32} (ha : a ≠ 183) : sI (AT h i f) a k x = AT (sI h a k x) i f := by
  refine AHP_ext (fun b j => ?_) rfl
  simp only [sI, up2]
  by_cases e1 : b = a
  · subst e1; simp [ha]
  · simp [e1]
theorem sI_AT3 {h : AHP} {i f k : Nat} {x : Int32} (h7 : k ≠ 7) (h8 : k ≠ 8) : sI (AT h i f) 183 k x = AT (sI h 183 k x) i f := by
  refine AHP_ext (fun b j => ?_) rfl
  simp only [sI, up2]
  by_cases e1 : b = 183
  · subst e1
    by_cases e2 : j = k
    · subst e2; simp [h7, h8]
    · simp [e2]
  · simp [e1]
theorem RQ_row {h : AHP} {TK : Nat → Tk} {n : Nat} {r : Nat → Int32} (hR : RQ h TK n) : RQ (rowI h 189 r) TK n := by
  obtain ⟨r1, r2, r3, r4, r5⟩ := hR
  refine ⟨r1, fun j hj => ?_, r3, r4, r5⟩
  have := r2 j hj
  unfold TkR at this ⊢
  rw [rowI_ne (by decide), rowI_ne (by decide)]
  exact this
theorem RQ_s3 {h : AHP} {TK : Nat → Tk} {n k : Nat} {x : Int32} (hR : RQ h TK n) : RQ (sI h 183 k x) TK n := by
  obtain ⟨r1, r2, r3, r4, r5⟩ := hR
  refine ⟨r1, fun j hj => ?_, r3, r4, r5⟩
  have := r2 j hj
  unfold TkR at this ⊢
  rw [sI_ne (by decide), sI_ne (by decide)]
  exact this
theorem RQ_s9 {h : AHP} {TK : Nat → Tk} {n k : Nat} {x : Int32} (hR : RQ h TK n) : RQ (sI h 189 k x) TK n := by
  obtain ⟨r1, r2, r3, r4, r5⟩ := hR
  refine ⟨r1, fun j hj => ?_, r3, r4, r5⟩
  have := r2 j hj
  unfold TkR at this ⊢
  rw [sI_ne (by decide), sI_ne (by decide)]
  exact this
/-- draughts: fault, where it ends, the numbers -/
noncomputable def dS (TK : Nat → Tk) : Nat → Nat → Nat → Nat × Nat × List Nat
  | 0, p, _ => (0, p, [])
  | k + 1, p, j => cI (¬ j = 0 ∧ ¬ (TK p).1 = 2) (0, p, []) (cI (¬ nuP TK 0 9 p 0) (wrF TK (nmF TK p) p 0, p, []) (cI (j = 12) (wrF TK 5 p 0, p, []) ((dS TK k (p + 1) (j + 1)).1, (dS TK k (p + 1) (j + 1)).2.1, (TK p).2.2.1 :: (dS TK k (p + 1) (j + 1)).2.2)))
def drW (r : Nat → Int32) : Nat → List Nat → Nat → Int32
  | _, [] => r
  | a, x :: l => drW (fup r a (nI x)) (a + 1) l
theorem r_drF {d : Nat} {h : AHP} {TK : Nat → Tk} {n p j f : Nat} {r : Nat → Int32} (hR : RQ h TK n) (hp : p ≤ n) {x2 : Option Value} (hf : f < 100000) (h0 : ¬ f = 0) {Q : Option Value → AHP → Prop} (hq : Q none (AT (rowI h 189 (fup r 51 (nI j))) p f)) : TT (d + 2) 186 2 [some (.ref 183), some (.int (nI j)), x2] [] (AT (rowI h 189 r) p f) Q := by
  have hR1 := RQ_row (r := r) hR
  have hS := hR1.1
  have hB := hR.2.2.2.1
  have hn := hR.2.2.1
  refine t_go (op := o_aload 3 0) (fe_X12_readDraught 2) (fun _ _ => rfl) ?_
  refine t_go (op := o_getI 6 11 8) (fe_X12_readDraught 3) (g_getI hS (show (lay 183).1 = 11 by decide) (by decide)) ?_
  rw [show (AT (rowI h 189 r) p f).1 183 8 = nI f from AT_8]
  refine t_ite (op := o_if 88 9 (fun x => x = 0) (fun _ => inferInstance)) (fe_X12_readDraught 6) g_if (fun c1 => ?_) (fun c1 => ?_)
  · exact absurd ((f_0 hf).mp c1) h0
  · refine t_go (op := o_aload 89 0) (fe_X12_readDraught 88) (fun _ _ => rfl) ?_
    refine t_go (op := o_getR 92 11 10) (fe_X12_readDraught 89) (g_getR hS (show (lay 183).1 = 11 by decide) (by decide) (fr_11_10 hS) (by decide)) ?_
    refine t_go (op := o_ci 94 51) (fe_X12_readDraught 92) (fun _ _ => rfl) ?_
    refine t_go (op := o_iload 95 1) (fe_X12_readDraught 94) (fun _ _ => rfl) ?_
    refine t_go (op := o_iast 96) (fe_X12_readDraught 95) (g_iastN hS (show lay 189 = (20, 100) by decide) (nIl 51) (by omega) (by decide)) ?_
    refine T_heap (show AT (rowI h 189 (fup r 51 (nI j))) p f = sI (AT (rowI h 189 r) p f) 189 51 (nI j) from by rw [sI_AT (by decide), rowI_up]) ?_
    refine t_ret (op := o_vret) (fe_X12_readDraught 96) (fun _ _ => rfl) ?_
    exact hq
theorem r_drE {d : Nat} {h : AHP} {TK : Nat → Tk} {n p j : Nat} {r : Nat → Int32} (hR : RQ h TK n) (hp : p ≤ n) {x2 : Option Value} (hj0 : ¬ j = 0) (hj : j ≤ 12) (hs : ¬ (TK p).1 = 2) {Q : Option Value → AHP → Prop} (hq : Q none (AT (rowI h 189 (fup r 51 (nI j))) p 0)) : TT (d + 2) 186 2 [some (.ref 183), some (.int (nI j)), x2] [] (AT (rowI h 189 r) p 0) Q := by
  have hR1 := RQ_row (r := r) hR
  have hS := hR1.1
  have hB := hR.2.2.2.1
  have hn := hR.2.2.1
  refine t_go (op := o_aload 3 0) (fe_X12_readDraught 2) (fun _ _ => rfl) ?_
  refine t_go (op := o_getI 6 11 8) (fe_X12_readDraught 3) (g_getI hS (show (lay 183).1 = 11 by decide) (by decide)) ?_
  rw [show (AT (rowI h 189 r) p 0).1 183 8 = nI 0 from AT_8]
  refine t_ite (op := o_if 88 9 (fun x => x = 0) (fun _ => inferInstance)) (fe_X12_readDraught 6) g_if (fun c1 => ?_) (fun c1 => ?_)
  · refine t_go (op := o_iload 10 1) (fe_X12_readDraught 9) (fun _ _ => rfl) ?_
    refine t_ite (op := o_if 13 26 (fun x => x = 0) (fun _ => inferInstance)) (fe_X12_readDraught 10) g_if (fun c2 => ?_) (fun c2 => ?_)
    · exact absurd ((nI_eq (b := 0) (by omega) (by decide)).mp c2) hj0
    · refine t_go (op := o_aload 14 0) (fe_X12_readDraught 13) (fun _ _ => rfl) ?_
      refine t_go (op := o_getR 17 11 4) (fe_X12_readDraught 14) (g_getR hS (show (lay 183).1 = 11 by decide) (by decide) (fr_11_4 hS) (by decide)) ?_
      refine t_go (op := o_aload 18 0) (fe_X12_readDraught 17) (fun _ _ => rfl) ?_
      refine t_go (op := o_getI 21 11 7) (fe_X12_readDraught 18) (g_getI hS (show (lay 183).1 = 11 by decide) (by decide)) ?_
      rw [show (AT (rowI h 189 r) p 0).1 183 7 = nI p from AT_7]
      refine t_go (op := o_iald 22) (fe_X12_readDraught 21) (g_ialdN hS (show lay 185 = (20, 1002) by decide) rfl (by omega) (by decide)) ?_
      rw [show (AT (rowI h 189 r) p 0).1 185 p = nI (TK p).1 from (congrFun (AT_r (by decide)) p).trans (hR1.2.1 p hp).1]
      refine t_go (op := o_ci 23 2) (fe_X12_readDraught 22) (fun _ _ => rfl) ?_
      refine t_ite (op := o_icmp 88 26 (fun x y => x = y) (fun _ _ => inferInstance)) (fe_X12_readDraught 23) g_icmp (fun c3 => ?_) (fun c3 => ?_)
      · exact absurd ((nI_eq (b := 2) (by have := (hB p).1; omega) (by decide)).mp c3) hs
      · refine t_go (op := o_aload 89 0) (fe_X12_readDraught 88) (fun _ _ => rfl) ?_
        refine t_go (op := o_getR 92 11 10) (fe_X12_readDraught 89) (g_getR hS (show (lay 183).1 = 11 by decide) (by decide) (fr_11_10 hS) (by decide)) ?_
        refine t_go (op := o_ci 94 51) (fe_X12_readDraught 92) (fun _ _ => rfl) ?_
        refine t_go (op := o_iload 95 1) (fe_X12_readDraught 94) (fun _ _ => rfl) ?_
        refine t_go (op := o_iast 96) (fe_X12_readDraught 95) (g_iastN hS (show lay 189 = (20, 100) by decide) (nIl 51) (by omega) (by decide)) ?_
        refine T_heap (show AT (rowI h 189 (fup r 51 (nI j))) p 0 = sI (AT (rowI h 189 r) p 0) 189 51 (nI j) from by rw [sI_AT (by decide), rowI_up]) ?_
        refine t_ret (op := o_vret) (fe_X12_readDraught 96) (fun _ _ => rfl) ?_
        exact hq
  · exact absurd rfl c1
theorem r_drN {d : Nat} {h : AHP} {TK : Nat → Tk} {n p j : Nat} {r : Nat → Int32} (hR : RQ h TK n) (hp : p ≤ n) {x2 : Option Value} (hj : j ≤ 12) (hg : j = 0 ∨ (TK p).1 = 2) (hN : ¬ nuP TK 0 9 p 0) {Q : Option Value → AHP → Prop} (hq : Q none (AT (rowI h 189 (fup r 51 (nI j))) p (wrF TK (nmF TK p) p 0))) : TT (d + 2) 186 2 [some (.ref 183), some (.int (nI j)), x2] [] (AT (rowI h 189 r) p 0) Q := by
  have hR1 := RQ_row (r := r) hR
  have hS := hR1.1
  have hB := hR.2.2.2.1
  have hn := hR.2.2.1
  refine t_go (op := o_aload 3 0) (fe_X12_readDraught 2) (fun _ _ => rfl) ?_
  refine t_go (op := o_getI 6 11 8) (fe_X12_readDraught 3) (g_getI hS (show (lay 183).1 = 11 by decide) (by decide)) ?_
  rw [show (AT (rowI h 189 r) p 0).1 183 8 = nI 0 from AT_8]
  refine t_ite (op := o_if 88 9 (fun x => x = 0) (fun _ => inferInstance)) (fe_X12_readDraught 6) g_if (fun c1 => ?_) (fun c1 => ?_)
  · refine t_go (op := o_iload 10 1) (fe_X12_readDraught 9) (fun _ _ => rfl) ?_
    refine t_ite (op := o_if 13 26 (fun x => x = 0) (fun _ => inferInstance)) (fe_X12_readDraught 10) g_if (fun c2 => ?_) (fun c2 => ?_)
    · refine t_go (op := o_aload 27 0) (fe_X12_readDraught 26) (fun _ _ => rfl) ?_
      refine t_go (op := o_ci 28 0) (fe_X12_readDraught 27) (fun _ _ => rfl) ?_
      refine t_go (op := o_ci 30 9) (fe_X12_readDraught 28) (fun _ _ => rfl) ?_
      refine t_call (op := o_callV 33 175 3 11) (fe_X12_readDraught 30) (g_callV hS (show (lay 183).1 = 11 by decide) (by decide) rfl rfl rfl (Nat.le_of_ble_eq_true rfl)) ?_
      refine M_eq (r_takeNumberN (lo := 0) (hi2 := 9) hR1 hp (by decide) (by decide) hN) ?_
      refine t_go (op := o_istore 34 2) (fe_X12_readDraught 33) (fun _ _ => rfl) ?_
      refine t_go (op := o_aload 35 0) (fe_X12_readDraught 34) (fun _ _ => rfl) ?_
      refine t_go (op := o_getI 38 11 8) (fe_X12_readDraught 35) (g_getI hS (show (lay 183).1 = 11 by decide) (by decide)) ?_
      rw [show (AT (rowI h 189 r) p (wrF TK (nmF TK p) p 0)).1 183 8 = nI (wrF TK (nmF TK p) p 0) from AT_8]
      refine t_ite (op := o_if 65 41 (fun x => x = 0) (fun _ => inferInstance)) (fe_X12_readDraught 38) g_if (fun c3 => ?_) (fun c3 => ?_)
      · exact absurd ((f_0 (wr0_b hB nmF_5.2)).mp c3) (wrF_p nmF_5.1)
      · refine t_go (op := o_aload 66 0) (fe_X12_readDraught 65) (fun _ _ => rfl) ?_
        refine t_go (op := o_getI 69 11 8) (fe_X12_readDraught 66) (g_getI hS (show (lay 183).1 = 11 by decide) (by decide)) ?_
        rw [show (AT (rowI h 189 r) p (wrF TK (nmF TK p) p 0)).1 183 8 = nI (wrF TK (nmF TK p) p 0) from AT_8]
        refine t_ite (op := o_if 85 72 (fun x => x = 0) (fun _ => inferInstance)) (fe_X12_readDraught 69) g_if (fun c4 => ?_) (fun c4 => ?_)
        · exact absurd ((f_0 (wr0_b hB nmF_5.2)).mp c4) (wrF_p nmF_5.1)
        · refine t_go (op := o_goto 2) (fe_X12_readDraught 85) (fun _ _ => rfl) ?_
          exact r_drF hR hp (wr0_b hB nmF_5.2) (wrF_p nmF_5.1) hq
    · refine t_go (op := o_aload 14 0) (fe_X12_readDraught 13) (fun _ _ => rfl) ?_
      refine t_go (op := o_getR 17 11 4) (fe_X12_readDraught 14) (g_getR hS (show (lay 183).1 = 11 by decide) (by decide) (fr_11_4 hS) (by decide)) ?_
      refine t_go (op := o_aload 18 0) (fe_X12_readDraught 17) (fun _ _ => rfl) ?_
      refine t_go (op := o_getI 21 11 7) (fe_X12_readDraught 18) (g_getI hS (show (lay 183).1 = 11 by decide) (by decide)) ?_
      rw [show (AT (rowI h 189 r) p 0).1 183 7 = nI p from AT_7]
      refine t_go (op := o_iald 22) (fe_X12_readDraught 21) (g_ialdN hS (show lay 185 = (20, 1002) by decide) rfl (by omega) (by decide)) ?_
      rw [show (AT (rowI h 189 r) p 0).1 185 p = nI (TK p).1 from (congrFun (AT_r (by decide)) p).trans (hR1.2.1 p hp).1]
      refine t_go (op := o_ci 23 2) (fe_X12_readDraught 22) (fun _ _ => rfl) ?_
      refine t_ite (op := o_icmp 88 26 (fun x y => x = y) (fun _ _ => inferInstance)) (fe_X12_readDraught 23) g_icmp (fun c5 => ?_) (fun c5 => ?_)
      · refine t_go (op := o_aload 27 0) (fe_X12_readDraught 26) (fun _ _ => rfl) ?_
        refine t_go (op := o_ci 28 0) (fe_X12_readDraught 27) (fun _ _ => rfl) ?_
        refine t_go (op := o_ci 30 9) (fe_X12_readDraught 28) (fun _ _ => rfl) ?_
        refine t_call (op := o_callV 33 175 3 11) (fe_X12_readDraught 30) (g_callV hS (show (lay 183).1 = 11 by decide) (by decide) rfl rfl rfl (Nat.le_of_ble_eq_true rfl)) ?_
        refine M_eq (r_takeNumberN (lo := 0) (hi2 := 9) hR1 hp (by decide) (by decide) hN) ?_
        refine t_go (op := o_istore 34 2) (fe_X12_readDraught 33) (fun _ _ => rfl) ?_
        refine t_go (op := o_aload 35 0) (fe_X12_readDraught 34) (fun _ _ => rfl) ?_
        refine t_go (op := o_getI 38 11 8) (fe_X12_readDraught 35) (g_getI hS (show (lay 183).1 = 11 by decide) (by decide)) ?_
        rw [show (AT (rowI h 189 r) p (wrF TK (nmF TK p) p 0)).1 183 8 = nI (wrF TK (nmF TK p) p 0) from AT_8]
        refine t_ite (op := o_if 65 41 (fun x => x = 0) (fun _ => inferInstance)) (fe_X12_readDraught 38) g_if (fun c6 => ?_) (fun c6 => ?_)
        · exact absurd ((f_0 (wr0_b hB nmF_5.2)).mp c6) (wrF_p nmF_5.1)
        · refine t_go (op := o_aload 66 0) (fe_X12_readDraught 65) (fun _ _ => rfl) ?_
          refine t_go (op := o_getI 69 11 8) (fe_X12_readDraught 66) (g_getI hS (show (lay 183).1 = 11 by decide) (by decide)) ?_
          rw [show (AT (rowI h 189 r) p (wrF TK (nmF TK p) p 0)).1 183 8 = nI (wrF TK (nmF TK p) p 0) from AT_8]
          refine t_ite (op := o_if 85 72 (fun x => x = 0) (fun _ => inferInstance)) (fe_X12_readDraught 69) g_if (fun c7 => ?_) (fun c7 => ?_)
          · exact absurd ((f_0 (wr0_b hB nmF_5.2)).mp c7) (wrF_p nmF_5.1)
          · refine t_go (op := o_goto 2) (fe_X12_readDraught 85) (fun _ _ => rfl) ?_
            exact r_drF hR hp (wr0_b hB nmF_5.2) (wrF_p nmF_5.1) hq
      · exact absurd ((nI_eq (b := 2) (by have := (hB p).1; omega) (by decide)).mpr (hg.resolve_left (fun q => c2 (by rw [q]; rfl)))) c5
  · exact absurd rfl c1
theorem r_dr5 {d : Nat} {h : AHP} {TK : Nat → Tk} {n p j : Nat} {r : Nat → Int32} (hR : RQ h TK n) (hp : p ≤ n) {x2 : Option Value} (hj : j ≤ 12) (hg : j = 0 ∨ (TK p).1 = 2) (hN : nuP TK 0 9 p 0) (h12 : j = 12) {Q : Option Value → AHP → Prop} (hq : Q none (AT (rowI h 189 (fup r 51 (nI j))) p (wrF TK 5 p 0))) : TT (d + 2) 186 2 [some (.ref 183), some (.int (nI j)), x2] [] (AT (rowI h 189 r) p 0) Q := by
  have hR1 := RQ_row (r := r) hR
  have hS := hR1.1
  have hB := hR.2.2.2.1
  have hn := hR.2.2.1
  refine t_go (op := o_aload 3 0) (fe_X12_readDraught 2) (fun _ _ => rfl) ?_
  refine t_go (op := o_getI 6 11 8) (fe_X12_readDraught 3) (g_getI hS (show (lay 183).1 = 11 by decide) (by decide)) ?_
  rw [show (AT (rowI h 189 r) p 0).1 183 8 = nI 0 from AT_8]
  refine t_ite (op := o_if 88 9 (fun x => x = 0) (fun _ => inferInstance)) (fe_X12_readDraught 6) g_if (fun c1 => ?_) (fun c1 => ?_)
  · refine t_go (op := o_iload 10 1) (fe_X12_readDraught 9) (fun _ _ => rfl) ?_
    refine t_ite (op := o_if 13 26 (fun x => x = 0) (fun _ => inferInstance)) (fe_X12_readDraught 10) g_if (fun c2 => ?_) (fun c2 => ?_)
    · refine t_go (op := o_aload 27 0) (fe_X12_readDraught 26) (fun _ _ => rfl) ?_
      refine t_go (op := o_ci 28 0) (fe_X12_readDraught 27) (fun _ _ => rfl) ?_
      refine t_go (op := o_ci 30 9) (fe_X12_readDraught 28) (fun _ _ => rfl) ?_
      refine t_call (op := o_callV 33 175 3 11) (fe_X12_readDraught 30) (g_callV hS (show (lay 183).1 = 11 by decide) (by decide) rfl rfl rfl (Nat.le_of_ble_eq_true rfl)) ?_
      refine M_eq (r_takeNumberY (lo := 0) (hi2 := 9) hR1 hp (by decide) (by decide) hN) ?_
      refine t_go (op := o_istore 34 2) (fe_X12_readDraught 33) (fun _ _ => rfl) ?_
      refine t_go (op := o_aload 35 0) (fe_X12_readDraught 34) (fun _ _ => rfl) ?_
      refine t_go (op := o_getI 38 11 8) (fe_X12_readDraught 35) (g_getI hS (show (lay 183).1 = 11 by decide) (by decide)) ?_
      rw [show (AT (rowI h 189 r) (p + 1) 0).1 183 8 = nI 0 from AT_8]
      refine t_ite (op := o_if 65 41 (fun x => x = 0) (fun _ => inferInstance)) (fe_X12_readDraught 38) g_if (fun c3 => ?_) (fun c3 => ?_)
      · refine t_go (op := o_iload 42 1) (fe_X12_readDraught 41) (fun _ _ => rfl) ?_
        refine t_go (op := o_ci 44 12) (fe_X12_readDraught 42) (fun _ _ => rfl) ?_
        refine t_ite (op := o_icmp 65 47 (fun x y => x = y) (fun _ _ => inferInstance)) (fe_X12_readDraught 44) g_icmp (fun c4 => ?_) (fun c4 => ?_)
        · refine t_go (op := o_aload 48 0) (fe_X12_readDraught 47) (fun _ _ => rfl) ?_
          refine t_go (op := o_dupA 49) (fe_X12_readDraught 48) (fun _ _ => rfl) ?_
          refine t_go (op := o_getI 52 11 7) (fe_X12_readDraught 49) (g_getI hS (show (lay 183).1 = 11 by decide) (by decide)) ?_
          rw [show (AT (rowI h 189 r) (p + 1) 0).1 183 7 = nI (p + 1) from AT_7]
          refine t_go (op := o_ci 53 1) (fe_X12_readDraught 52) (fun _ _ => rfl) ?_
          refine t_go (op := o_i2 54 (fun x y => x - y)) (fe_X12_readDraught 53) (fun _ _ => rfl) ?_
          refine t_go (op := o_putI 57 11 7) (fe_X12_readDraught 54) (g_putI hS (show (lay 183).1 = 11 by decide) (by decide)) ?_
          refine T_heap ((congrArg (sI (AT (rowI h 189 r) (p + 1) 0) 183 7) (show (fun x y : Int32 => x - y) (nI (p + 1)) 1 = nI p from (nIs (a := p + 1) (b := 1) rfl rfl (by omega)).trans (by rw [Nat.add_sub_cancel]))).trans AT_7s).symm ?_
          refine t_go (op := o_aload 58 0) (fe_X12_readDraught 57) (fun _ _ => rfl) ?_
          refine t_go (op := o_ci 59 5) (fe_X12_readDraught 58) (fun _ _ => rfl) ?_
          refine t_call (op := o_callV 62 166 2 11) (fe_X12_readDraught 59) (g_callV hS (show (lay 183).1 = 11 by decide) (by decide) rfl rfl rfl (Nat.le_of_ble_eq_true rfl)) ?_
          refine M_eq (r_wrong (c := 5) (f := 0) hR1 hp (by decide)) ?_
          refine t_go (op := o_goto 85) (fe_X12_readDraught 62) (fun _ _ => rfl) ?_
          refine t_go (op := o_goto 2) (fe_X12_readDraught 85) (fun _ _ => rfl) ?_
          exact r_drF hR hp (wr0_b hB (by decide)) (wrF_p (by decide)) hq
        · exact absurd (by rw [h12]; rfl) c4
      · exact absurd rfl c3
    · refine t_go (op := o_aload 14 0) (fe_X12_readDraught 13) (fun _ _ => rfl) ?_
      refine t_go (op := o_getR 17 11 4) (fe_X12_readDraught 14) (g_getR hS (show (lay 183).1 = 11 by decide) (by decide) (fr_11_4 hS) (by decide)) ?_
      refine t_go (op := o_aload 18 0) (fe_X12_readDraught 17) (fun _ _ => rfl) ?_
      refine t_go (op := o_getI 21 11 7) (fe_X12_readDraught 18) (g_getI hS (show (lay 183).1 = 11 by decide) (by decide)) ?_
      rw [show (AT (rowI h 189 r) p 0).1 183 7 = nI p from AT_7]
      refine t_go (op := o_iald 22) (fe_X12_readDraught 21) (g_ialdN hS (show lay 185 = (20, 1002) by decide) rfl (by omega) (by decide)) ?_
      rw [show (AT (rowI h 189 r) p 0).1 185 p = nI (TK p).1 from (congrFun (AT_r (by decide)) p).trans (hR1.2.1 p hp).1]
      refine t_go (op := o_ci 23 2) (fe_X12_readDraught 22) (fun _ _ => rfl) ?_
      refine t_ite (op := o_icmp 88 26 (fun x y => x = y) (fun _ _ => inferInstance)) (fe_X12_readDraught 23) g_icmp (fun c5 => ?_) (fun c5 => ?_)
      · refine t_go (op := o_aload 27 0) (fe_X12_readDraught 26) (fun _ _ => rfl) ?_
        refine t_go (op := o_ci 28 0) (fe_X12_readDraught 27) (fun _ _ => rfl) ?_
        refine t_go (op := o_ci 30 9) (fe_X12_readDraught 28) (fun _ _ => rfl) ?_
        refine t_call (op := o_callV 33 175 3 11) (fe_X12_readDraught 30) (g_callV hS (show (lay 183).1 = 11 by decide) (by decide) rfl rfl rfl (Nat.le_of_ble_eq_true rfl)) ?_
        refine M_eq (r_takeNumberY (lo := 0) (hi2 := 9) hR1 hp (by decide) (by decide) hN) ?_
        refine t_go (op := o_istore 34 2) (fe_X12_readDraught 33) (fun _ _ => rfl) ?_
        refine t_go (op := o_aload 35 0) (fe_X12_readDraught 34) (fun _ _ => rfl) ?_
        refine t_go (op := o_getI 38 11 8) (fe_X12_readDraught 35) (g_getI hS (show (lay 183).1 = 11 by decide) (by decide)) ?_
        rw [show (AT (rowI h 189 r) (p + 1) 0).1 183 8 = nI 0 from AT_8]
        refine t_ite (op := o_if 65 41 (fun x => x = 0) (fun _ => inferInstance)) (fe_X12_readDraught 38) g_if (fun c6 => ?_) (fun c6 => ?_)
        · refine t_go (op := o_iload 42 1) (fe_X12_readDraught 41) (fun _ _ => rfl) ?_
          refine t_go (op := o_ci 44 12) (fe_X12_readDraught 42) (fun _ _ => rfl) ?_
          refine t_ite (op := o_icmp 65 47 (fun x y => x = y) (fun _ _ => inferInstance)) (fe_X12_readDraught 44) g_icmp (fun c7 => ?_) (fun c7 => ?_)
          · refine t_go (op := o_aload 48 0) (fe_X12_readDraught 47) (fun _ _ => rfl) ?_
            refine t_go (op := o_dupA 49) (fe_X12_readDraught 48) (fun _ _ => rfl) ?_
            refine t_go (op := o_getI 52 11 7) (fe_X12_readDraught 49) (g_getI hS (show (lay 183).1 = 11 by decide) (by decide)) ?_
            rw [show (AT (rowI h 189 r) (p + 1) 0).1 183 7 = nI (p + 1) from AT_7]
            refine t_go (op := o_ci 53 1) (fe_X12_readDraught 52) (fun _ _ => rfl) ?_
            refine t_go (op := o_i2 54 (fun x y => x - y)) (fe_X12_readDraught 53) (fun _ _ => rfl) ?_
            refine t_go (op := o_putI 57 11 7) (fe_X12_readDraught 54) (g_putI hS (show (lay 183).1 = 11 by decide) (by decide)) ?_
            refine T_heap ((congrArg (sI (AT (rowI h 189 r) (p + 1) 0) 183 7) (show (fun x y : Int32 => x - y) (nI (p + 1)) 1 = nI p from (nIs (a := p + 1) (b := 1) rfl rfl (by omega)).trans (by rw [Nat.add_sub_cancel]))).trans AT_7s).symm ?_
            refine t_go (op := o_aload 58 0) (fe_X12_readDraught 57) (fun _ _ => rfl) ?_
            refine t_go (op := o_ci 59 5) (fe_X12_readDraught 58) (fun _ _ => rfl) ?_
            refine t_call (op := o_callV 62 166 2 11) (fe_X12_readDraught 59) (g_callV hS (show (lay 183).1 = 11 by decide) (by decide) rfl rfl rfl (Nat.le_of_ble_eq_true rfl)) ?_
            refine M_eq (r_wrong (c := 5) (f := 0) hR1 hp (by decide)) ?_
            refine t_go (op := o_goto 85) (fe_X12_readDraught 62) (fun _ _ => rfl) ?_
            refine t_go (op := o_goto 2) (fe_X12_readDraught 85) (fun _ _ => rfl) ?_
            exact r_drF hR hp (wr0_b hB (by decide)) (wrF_p (by decide)) hq
          · exact absurd (by rw [h12]; rfl) c7
        · exact absurd rfl c6
      · exact absurd ((nI_eq (b := 2) (by have := (hB p).1; omega) (by decide)).mpr (hg.resolve_left (fun q => c2 (by rw [q]; rfl)))) c5
  · exact absurd rfl c1
theorem r_drY {d : Nat} {h : AHP} {TK : Nat → Tk} {n p j : Nat} {r : Nat → Int32} (hR : RQ h TK n) (hp : p ≤ n) {x2 : Option Value} (hj : j ≤ 12) (hg : j = 0 ∨ (TK p).1 = 2) (hN : nuP TK 0 9 p 0) (h12 : ¬ j = 12) {Q : Option Value → AHP → Prop} (hq : ∀ x, TT (d + 2) 186 2 [some (.ref 183), some (.int (nI (j + 1))), x] [] (AT (rowI h 189 (fup r (82 + j) (nI (TK p).2.2.1))) (p + 1) 0) Q) : TT (d + 2) 186 2 [some (.ref 183), some (.int (nI j)), x2] [] (AT (rowI h 189 r) p 0) Q := by
  have hR1 := RQ_row (r := r) hR
  have hS := hR1.1
  have hB := hR.2.2.2.1
  have hn := hR.2.2.1
  refine t_go (op := o_aload 3 0) (fe_X12_readDraught 2) (fun _ _ => rfl) ?_
  refine t_go (op := o_getI 6 11 8) (fe_X12_readDraught 3) (g_getI hS (show (lay 183).1 = 11 by decide) (by decide)) ?_
  rw [show (AT (rowI h 189 r) p 0).1 183 8 = nI 0 from AT_8]
  refine t_ite (op := o_if 88 9 (fun x => x = 0) (fun _ => inferInstance)) (fe_X12_readDraught 6) g_if (fun c1 => ?_) (fun c1 => ?_)
  · refine t_go (op := o_iload 10 1) (fe_X12_readDraught 9) (fun _ _ => rfl) ?_
    refine t_ite (op := o_if 13 26 (fun x => x = 0) (fun _ => inferInstance)) (fe_X12_readDraught 10) g_if (fun c2 => ?_) (fun c2 => ?_)
    · refine t_go (op := o_aload 27 0) (fe_X12_readDraught 26) (fun _ _ => rfl) ?_
      refine t_go (op := o_ci 28 0) (fe_X12_readDraught 27) (fun _ _ => rfl) ?_
      refine t_go (op := o_ci 30 9) (fe_X12_readDraught 28) (fun _ _ => rfl) ?_
      refine t_call (op := o_callV 33 175 3 11) (fe_X12_readDraught 30) (g_callV hS (show (lay 183).1 = 11 by decide) (by decide) rfl rfl rfl (Nat.le_of_ble_eq_true rfl)) ?_
      refine M_eq (r_takeNumberY (lo := 0) (hi2 := 9) hR1 hp (by decide) (by decide) hN) ?_
      refine t_go (op := o_istore 34 2) (fe_X12_readDraught 33) (fun _ _ => rfl) ?_
      refine t_go (op := o_aload 35 0) (fe_X12_readDraught 34) (fun _ _ => rfl) ?_
      refine t_go (op := o_getI 38 11 8) (fe_X12_readDraught 35) (g_getI hS (show (lay 183).1 = 11 by decide) (by decide)) ?_
      rw [show (AT (rowI h 189 r) (p + 1) 0).1 183 8 = nI 0 from AT_8]
      refine t_ite (op := o_if 65 41 (fun x => x = 0) (fun _ => inferInstance)) (fe_X12_readDraught 38) g_if (fun c3 => ?_) (fun c3 => ?_)
      · refine t_go (op := o_iload 42 1) (fe_X12_readDraught 41) (fun _ _ => rfl) ?_
        refine t_go (op := o_ci 44 12) (fe_X12_readDraught 42) (fun _ _ => rfl) ?_
        refine t_ite (op := o_icmp 65 47 (fun x y => x = y) (fun _ _ => inferInstance)) (fe_X12_readDraught 44) g_icmp (fun c4 => ?_) (fun c4 => ?_)
        · exact absurd ((nI_eq (b := 12) (by omega) (by decide)).mp c4) h12
        · refine t_go (op := o_aload 66 0) (fe_X12_readDraught 65) (fun _ _ => rfl) ?_
          refine t_go (op := o_getI 69 11 8) (fe_X12_readDraught 66) (g_getI hS (show (lay 183).1 = 11 by decide) (by decide)) ?_
          rw [show (AT (rowI h 189 r) (p + 1) 0).1 183 8 = nI 0 from AT_8]
          refine t_ite (op := o_if 85 72 (fun x => x = 0) (fun _ => inferInstance)) (fe_X12_readDraught 69) g_if (fun c5 => ?_) (fun c5 => ?_)
          · refine t_go (op := o_aload 73 0) (fe_X12_readDraught 72) (fun _ _ => rfl) ?_
            refine t_go (op := o_getR 76 11 10) (fe_X12_readDraught 73) (g_getR hS (show (lay 183).1 = 11 by decide) (by decide) (fr_11_10 hS) (by decide)) ?_
            refine t_go (op := o_ci 78 82) (fe_X12_readDraught 76) (fun _ _ => rfl) ?_
            refine t_go (op := o_iload 79 1) (fe_X12_readDraught 78) (fun _ _ => rfl) ?_
            refine t_go (op := o_i2 80 (fun x y => x + y)) (fe_X12_readDraught 79) (fun _ _ => rfl) ?_
            refine t_go (op := o_iload 81 2) (fe_X12_readDraught 80) (fun _ _ => rfl) ?_
            refine t_go (op := o_iast 82) (fe_X12_readDraught 81) (g_iastN hS (show lay 189 = (20, 100) by decide) (nIa (nIl 82) rfl) (by omega) (by decide)) ?_
            refine T_heap (show AT (rowI h 189 (fup r (82 + j) (nI (TK p).2.2.1))) (p + 1) 0 = sI (AT (rowI h 189 r) (p + 1) 0) 189 (82 + j) (nI (TK p).2.2.1) from by rw [sI_AT (by decide), rowI_up]) ?_
            refine t_go (op := o_iinc 85 1 1) (fe_X12_readDraught 82) (fun _ _ => rfl) ?_
            refine t_go (op := o_goto 2) (fe_X12_readDraught 85) (fun _ _ => rfl) ?_
            rw [nI_1]
            exact hq _
          · exact absurd rfl c5
      · exact absurd rfl c3
    · refine t_go (op := o_aload 14 0) (fe_X12_readDraught 13) (fun _ _ => rfl) ?_
      refine t_go (op := o_getR 17 11 4) (fe_X12_readDraught 14) (g_getR hS (show (lay 183).1 = 11 by decide) (by decide) (fr_11_4 hS) (by decide)) ?_
      refine t_go (op := o_aload 18 0) (fe_X12_readDraught 17) (fun _ _ => rfl) ?_
      refine t_go (op := o_getI 21 11 7) (fe_X12_readDraught 18) (g_getI hS (show (lay 183).1 = 11 by decide) (by decide)) ?_
      rw [show (AT (rowI h 189 r) p 0).1 183 7 = nI p from AT_7]
      refine t_go (op := o_iald 22) (fe_X12_readDraught 21) (g_ialdN hS (show lay 185 = (20, 1002) by decide) rfl (by omega) (by decide)) ?_
      rw [show (AT (rowI h 189 r) p 0).1 185 p = nI (TK p).1 from (congrFun (AT_r (by decide)) p).trans (hR1.2.1 p hp).1]
      refine t_go (op := o_ci 23 2) (fe_X12_readDraught 22) (fun _ _ => rfl) ?_
      refine t_ite (op := o_icmp 88 26 (fun x y => x = y) (fun _ _ => inferInstance)) (fe_X12_readDraught 23) g_icmp (fun c6 => ?_) (fun c6 => ?_)
      · refine t_go (op := o_aload 27 0) (fe_X12_readDraught 26) (fun _ _ => rfl) ?_
        refine t_go (op := o_ci 28 0) (fe_X12_readDraught 27) (fun _ _ => rfl) ?_
        refine t_go (op := o_ci 30 9) (fe_X12_readDraught 28) (fun _ _ => rfl) ?_
        refine t_call (op := o_callV 33 175 3 11) (fe_X12_readDraught 30) (g_callV hS (show (lay 183).1 = 11 by decide) (by decide) rfl rfl rfl (Nat.le_of_ble_eq_true rfl)) ?_
        refine M_eq (r_takeNumberY (lo := 0) (hi2 := 9) hR1 hp (by decide) (by decide) hN) ?_
        refine t_go (op := o_istore 34 2) (fe_X12_readDraught 33) (fun _ _ => rfl) ?_
        refine t_go (op := o_aload 35 0) (fe_X12_readDraught 34) (fun _ _ => rfl) ?_
        refine t_go (op := o_getI 38 11 8) (fe_X12_readDraught 35) (g_getI hS (show (lay 183).1 = 11 by decide) (by decide)) ?_
        rw [show (AT (rowI h 189 r) (p + 1) 0).1 183 8 = nI 0 from AT_8]
        refine t_ite (op := o_if 65 41 (fun x => x = 0) (fun _ => inferInstance)) (fe_X12_readDraught 38) g_if (fun c7 => ?_) (fun c7 => ?_)
        · refine t_go (op := o_iload 42 1) (fe_X12_readDraught 41) (fun _ _ => rfl) ?_
          refine t_go (op := o_ci 44 12) (fe_X12_readDraught 42) (fun _ _ => rfl) ?_
          refine t_ite (op := o_icmp 65 47 (fun x y => x = y) (fun _ _ => inferInstance)) (fe_X12_readDraught 44) g_icmp (fun c8 => ?_) (fun c8 => ?_)
          · exact absurd ((nI_eq (b := 12) (by omega) (by decide)).mp c8) h12
          · refine t_go (op := o_aload 66 0) (fe_X12_readDraught 65) (fun _ _ => rfl) ?_
            refine t_go (op := o_getI 69 11 8) (fe_X12_readDraught 66) (g_getI hS (show (lay 183).1 = 11 by decide) (by decide)) ?_
            rw [show (AT (rowI h 189 r) (p + 1) 0).1 183 8 = nI 0 from AT_8]
            refine t_ite (op := o_if 85 72 (fun x => x = 0) (fun _ => inferInstance)) (fe_X12_readDraught 69) g_if (fun c9 => ?_) (fun c9 => ?_)
            · refine t_go (op := o_aload 73 0) (fe_X12_readDraught 72) (fun _ _ => rfl) ?_
              refine t_go (op := o_getR 76 11 10) (fe_X12_readDraught 73) (g_getR hS (show (lay 183).1 = 11 by decide) (by decide) (fr_11_10 hS) (by decide)) ?_
              refine t_go (op := o_ci 78 82) (fe_X12_readDraught 76) (fun _ _ => rfl) ?_
              refine t_go (op := o_iload 79 1) (fe_X12_readDraught 78) (fun _ _ => rfl) ?_
              refine t_go (op := o_i2 80 (fun x y => x + y)) (fe_X12_readDraught 79) (fun _ _ => rfl) ?_
              refine t_go (op := o_iload 81 2) (fe_X12_readDraught 80) (fun _ _ => rfl) ?_
              refine t_go (op := o_iast 82) (fe_X12_readDraught 81) (g_iastN hS (show lay 189 = (20, 100) by decide) (nIa (nIl 82) rfl) (by omega) (by decide)) ?_
              refine T_heap (show AT (rowI h 189 (fup r (82 + j) (nI (TK p).2.2.1))) (p + 1) 0 = sI (AT (rowI h 189 r) (p + 1) 0) 189 (82 + j) (nI (TK p).2.2.1) from by rw [sI_AT (by decide), rowI_up]) ?_
              refine t_go (op := o_iinc 85 1 1) (fe_X12_readDraught 82) (fun _ _ => rfl) ?_
              refine t_go (op := o_goto 2) (fe_X12_readDraught 85) (fun _ _ => rfl) ?_
              rw [nI_1]
              exact hq _
            · exact absurd rfl c9
        · exact absurd rfl c7
      · exact absurd ((nI_eq (b := 2) (by have := (hB p).1; omega) (by decide)).mpr (hg.resolve_left (fun q => c2 (by rw [q]; rfl)))) c6
  · exact absurd rfl c1
theorem r_drL {d : Nat} {h : AHP} {TK : Nat → Tk} {n : Nat} (hR : RQ h TK n) (hE : (TK n).1 = 0) {Q : Option Value → AHP → Prop} : ∀ (k j p : Nat) (r : Nat → Int32) (x2 : Option Value), j + k = 13 → j ≤ 12 → p ≤ n → ((dS TK k p j).2.1 ≤ n → (dS TK k p j).1 < 100000 → Q none (AT (rowI h 189 (fup (drW r (82 + j) (dS TK k p j).2.2) 51 (nI (j + (dS TK k p j).2.2.length)))) (dS TK k p j).2.1 (dS TK k p j).1)) → TT (d + 2) 186 2 [some (.ref 183), some (.int (nI j)), x2] [] (AT (rowI h 189 r) p 0) Q := by
  intro k
  have hB := hR.2.2.2.1
  induction k with
  | zero => intro j p r x2 h1 h2; omega
  | succ k ih =>
    intro j p r x2 h1 hj hp hq
    rw [dS] at hq
    by_cases c1 : ¬ j = 0 ∧ ¬ (TK p).1 = 2
    · rw [cI_t c1] at hq
      exact r_drE hR hp c1.1 hj c1.2 (hq hp (show 0 < 100000 by decide))
    rw [cI_f c1] at hq
    have hg : j = 0 ∨ (TK p).1 = 2 := by
      by_cases q : j = 0
      · exact Or.inl q
      · exact Or.inr (Classical.byContradiction fun q2 => c1 ⟨q, q2⟩)
    by_cases c2 : ¬ nuP TK 0 9 p 0
    · rw [cI_t c2] at hq
      exact r_drN hR hp hj hg c2 (hq hp (wr0_b hB nmF_5.2))
    rw [cI_f c2] at hq
    have c2' := Classical.not_not.mp c2
    by_cases c3 : j = 12
    · rw [cI_t c3] at hq
      exact r_dr5 hR hp hj hg c2' c3 (hq hp (wr0_b hB (by decide)))
    rw [cI_f c3] at hq
    refine r_drY hR hp hj hg c2' c3 (fun x => ih (j + 1) (p + 1) _ x (by omega) (by omega) (lt_end hE hp (by rw [c2'.2.1]; decide)) (fun q1 q2 => ?_))
    have q3 := hq q1 q2
    rw [show j + ((TK p).2.2.1 :: (dS TK k (p + 1) (j + 1)).2.2).length = j + 1 + (dS TK k (p + 1) (j + 1)).2.2.length by rw [List.length_cons]; omega] at q3
    exact q3
theorem r_readDraught {d : Nat} {h : AHP} {TK : Nat → Tk} {n p : Nat} (hR : RQ h TK n) (hE : (TK n).1 = 0) (hp : p ≤ n) : MM (d + 2) 186 [.ref 183] (AT h p 0) (fun v h2 => v = none ∧ h2 = AT (rowI h 189 (fup (drW (h.1 189) 82 (dS TK 13 p 0).2.2) 51 (nI (dS TK 13 p 0).2.2.length))) (dS TK 13 p 0).2.1 (dS TK 13 p 0).1 ∧ (dS TK 13 p 0).2.1 ≤ n ∧ (dS TK 13 p 0).1 < 100000) := by
  refine ⟨Nat.le_of_ble_eq_true rfl, ?_⟩
  refine t_go (op := o_ci 1 0) (fe_X12_readDraught 0) (fun _ _ => rfl) ?_
  refine t_go (op := o_istore 2 1) (fe_X12_readDraught 1) (fun _ _ => rfl) ?_
  have q := r_drL (d := d) hR hE (Q := fun v h2 => v = none ∧ h2 = AT (rowI h 189 (fup (drW (h.1 189) 82 (dS TK 13 p 0).2.2) 51 (nI (dS TK 13 p 0).2.2.length))) (dS TK 13 p 0).2.1 (dS TK 13 p 0).1 ∧ (dS TK 13 p 0).2.1 ≤ n ∧ (dS TK 13 p 0).1 < 100000) 13 0 p (h.1 189) none rfl (by decide) hp (fun q1 q2 => ⟨rfl, by rw [Nat.zero_add], q1, q2⟩)
  rw [rowI_id] at q
  exact q
