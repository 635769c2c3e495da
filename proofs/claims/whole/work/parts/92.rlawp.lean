/-! ===== the reference reads a law: a part ===== -/
theorem w_pF {d : Nat} {h0 h : AHP} {TK : Nat → Tk} {n dep : Nat} {s : St} {Q : Option Value → AHP → Prop} (hR : RQ h0 TK n) (hs : RS h0 h s) (hk : okR TK n s) (hf0 : ¬ s.2.1 = 0) (hq : Q none h) : MM (d + 4) 193 [.ref 183, .int (nI dep)] h (fun v h2 => Q v h2) := by
  refine ⟨Nat.le_of_ble_eq_true rfl, ?_⟩
  have hS := hs.std hR.1
  refine t_go (op := o_aload 1 0) (fe_X12_takePart 0) (fun _ _ => rfl) ?_
  refine t_go (op := o_getI 4 11 8) (fe_X12_takePart 1) (g_getI hS (show (lay 183).1 = 11 by decide) (by decide)) ?_
  rw [show h.1 183 8 = nI s.2.1 from hs.2.2.1]
  refine t_ite (op := o_if 7 8 (fun x => x ≤ 0) (fun _ => inferInstance)) (fe_X12_takePart 4) g_if (fun c1 => ?_) (fun c1 => ?_)
  · exact absurd ((le_0 hk.2.1).mp c1) hf0
  · refine t_ret (op := o_vret) (fe_X12_takePart 7) (fun _ _ => rfl) ?_
    exact hq
theorem w_p1 {d : Nat} {h0 h : AHP} {TK : Nat → Tk} {n dep : Nat} {s : St} {Q : Option Value → AHP → Prop} (hR : RQ h0 TK n) (hs : RS h0 h s) (hk : okR TK n s) (hf0 : s.2.1 = 0) (hb : ¬ (numP TK s ∨ facP TK s ∨ notP TK s ∨ parP TK s)) (hq : ∀ h2, RS h0 h2 (wrS TK 1 s) → Q none h2) : MM (d + 4) 193 [.ref 183, .int (nI dep)] h (fun v h2 => Q v h2) := by
  refine ⟨Nat.le_of_ble_eq_true rfl, ?_⟩
  have hS := hs.std hR.1
  have hi : s.1 ≤ n := hk.1
  have hn := hR.2.2.1
  have hB := hR.2.2.2.1 s.1
  have nq : nI (TK s.1).1 = 2 ↔ (TK s.1).1 = 2 := nI_eq (b := 2) (by have := hB.1; omega) (by decide)
  refine t_go (op := o_aload 1 0) (fe_X12_takePart 0) (fun _ _ => rfl) ?_
  refine t_go (op := o_getI 4 11 8) (fe_X12_takePart 1) (g_getI hS (show (lay 183).1 = 11 by decide) (by decide)) ?_
  rw [show h.1 183 8 = nI s.2.1 from hs.2.2.1]
  refine t_ite (op := o_if 7 8 (fun x => x ≤ 0) (fun _ => inferInstance)) (fe_X12_takePart 4) g_if (fun c1 => ?_) (fun c1 => ?_)
  · refine t_go (op := o_aload 9 0) (fe_X12_takePart 8) (fun _ _ => rfl) ?_
    refine t_go (op := o_getR 12 11 4) (fe_X12_takePart 9) (g_getR hS (show (lay 183).1 = 11 by decide) (by decide) (fr_11_4 hS) (by decide)) ?_
    refine t_go (op := o_aload 13 0) (fe_X12_takePart 12) (fun _ _ => rfl) ?_
    refine t_go (op := o_getI 16 11 7) (fe_X12_takePart 13) (g_getI hS (show (lay 183).1 = 11 by decide) (by decide)) ?_
    rw [show h.1 183 7 = nI s.1 from hs.2.1]
    refine t_go (op := o_iald 17) (fe_X12_takePart 16) (g_ialdN hS (show lay 185 = (20, 1002) by decide) rfl (by omega) (by decide)) ?_
    rw [show h.1 185 s.1 = nI (TK s.1).1 from ((hs.rq hR).2.1 s.1 hk.1).1]
    refine t_go (op := o_ci 18 2) (fe_X12_takePart 17) (fun _ _ => rfl) ?_
    refine t_ite (op := o_icmp 25 21 (fun x y => x = y) (fun _ _ => inferInstance)) (fe_X12_takePart 18) g_icmp (fun c2 => ?_) (fun c2 => ?_)
    · exact absurd (Or.inl (nq.mp c2)) hb
    · refine t_go (op := o_ci 26 0) (fe_X12_takePart 25) (fun _ _ => rfl) ?_
      refine t_go (op := o_istore 27 2) (fe_X12_takePart 26) (fun _ _ => rfl) ?_
      refine t_go (op := o_aload 28 0) (fe_X12_takePart 27) (fun _ _ => rfl) ?_
      refine t_go (op := o_ci 30 19) (fe_X12_takePart 28) (fun _ _ => rfl) ?_
      refine t_go (op := o_ci 31 4) (fe_X12_takePart 30) (fun _ _ => rfl) ?_
      refine t_call (op := o_callV 34 177 3 11) (fe_X12_takePart 31) (g_callV hS (show (lay 183).1 = 11 by decide) (by decide) rfl rfl rfl (Nat.le_of_ble_eq_true rfl)) ?_
      refine M_eq (w_wordHere (b := 19) (cnt := 4) hR hs hk (by decide)) ?_
      refine t_go (op := o_istore 35 3) (fe_X12_takePart 34) (fun _ _ => rfl) ?_
      refine t_go (op := o_iload 36 3) (fe_X12_takePart 35) (fun _ _ => rfl) ?_
      refine t_ite (op := o_if 39 69 (fun x => 0 ≤ x) (fun _ => inferInstance)) (fe_X12_takePart 36) g_if (fun c3 => ?_) (fun c3 => ?_)
      · exact absurd (Or.inr (Or.inl ((whV_n hB).mp c3))) hb
      · refine t_go (op := o_iload 40 2) (fe_X12_takePart 39) (fun _ _ => rfl) ?_
        refine t_ite (op := o_if 69 43 (fun x => x = 0) (fun _ => inferInstance)) (fe_X12_takePart 40) g_if (fun c4 => ?_) (fun c4 => ?_)
        · clear c4
          refine t_go (op := o_aload 44 0) (fe_X12_takePart 43) (fun _ _ => rfl) ?_
          refine t_go (op := o_ci 46 40) (fe_X12_takePart 44) (fun _ _ => rfl) ?_
          refine t_call (op := o_callV 49 167 2 11) (fe_X12_takePart 46) (g_callV hS (show (lay 183).1 = 11 by decide) (by decide) rfl rfl rfl (Nat.le_of_ble_eq_true rfl)) ?_
          refine M_eq (w_isSign (c := 40) hR hs hk (by decide)) ?_
          refine t_ite (op := o_if 69 52 (fun x => x = 0) (fun _ => inferInstance)) (fe_X12_takePart 49) g_if (fun c5 => ?_) (fun c5 => ?_)
          · replace c5 := b2i_z c5
            refine t_go (op := o_aload 53 0) (fe_X12_takePart 52) (fun _ _ => rfl) ?_
            refine t_go (op := o_ci 55 16) (fe_X12_takePart 53) (fun _ _ => rfl) ?_
            refine t_call (op := o_callV 58 168 2 11) (fe_X12_takePart 55) (g_callV hS (show (lay 183).1 = 11 by decide) (by decide) rfl rfl rfl (Nat.le_of_ble_eq_true rfl)) ?_
            refine M_eq (w_isWord (c := 16) hR hs hk (by decide)) ?_
            refine t_ite (op := o_if 69 61 (fun x => x = 0) (fun _ => inferInstance)) (fe_X12_takePart 58) g_if (fun c6 => ?_) (fun c6 => ?_)
            · replace c6 := b2i_z c6
              refine t_go (op := o_aload 62 0) (fe_X12_takePart 61) (fun _ _ => rfl) ?_
              refine t_go (op := o_ci 63 1) (fe_X12_takePart 62) (fun _ _ => rfl) ?_
              refine t_call (op := o_callV 66 166 2 11) (fe_X12_takePart 63) (g_callV hS (show (lay 183).1 = 11 by decide) (by decide) rfl rfl rfl (Nat.le_of_ble_eq_true rfl)) ?_
              refine M_mono ?_ (w_wrong (c := 1) hR hs hk)
              rintro _ k2 ⟨rfl, hs2⟩
              replace hS := RS.std hR.1 hs2
              refine t_go (op := o_goto 79) (fe_X12_takePart 66) (fun _ _ => rfl) ?_
              refine t_go (op := o_aload 80 0) (fe_X12_takePart 79) (fun _ _ => rfl) ?_
              refine t_go (op := o_getI 83 11 8) (fe_X12_takePart 80) (g_getI hS (show (lay 183).1 = 11 by decide) (by decide)) ?_
              rw [show k2.1 183 8 = nI (wrF TK 1 s.1 s.2.1) from hs2.2.2.1]
              refine t_ite (op := o_if 86 87 (fun x => x ≤ 0) (fun _ => inferInstance)) (fe_X12_takePart 83) g_if (fun c7 => ?_) (fun c7 => ?_)
              · exact absurd ((le_0 (wrF_b hR.2.2.2.1 hk.2.1 (by decide))).mp c7) (by rw [hf0]; exact wrF_p (by decide))
              · refine t_ret (op := o_vret) (fe_X12_takePart 86) (fun _ _ => rfl) ?_
                exact hq _ hs2
            · exact absurd (Or.inr (Or.inr (Or.inl (b2i_nn c6)))) hb
          · exact absurd (Or.inr (Or.inr (Or.inr (b2i_nn c5)))) hb
        · exact absurd (by decide) c4
  · exact absurd ((le_0 hk.2.1).mpr hf0) c1
theorem w_p2 {d : Nat} {h0 h : AHP} {TK : Nat → Tk} {n dep : Nat} {s : St} {Q : Option Value → AHP → Prop} (hR : RQ h0 TK n) (hs : RS h0 h s) (hk : okR TK n s) (hf0 : s.2.1 = 0) (hg : numP TK s ∨ facP TK s ∨ notP TK s ∨ parP TK s) (hd : dep = 5) (hq : ∀ h2, RS h0 h2 (wrS TK 5 s) → Q none h2) : MM (d + 4) 193 [.ref 183, .int (nI dep)] h (fun v h2 => Q v h2) := by
  refine ⟨Nat.le_of_ble_eq_true rfl, ?_⟩
  have hS := hs.std hR.1
  have hi : s.1 ≤ n := hk.1
  have hn := hR.2.2.1
  have hB := hR.2.2.2.1 s.1
  have nq : nI (TK s.1).1 = 2 ↔ (TK s.1).1 = 2 := nI_eq (b := 2) (by have := hB.1; omega) (by decide)
  refine t_go (op := o_aload 1 0) (fe_X12_takePart 0) (fun _ _ => rfl) ?_
  refine t_go (op := o_getI 4 11 8) (fe_X12_takePart 1) (g_getI hS (show (lay 183).1 = 11 by decide) (by decide)) ?_
  rw [show h.1 183 8 = nI s.2.1 from hs.2.2.1]
  refine t_ite (op := o_if 7 8 (fun x => x ≤ 0) (fun _ => inferInstance)) (fe_X12_takePart 4) g_if (fun c1 => ?_) (fun c1 => ?_)
  · refine t_go (op := o_aload 9 0) (fe_X12_takePart 8) (fun _ _ => rfl) ?_
    refine t_go (op := o_getR 12 11 4) (fe_X12_takePart 9) (g_getR hS (show (lay 183).1 = 11 by decide) (by decide) (fr_11_4 hS) (by decide)) ?_
    refine t_go (op := o_aload 13 0) (fe_X12_takePart 12) (fun _ _ => rfl) ?_
    refine t_go (op := o_getI 16 11 7) (fe_X12_takePart 13) (g_getI hS (show (lay 183).1 = 11 by decide) (by decide)) ?_
    rw [show h.1 183 7 = nI s.1 from hs.2.1]
    refine t_go (op := o_iald 17) (fe_X12_takePart 16) (g_ialdN hS (show lay 185 = (20, 1002) by decide) rfl (by omega) (by decide)) ?_
    rw [show h.1 185 s.1 = nI (TK s.1).1 from ((hs.rq hR).2.1 s.1 hk.1).1]
    refine t_go (op := o_ci 18 2) (fe_X12_takePart 17) (fun _ _ => rfl) ?_
    refine t_ite (op := o_icmp 25 21 (fun x y => x = y) (fun _ _ => inferInstance)) (fe_X12_takePart 18) g_icmp (fun c2 => ?_) (fun c2 => ?_)
    · refine t_go (op := o_ci 22 1) (fe_X12_takePart 21) (fun _ _ => rfl) ?_
      refine t_go (op := o_goto 26) (fe_X12_takePart 22) (fun _ _ => rfl) ?_
      refine t_go (op := o_istore 27 2) (fe_X12_takePart 26) (fun _ _ => rfl) ?_
      refine t_go (op := o_aload 28 0) (fe_X12_takePart 27) (fun _ _ => rfl) ?_
      refine t_go (op := o_ci 30 19) (fe_X12_takePart 28) (fun _ _ => rfl) ?_
      refine t_go (op := o_ci 31 4) (fe_X12_takePart 30) (fun _ _ => rfl) ?_
      refine t_call (op := o_callV 34 177 3 11) (fe_X12_takePart 31) (g_callV hS (show (lay 183).1 = 11 by decide) (by decide) rfl rfl rfl (Nat.le_of_ble_eq_true rfl)) ?_
      refine M_eq (w_wordHere (b := 19) (cnt := 4) hR hs hk (by decide)) ?_
      refine t_go (op := o_istore 35 3) (fe_X12_takePart 34) (fun _ _ => rfl) ?_
      refine t_go (op := o_iload 36 3) (fe_X12_takePart 35) (fun _ _ => rfl) ?_
      refine t_ite (op := o_if 39 69 (fun x => 0 ≤ x) (fun _ => inferInstance)) (fe_X12_takePart 36) g_if (fun c3 => ?_) (fun c3 => ?_)
      · refine t_go (op := o_iload 70 1) (fe_X12_takePart 69) (fun _ _ => rfl) ?_
        refine t_go (op := o_ci 71 5) (fe_X12_takePart 70) (fun _ _ => rfl) ?_
        refine t_ite (op := o_icmp 79 74 (fun x y => x = y) (fun _ _ => inferInstance)) (fe_X12_takePart 71) g_icmp (fun c4 => ?_) (fun c4 => ?_)
        · refine t_go (op := o_aload 75 0) (fe_X12_takePart 74) (fun _ _ => rfl) ?_
          refine t_go (op := o_ci 76 5) (fe_X12_takePart 75) (fun _ _ => rfl) ?_
          refine t_call (op := o_callV 79 166 2 11) (fe_X12_takePart 76) (g_callV hS (show (lay 183).1 = 11 by decide) (by decide) rfl rfl rfl (Nat.le_of_ble_eq_true rfl)) ?_
          refine M_mono ?_ (w_wrong (c := 5) hR hs hk)
          rintro _ k2 ⟨rfl, hs2⟩
          replace hS := RS.std hR.1 hs2
          refine t_go (op := o_aload 80 0) (fe_X12_takePart 79) (fun _ _ => rfl) ?_
          refine t_go (op := o_getI 83 11 8) (fe_X12_takePart 80) (g_getI hS (show (lay 183).1 = 11 by decide) (by decide)) ?_
          rw [show k2.1 183 8 = nI (wrF TK 5 s.1 s.2.1) from hs2.2.2.1]
          refine t_ite (op := o_if 86 87 (fun x => x ≤ 0) (fun _ => inferInstance)) (fe_X12_takePart 83) g_if (fun c5 => ?_) (fun c5 => ?_)
          · exact absurd ((le_0 (wrF_b hR.2.2.2.1 hk.2.1 (by decide))).mp c5) (by rw [hf0]; exact wrF_p (by decide))
          · refine t_ret (op := o_vret) (fe_X12_takePart 86) (fun _ _ => rfl) ?_
            exact hq _ hs2
        · exact absurd (by rw [hd]; rfl) c4
      · refine t_go (op := o_iload 40 2) (fe_X12_takePart 39) (fun _ _ => rfl) ?_
        refine t_ite (op := o_if 69 43 (fun x => x = 0) (fun _ => inferInstance)) (fe_X12_takePart 40) g_if (fun c6 => ?_) (fun c6 => ?_)
        · exact absurd c6 (by decide)
        · clear c6
          refine t_go (op := o_iload 70 1) (fe_X12_takePart 69) (fun _ _ => rfl) ?_
          refine t_go (op := o_ci 71 5) (fe_X12_takePart 70) (fun _ _ => rfl) ?_
          refine t_ite (op := o_icmp 79 74 (fun x y => x = y) (fun _ _ => inferInstance)) (fe_X12_takePart 71) g_icmp (fun c7 => ?_) (fun c7 => ?_)
          · refine t_go (op := o_aload 75 0) (fe_X12_takePart 74) (fun _ _ => rfl) ?_
            refine t_go (op := o_ci 76 5) (fe_X12_takePart 75) (fun _ _ => rfl) ?_
            refine t_call (op := o_callV 79 166 2 11) (fe_X12_takePart 76) (g_callV hS (show (lay 183).1 = 11 by decide) (by decide) rfl rfl rfl (Nat.le_of_ble_eq_true rfl)) ?_
            refine M_mono ?_ (w_wrong (c := 5) hR hs hk)
            rintro _ k2 ⟨rfl, hs2⟩
            replace hS := RS.std hR.1 hs2
            refine t_go (op := o_aload 80 0) (fe_X12_takePart 79) (fun _ _ => rfl) ?_
            refine t_go (op := o_getI 83 11 8) (fe_X12_takePart 80) (g_getI hS (show (lay 183).1 = 11 by decide) (by decide)) ?_
            rw [show k2.1 183 8 = nI (wrF TK 5 s.1 s.2.1) from hs2.2.2.1]
            refine t_ite (op := o_if 86 87 (fun x => x ≤ 0) (fun _ => inferInstance)) (fe_X12_takePart 83) g_if (fun c8 => ?_) (fun c8 => ?_)
            · exact absurd ((le_0 (wrF_b hR.2.2.2.1 hk.2.1 (by decide))).mp c8) (by rw [hf0]; exact wrF_p (by decide))
            · refine t_ret (op := o_vret) (fe_X12_takePart 86) (fun _ _ => rfl) ?_
              exact hq _ hs2
          · exact absurd (by rw [hd]; rfl) c7
    · refine t_go (op := o_ci 26 0) (fe_X12_takePart 25) (fun _ _ => rfl) ?_
      refine t_go (op := o_istore 27 2) (fe_X12_takePart 26) (fun _ _ => rfl) ?_
      refine t_go (op := o_aload 28 0) (fe_X12_takePart 27) (fun _ _ => rfl) ?_
      refine t_go (op := o_ci 30 19) (fe_X12_takePart 28) (fun _ _ => rfl) ?_
      refine t_go (op := o_ci 31 4) (fe_X12_takePart 30) (fun _ _ => rfl) ?_
      refine t_call (op := o_callV 34 177 3 11) (fe_X12_takePart 31) (g_callV hS (show (lay 183).1 = 11 by decide) (by decide) rfl rfl rfl (Nat.le_of_ble_eq_true rfl)) ?_
      refine M_eq (w_wordHere (b := 19) (cnt := 4) hR hs hk (by decide)) ?_
      refine t_go (op := o_istore 35 3) (fe_X12_takePart 34) (fun _ _ => rfl) ?_
      refine t_go (op := o_iload 36 3) (fe_X12_takePart 35) (fun _ _ => rfl) ?_
      refine t_ite (op := o_if 39 69 (fun x => 0 ≤ x) (fun _ => inferInstance)) (fe_X12_takePart 36) g_if (fun c9 => ?_) (fun c9 => ?_)
      · refine t_go (op := o_iload 70 1) (fe_X12_takePart 69) (fun _ _ => rfl) ?_
        refine t_go (op := o_ci 71 5) (fe_X12_takePart 70) (fun _ _ => rfl) ?_
        refine t_ite (op := o_icmp 79 74 (fun x y => x = y) (fun _ _ => inferInstance)) (fe_X12_takePart 71) g_icmp (fun c10 => ?_) (fun c10 => ?_)
        · refine t_go (op := o_aload 75 0) (fe_X12_takePart 74) (fun _ _ => rfl) ?_
          refine t_go (op := o_ci 76 5) (fe_X12_takePart 75) (fun _ _ => rfl) ?_
          refine t_call (op := o_callV 79 166 2 11) (fe_X12_takePart 76) (g_callV hS (show (lay 183).1 = 11 by decide) (by decide) rfl rfl rfl (Nat.le_of_ble_eq_true rfl)) ?_
          refine M_mono ?_ (w_wrong (c := 5) hR hs hk)
          rintro _ k2 ⟨rfl, hs2⟩
          replace hS := RS.std hR.1 hs2
          refine t_go (op := o_aload 80 0) (fe_X12_takePart 79) (fun _ _ => rfl) ?_
          refine t_go (op := o_getI 83 11 8) (fe_X12_takePart 80) (g_getI hS (show (lay 183).1 = 11 by decide) (by decide)) ?_
          rw [show k2.1 183 8 = nI (wrF TK 5 s.1 s.2.1) from hs2.2.2.1]
          refine t_ite (op := o_if 86 87 (fun x => x ≤ 0) (fun _ => inferInstance)) (fe_X12_takePart 83) g_if (fun c11 => ?_) (fun c11 => ?_)
          · exact absurd ((le_0 (wrF_b hR.2.2.2.1 hk.2.1 (by decide))).mp c11) (by rw [hf0]; exact wrF_p (by decide))
          · refine t_ret (op := o_vret) (fe_X12_takePart 86) (fun _ _ => rfl) ?_
            exact hq _ hs2
        · exact absurd (by rw [hd]; rfl) c10
      · refine t_go (op := o_iload 40 2) (fe_X12_takePart 39) (fun _ _ => rfl) ?_
        refine t_ite (op := o_if 69 43 (fun x => x = 0) (fun _ => inferInstance)) (fe_X12_takePart 40) g_if (fun c12 => ?_) (fun c12 => ?_)
        · clear c12
          refine t_go (op := o_aload 44 0) (fe_X12_takePart 43) (fun _ _ => rfl) ?_
          refine t_go (op := o_ci 46 40) (fe_X12_takePart 44) (fun _ _ => rfl) ?_
          refine t_call (op := o_callV 49 167 2 11) (fe_X12_takePart 46) (g_callV hS (show (lay 183).1 = 11 by decide) (by decide) rfl rfl rfl (Nat.le_of_ble_eq_true rfl)) ?_
          refine M_eq (w_isSign (c := 40) hR hs hk (by decide)) ?_
          refine t_ite (op := o_if 69 52 (fun x => x = 0) (fun _ => inferInstance)) (fe_X12_takePart 49) g_if (fun c13 => ?_) (fun c13 => ?_)
          · replace c13 := b2i_z c13
            refine t_go (op := o_aload 53 0) (fe_X12_takePart 52) (fun _ _ => rfl) ?_
            refine t_go (op := o_ci 55 16) (fe_X12_takePart 53) (fun _ _ => rfl) ?_
            refine t_call (op := o_callV 58 168 2 11) (fe_X12_takePart 55) (g_callV hS (show (lay 183).1 = 11 by decide) (by decide) rfl rfl rfl (Nat.le_of_ble_eq_true rfl)) ?_
            refine M_eq (w_isWord (c := 16) hR hs hk (by decide)) ?_
            refine t_ite (op := o_if 69 61 (fun x => x = 0) (fun _ => inferInstance)) (fe_X12_takePart 58) g_if (fun c14 => ?_) (fun c14 => ?_)
            · exact (hg.elim (fun q => c2 (nq.mpr q)) (fun q => q.elim (fun q => c9 ((whV_n hB).mpr q)) (fun q => q.elim (b2i_z c14) c13))).elim
            · replace c14 := b2i_nn c14
              refine t_go (op := o_iload 70 1) (fe_X12_takePart 69) (fun _ _ => rfl) ?_
              refine t_go (op := o_ci 71 5) (fe_X12_takePart 70) (fun _ _ => rfl) ?_
              refine t_ite (op := o_icmp 79 74 (fun x y => x = y) (fun _ _ => inferInstance)) (fe_X12_takePart 71) g_icmp (fun c15 => ?_) (fun c15 => ?_)
              · refine t_go (op := o_aload 75 0) (fe_X12_takePart 74) (fun _ _ => rfl) ?_
                refine t_go (op := o_ci 76 5) (fe_X12_takePart 75) (fun _ _ => rfl) ?_
                refine t_call (op := o_callV 79 166 2 11) (fe_X12_takePart 76) (g_callV hS (show (lay 183).1 = 11 by decide) (by decide) rfl rfl rfl (Nat.le_of_ble_eq_true rfl)) ?_
                refine M_mono ?_ (w_wrong (c := 5) hR hs hk)
                rintro _ k2 ⟨rfl, hs2⟩
                replace hS := RS.std hR.1 hs2
                refine t_go (op := o_aload 80 0) (fe_X12_takePart 79) (fun _ _ => rfl) ?_
                refine t_go (op := o_getI 83 11 8) (fe_X12_takePart 80) (g_getI hS (show (lay 183).1 = 11 by decide) (by decide)) ?_
                rw [show k2.1 183 8 = nI (wrF TK 5 s.1 s.2.1) from hs2.2.2.1]
                refine t_ite (op := o_if 86 87 (fun x => x ≤ 0) (fun _ => inferInstance)) (fe_X12_takePart 83) g_if (fun c16 => ?_) (fun c16 => ?_)
                · exact absurd ((le_0 (wrF_b hR.2.2.2.1 hk.2.1 (by decide))).mp c16) (by rw [hf0]; exact wrF_p (by decide))
                · refine t_ret (op := o_vret) (fe_X12_takePart 86) (fun _ _ => rfl) ?_
                  exact hq _ hs2
              · exact absurd (by rw [hd]; rfl) c15
          · replace c13 := b2i_nn c13
            refine t_go (op := o_iload 70 1) (fe_X12_takePart 69) (fun _ _ => rfl) ?_
            refine t_go (op := o_ci 71 5) (fe_X12_takePart 70) (fun _ _ => rfl) ?_
            refine t_ite (op := o_icmp 79 74 (fun x y => x = y) (fun _ _ => inferInstance)) (fe_X12_takePart 71) g_icmp (fun c17 => ?_) (fun c17 => ?_)
            · refine t_go (op := o_aload 75 0) (fe_X12_takePart 74) (fun _ _ => rfl) ?_
              refine t_go (op := o_ci 76 5) (fe_X12_takePart 75) (fun _ _ => rfl) ?_
              refine t_call (op := o_callV 79 166 2 11) (fe_X12_takePart 76) (g_callV hS (show (lay 183).1 = 11 by decide) (by decide) rfl rfl rfl (Nat.le_of_ble_eq_true rfl)) ?_
              refine M_mono ?_ (w_wrong (c := 5) hR hs hk)
              rintro _ k2 ⟨rfl, hs2⟩
              replace hS := RS.std hR.1 hs2
              refine t_go (op := o_aload 80 0) (fe_X12_takePart 79) (fun _ _ => rfl) ?_
              refine t_go (op := o_getI 83 11 8) (fe_X12_takePart 80) (g_getI hS (show (lay 183).1 = 11 by decide) (by decide)) ?_
              rw [show k2.1 183 8 = nI (wrF TK 5 s.1 s.2.1) from hs2.2.2.1]
              refine t_ite (op := o_if 86 87 (fun x => x ≤ 0) (fun _ => inferInstance)) (fe_X12_takePart 83) g_if (fun c18 => ?_) (fun c18 => ?_)
              · exact absurd ((le_0 (wrF_b hR.2.2.2.1 hk.2.1 (by decide))).mp c18) (by rw [hf0]; exact wrF_p (by decide))
              · refine t_ret (op := o_vret) (fe_X12_takePart 86) (fun _ _ => rfl) ?_
                exact hq _ hs2
            · exact absurd (by rw [hd]; rfl) c17
        · exact absurd (by decide) c12
  · exact absurd ((le_0 hk.2.1).mpr hf0) c1
theorem w_pG {d : Nat} {h0 h : AHP} {TK : Nat → Tk} {n dep : Nat} {s : St} {Q : Option Value → AHP → Prop} (hR : RQ h0 TK n) (hs : RS h0 h s) (hk : okR TK n s) (hf0 : s.2.1 = 0) (hg : numP TK s ∨ facP TK s ∨ notP TK s ∨ parP TK s) (hd5 : dep ≤ 5) (hd : ¬ dep = 5) (hq : ∀ x2, x2 = b2i (numP TK s) → TT (d + 4) 193 79 [some (.ref 183), some (.int (nI dep)), some (.int x2), some (.int (whV TK 19 s.1 s.2.1 4))] [] h Q) : MM (d + 4) 193 [.ref 183, .int (nI dep)] h (fun v h2 => Q v h2) := by
  refine ⟨Nat.le_of_ble_eq_true rfl, ?_⟩
  have hS := hs.std hR.1
  have hi : s.1 ≤ n := hk.1
  have hn := hR.2.2.1
  have hB := hR.2.2.2.1 s.1
  have nq : nI (TK s.1).1 = 2 ↔ (TK s.1).1 = 2 := nI_eq (b := 2) (by have := hB.1; omega) (by decide)
  refine t_go (op := o_aload 1 0) (fe_X12_takePart 0) (fun _ _ => rfl) ?_
  refine t_go (op := o_getI 4 11 8) (fe_X12_takePart 1) (g_getI hS (show (lay 183).1 = 11 by decide) (by decide)) ?_
  rw [show h.1 183 8 = nI s.2.1 from hs.2.2.1]
  refine t_ite (op := o_if 7 8 (fun x => x ≤ 0) (fun _ => inferInstance)) (fe_X12_takePart 4) g_if (fun c1 => ?_) (fun c1 => ?_)
  · refine t_go (op := o_aload 9 0) (fe_X12_takePart 8) (fun _ _ => rfl) ?_
    refine t_go (op := o_getR 12 11 4) (fe_X12_takePart 9) (g_getR hS (show (lay 183).1 = 11 by decide) (by decide) (fr_11_4 hS) (by decide)) ?_
    refine t_go (op := o_aload 13 0) (fe_X12_takePart 12) (fun _ _ => rfl) ?_
    refine t_go (op := o_getI 16 11 7) (fe_X12_takePart 13) (g_getI hS (show (lay 183).1 = 11 by decide) (by decide)) ?_
    rw [show h.1 183 7 = nI s.1 from hs.2.1]
    refine t_go (op := o_iald 17) (fe_X12_takePart 16) (g_ialdN hS (show lay 185 = (20, 1002) by decide) rfl (by omega) (by decide)) ?_
    rw [show h.1 185 s.1 = nI (TK s.1).1 from ((hs.rq hR).2.1 s.1 hk.1).1]
    refine t_go (op := o_ci 18 2) (fe_X12_takePart 17) (fun _ _ => rfl) ?_
    refine t_ite (op := o_icmp 25 21 (fun x y => x = y) (fun _ _ => inferInstance)) (fe_X12_takePart 18) g_icmp (fun c2 => ?_) (fun c2 => ?_)
    · refine t_go (op := o_ci 22 1) (fe_X12_takePart 21) (fun _ _ => rfl) ?_
      refine t_go (op := o_goto 26) (fe_X12_takePart 22) (fun _ _ => rfl) ?_
      refine t_go (op := o_istore 27 2) (fe_X12_takePart 26) (fun _ _ => rfl) ?_
      refine t_go (op := o_aload 28 0) (fe_X12_takePart 27) (fun _ _ => rfl) ?_
      refine t_go (op := o_ci 30 19) (fe_X12_takePart 28) (fun _ _ => rfl) ?_
      refine t_go (op := o_ci 31 4) (fe_X12_takePart 30) (fun _ _ => rfl) ?_
      refine t_call (op := o_callV 34 177 3 11) (fe_X12_takePart 31) (g_callV hS (show (lay 183).1 = 11 by decide) (by decide) rfl rfl rfl (Nat.le_of_ble_eq_true rfl)) ?_
      refine M_eq (w_wordHere (b := 19) (cnt := 4) hR hs hk (by decide)) ?_
      refine t_go (op := o_istore 35 3) (fe_X12_takePart 34) (fun _ _ => rfl) ?_
      refine t_go (op := o_iload 36 3) (fe_X12_takePart 35) (fun _ _ => rfl) ?_
      refine t_ite (op := o_if 39 69 (fun x => 0 ≤ x) (fun _ => inferInstance)) (fe_X12_takePart 36) g_if (fun c3 => ?_) (fun c3 => ?_)
      · refine t_go (op := o_iload 70 1) (fe_X12_takePart 69) (fun _ _ => rfl) ?_
        refine t_go (op := o_ci 71 5) (fe_X12_takePart 70) (fun _ _ => rfl) ?_
        refine t_ite (op := o_icmp 79 74 (fun x y => x = y) (fun _ _ => inferInstance)) (fe_X12_takePart 71) g_icmp (fun c4 => ?_) (fun c4 => ?_)
        · exact absurd ((nI_eq (b := 5) (by omega) (by decide)).mp c4) hd
        · exact hq _ (b2i_t (nq.mp c2)).symm
      · refine t_go (op := o_iload 40 2) (fe_X12_takePart 39) (fun _ _ => rfl) ?_
        refine t_ite (op := o_if 69 43 (fun x => x = 0) (fun _ => inferInstance)) (fe_X12_takePart 40) g_if (fun c5 => ?_) (fun c5 => ?_)
        · exact absurd c5 (by decide)
        · clear c5
          refine t_go (op := o_iload 70 1) (fe_X12_takePart 69) (fun _ _ => rfl) ?_
          refine t_go (op := o_ci 71 5) (fe_X12_takePart 70) (fun _ _ => rfl) ?_
          refine t_ite (op := o_icmp 79 74 (fun x y => x = y) (fun _ _ => inferInstance)) (fe_X12_takePart 71) g_icmp (fun c6 => ?_) (fun c6 => ?_)
          · exact absurd ((nI_eq (b := 5) (by omega) (by decide)).mp c6) hd
          · exact hq _ (b2i_t (nq.mp c2)).symm
    · refine t_go (op := o_ci 26 0) (fe_X12_takePart 25) (fun _ _ => rfl) ?_
      refine t_go (op := o_istore 27 2) (fe_X12_takePart 26) (fun _ _ => rfl) ?_
      refine t_go (op := o_aload 28 0) (fe_X12_takePart 27) (fun _ _ => rfl) ?_
      refine t_go (op := o_ci 30 19) (fe_X12_takePart 28) (fun _ _ => rfl) ?_
      refine t_go (op := o_ci 31 4) (fe_X12_takePart 30) (fun _ _ => rfl) ?_
      refine t_call (op := o_callV 34 177 3 11) (fe_X12_takePart 31) (g_callV hS (show (lay 183).1 = 11 by decide) (by decide) rfl rfl rfl (Nat.le_of_ble_eq_true rfl)) ?_
      refine M_eq (w_wordHere (b := 19) (cnt := 4) hR hs hk (by decide)) ?_
      refine t_go (op := o_istore 35 3) (fe_X12_takePart 34) (fun _ _ => rfl) ?_
      refine t_go (op := o_iload 36 3) (fe_X12_takePart 35) (fun _ _ => rfl) ?_
      refine t_ite (op := o_if 39 69 (fun x => 0 ≤ x) (fun _ => inferInstance)) (fe_X12_takePart 36) g_if (fun c7 => ?_) (fun c7 => ?_)
      · refine t_go (op := o_iload 70 1) (fe_X12_takePart 69) (fun _ _ => rfl) ?_
        refine t_go (op := o_ci 71 5) (fe_X12_takePart 70) (fun _ _ => rfl) ?_
        refine t_ite (op := o_icmp 79 74 (fun x y => x = y) (fun _ _ => inferInstance)) (fe_X12_takePart 71) g_icmp (fun c8 => ?_) (fun c8 => ?_)
        · exact absurd ((nI_eq (b := 5) (by omega) (by decide)).mp c8) hd
        · exact hq _ (b2i_f (fun q => c2 (nq.mpr q))).symm
      · refine t_go (op := o_iload 40 2) (fe_X12_takePart 39) (fun _ _ => rfl) ?_
        refine t_ite (op := o_if 69 43 (fun x => x = 0) (fun _ => inferInstance)) (fe_X12_takePart 40) g_if (fun c9 => ?_) (fun c9 => ?_)
        · clear c9
          refine t_go (op := o_aload 44 0) (fe_X12_takePart 43) (fun _ _ => rfl) ?_
          refine t_go (op := o_ci 46 40) (fe_X12_takePart 44) (fun _ _ => rfl) ?_
          refine t_call (op := o_callV 49 167 2 11) (fe_X12_takePart 46) (g_callV hS (show (lay 183).1 = 11 by decide) (by decide) rfl rfl rfl (Nat.le_of_ble_eq_true rfl)) ?_
          refine M_eq (w_isSign (c := 40) hR hs hk (by decide)) ?_
          refine t_ite (op := o_if 69 52 (fun x => x = 0) (fun _ => inferInstance)) (fe_X12_takePart 49) g_if (fun c10 => ?_) (fun c10 => ?_)
          · replace c10 := b2i_z c10
            refine t_go (op := o_aload 53 0) (fe_X12_takePart 52) (fun _ _ => rfl) ?_
            refine t_go (op := o_ci 55 16) (fe_X12_takePart 53) (fun _ _ => rfl) ?_
            refine t_call (op := o_callV 58 168 2 11) (fe_X12_takePart 55) (g_callV hS (show (lay 183).1 = 11 by decide) (by decide) rfl rfl rfl (Nat.le_of_ble_eq_true rfl)) ?_
            refine M_eq (w_isWord (c := 16) hR hs hk (by decide)) ?_
            refine t_ite (op := o_if 69 61 (fun x => x = 0) (fun _ => inferInstance)) (fe_X12_takePart 58) g_if (fun c11 => ?_) (fun c11 => ?_)
            · exact (hg.elim (fun q => c2 (nq.mpr q)) (fun q => q.elim (fun q => c7 ((whV_n hB).mpr q)) (fun q => q.elim (b2i_z c11) c10))).elim
            · replace c11 := b2i_nn c11
              refine t_go (op := o_iload 70 1) (fe_X12_takePart 69) (fun _ _ => rfl) ?_
              refine t_go (op := o_ci 71 5) (fe_X12_takePart 70) (fun _ _ => rfl) ?_
              refine t_ite (op := o_icmp 79 74 (fun x y => x = y) (fun _ _ => inferInstance)) (fe_X12_takePart 71) g_icmp (fun c12 => ?_) (fun c12 => ?_)
              · exact absurd ((nI_eq (b := 5) (by omega) (by decide)).mp c12) hd
              · exact hq _ (b2i_f (fun q => c2 (nq.mpr q))).symm
          · replace c10 := b2i_nn c10
            refine t_go (op := o_iload 70 1) (fe_X12_takePart 69) (fun _ _ => rfl) ?_
            refine t_go (op := o_ci 71 5) (fe_X12_takePart 70) (fun _ _ => rfl) ?_
            refine t_ite (op := o_icmp 79 74 (fun x y => x = y) (fun _ _ => inferInstance)) (fe_X12_takePart 71) g_icmp (fun c13 => ?_) (fun c13 => ?_)
            · exact absurd ((nI_eq (b := 5) (by omega) (by decide)).mp c13) hd
            · exact hq _ (b2i_f (fun q => c2 (nq.mpr q))).symm
        · exact absurd (by decide) c9
  · exact absurd ((le_0 hk.2.1).mpr hf0) c1
theorem w_p3 {d : Nat} {h0 h : AHP} {TK : Nat → Tk} {n dep : Nat} {s s1 : St} (hR : RQ h0 TK n) (hs : RS h0 h s) (hk : okR TK n s) {x2 : Int32} (hf0 : s.2.1 = 0) (hno0 : notP TK s) (hJ : ∀ h2, RS h0 h2 (nx1 s) → MM (d + 3) 193 [.ref 183, .int (nI (dep + 1))] h2 (fun v h3 => v = none ∧ RS h0 h3 s1)) (hq1 : s1.2.2.length < 1100) {Q : Option Value → AHP → Prop} (hq : ∀ h2, RS h0 h2 (emS 3 0 s1) → Q none h2) : TT (d + 4) 193 79 [some (.ref 183), some (.int (nI dep)), some (.int x2), some (.int (whV TK 19 s.1 s.2.1 4))] [] h Q := by
  have hS := hs.std hR.1
  refine t_go (op := o_aload 80 0) (fe_X12_takePart 79) (fun _ _ => rfl) ?_
  refine t_go (op := o_getI 83 11 8) (fe_X12_takePart 80) (g_getI hS (show (lay 183).1 = 11 by decide) (by decide)) ?_
  rw [show h.1 183 8 = nI s.2.1 from hs.2.2.1]
  refine t_ite (op := o_if 86 87 (fun x => x ≤ 0) (fun _ => inferInstance)) (fe_X12_takePart 83) g_if (fun c1 => ?_) (fun c1 => ?_)
  · refine t_go (op := o_aload 88 0) (fe_X12_takePart 87) (fun _ _ => rfl) ?_
    refine t_go (op := o_ci 90 16) (fe_X12_takePart 88) (fun _ _ => rfl) ?_
    refine t_call (op := o_callV 93 171 2 11) (fe_X12_takePart 90) (g_callV hS (show (lay 183).1 = 11 by decide) (by decide) rfl rfl rfl (Nat.le_of_ble_eq_true rfl)) ?_
    refine M_mono ?_ (w_hasWord (c := 16) hR hs hk (by decide))
    rintro _ k1 ⟨rfl, hy, hno⟩
    refine t_ite (op := o_if 96 112 (fun x => x = 0) (fun _ => inferInstance)) (fe_X12_takePart 93) g_if (fun c2 => ?_) (fun c2 => ?_)
    · exact absurd hno0 (b2i_z c2)
    · replace c2 := b2i_nn c2
      have hs1 := hy c2
      replace hS := RS.std hR.1 hs1
      refine t_go (op := o_aload 97 0) (fe_X12_takePart 96) (fun _ _ => rfl) ?_
      refine t_go (op := o_iload 98 1) (fe_X12_takePart 97) (fun _ _ => rfl) ?_
      refine t_go (op := o_ci 99 1) (fe_X12_takePart 98) (fun _ _ => rfl) ?_
      refine t_go (op := o_i2 100 (fun x y => x + y)) (fe_X12_takePart 99) (fun _ _ => rfl) ?_
      rw [show (fun x y : Int32 => x + y) (nI dep) 1 = nI (dep + 1) from nI_1 dep]
      refine t_call (op := o_callV 103 193 2 11) (fe_X12_takePart 100) (g_callV hS (show (lay 183).1 = 11 by decide) (by decide) rfl rfl rfl (Nat.le_of_ble_eq_true rfl)) ?_
      refine M_mono ?_ (hJ _ hs1)
      rintro _ k2 ⟨rfl, hs2⟩
      replace hS := RS.std hR.1 hs2
      refine t_go (op := o_aload 104 0) (fe_X12_takePart 103) (fun _ _ => rfl) ?_
      refine t_go (op := o_ci 105 3) (fe_X12_takePart 104) (fun _ _ => rfl) ?_
      refine t_go (op := o_ci 106 0) (fe_X12_takePart 105) (fun _ _ => rfl) ?_
      refine t_call (op := o_callV 109 188 3 11) (fe_X12_takePart 106) (g_callV hS (show (lay 183).1 = 11 by decide) (by decide) rfl rfl rfl (Nat.le_of_ble_eq_true rfl)) ?_
      refine M_mono ?_ (w_emit (a := 3) (b := 0) hR.1 hs2 hq1)
      rintro _ k3 ⟨rfl, hs3⟩
      replace hS := RS.std hR.1 hs3
      refine t_go (op := o_goto 178) (fe_X12_takePart 109) (fun _ _ => rfl) ?_
      refine t_ret (op := o_vret) (fe_X12_takePart 178) (fun _ _ => rfl) ?_
      exact hq _ hs3
  · exact absurd ((le_0 hk.2.1).mpr hf0) c1
theorem w_p4 {d : Nat} {h0 h : AHP} {TK : Nat → Tk} {n dep : Nat} {s s1 : St} (hR : RQ h0 TK n) (hs : RS h0 h s) (hk : okR TK n s) {x2 : Int32} (hf0 : s.2.1 = 0) (hno0 : ¬ notP TK s) (hp : parP TK s) (hJ : ∀ h2, RS h0 h2 (nx1 s) → MM (d + 3) 189 [.ref 183, .int (nI (dep + 1))] h2 (fun v h3 => v = none ∧ RS h0 h3 s1)) (hk1 : okR TK n s1) {Q : Option Value → AHP → Prop} (hq : ∀ h2, RS h0 h2 (tSS TK 41 s1) → Q none h2) : TT (d + 4) 193 79 [some (.ref 183), some (.int (nI dep)), some (.int x2), some (.int (whV TK 19 s.1 s.2.1 4))] [] h Q := by
  have hS := hs.std hR.1
  refine t_go (op := o_aload 80 0) (fe_X12_takePart 79) (fun _ _ => rfl) ?_
  refine t_go (op := o_getI 83 11 8) (fe_X12_takePart 80) (g_getI hS (show (lay 183).1 = 11 by decide) (by decide)) ?_
  rw [show h.1 183 8 = nI s.2.1 from hs.2.2.1]
  refine t_ite (op := o_if 86 87 (fun x => x ≤ 0) (fun _ => inferInstance)) (fe_X12_takePart 83) g_if (fun c1 => ?_) (fun c1 => ?_)
  · refine t_go (op := o_aload 88 0) (fe_X12_takePart 87) (fun _ _ => rfl) ?_
    refine t_go (op := o_ci 90 16) (fe_X12_takePart 88) (fun _ _ => rfl) ?_
    refine t_call (op := o_callV 93 171 2 11) (fe_X12_takePart 90) (g_callV hS (show (lay 183).1 = 11 by decide) (by decide) rfl rfl rfl (Nat.le_of_ble_eq_true rfl)) ?_
    refine M_mono ?_ (w_hasWord (c := 16) hR hs hk (by decide))
    rintro _ k1 ⟨rfl, hy, hno⟩
    refine t_ite (op := o_if 96 112 (fun x => x = 0) (fun _ => inferInstance)) (fe_X12_takePart 93) g_if (fun c2 => ?_) (fun c2 => ?_)
    · replace c2 := b2i_z c2
      have e9 := hno c2
      subst e9
      refine t_go (op := o_aload 113 0) (fe_X12_takePart 112) (fun _ _ => rfl) ?_
      refine t_go (op := o_ci 115 40) (fe_X12_takePart 113) (fun _ _ => rfl) ?_
      refine t_call (op := o_callV 118 170 2 11) (fe_X12_takePart 115) (g_callV hS (show (lay 183).1 = 11 by decide) (by decide) rfl rfl rfl (Nat.le_of_ble_eq_true rfl)) ?_
      refine M_mono ?_ (w_hasSign (c := 40) hR hs hk (by decide))
      rintro _ k4 ⟨rfl, hy4, hno4⟩
      refine t_ite (op := o_if 121 137 (fun x => x = 0) (fun _ => inferInstance)) (fe_X12_takePart 118) g_if (fun c3 => ?_) (fun c3 => ?_)
      · exact absurd hp (b2i_z c3)
      · replace c3 := b2i_nn c3
        have hs1 := hy4 c3
        replace hS := RS.std hR.1 hs1
        refine t_go (op := o_aload 122 0) (fe_X12_takePart 121) (fun _ _ => rfl) ?_
        refine t_go (op := o_iload 123 1) (fe_X12_takePart 122) (fun _ _ => rfl) ?_
        refine t_go (op := o_ci 124 1) (fe_X12_takePart 123) (fun _ _ => rfl) ?_
        refine t_go (op := o_i2 125 (fun x y => x + y)) (fe_X12_takePart 124) (fun _ _ => rfl) ?_
        rw [show (fun x y : Int32 => x + y) (nI dep) 1 = nI (dep + 1) from nI_1 dep]
        refine t_call (op := o_callV 128 189 2 11) (fe_X12_takePart 125) (g_callV hS (show (lay 183).1 = 11 by decide) (by decide) rfl rfl rfl (Nat.le_of_ble_eq_true rfl)) ?_
        refine M_mono ?_ (hJ _ hs1)
        rintro _ k2 ⟨rfl, hs2⟩
        replace hS := RS.std hR.1 hs2
        refine t_go (op := o_aload 129 0) (fe_X12_takePart 128) (fun _ _ => rfl) ?_
        refine t_go (op := o_ci 131 41) (fe_X12_takePart 129) (fun _ _ => rfl) ?_
        refine t_call (op := o_callV 134 169 2 11) (fe_X12_takePart 131) (g_callV hS (show (lay 183).1 = 11 by decide) (by decide) rfl rfl rfl (Nat.le_of_ble_eq_true rfl)) ?_
        refine M_mono ?_ (w_takeSign (c := 41) hR hs2 hk1 (by decide))
        rintro _ k3 ⟨rfl, hs3⟩
        replace hS := RS.std hR.1 hs3
        refine t_go (op := o_goto 178) (fe_X12_takePart 134) (fun _ _ => rfl) ?_
        refine t_ret (op := o_vret) (fe_X12_takePart 178) (fun _ _ => rfl) ?_
        exact hq _ hs3
    · exact absurd (b2i_nn c2) hno0
  · exact absurd ((le_0 hk.2.1).mpr hf0) c1
theorem w_p5 {d : Nat} {h0 h : AHP} {TK : Nat → Tk} {n dep : Nat} {s : St} (hR : RQ h0 TK n) (hs : RS h0 h s) (hk : okR TK n s) (hf0 : s.2.1 = 0) (hno0 : ¬ notP TK s) (hp : ¬ parP TK s) (hq0 : s.2.2.length < 1100) (hN : numP TK s) {Q : Option Value → AHP → Prop} (hq : ∀ h2, RS h0 h2 (nx1 (emS 1 (TK s.1).2.2.1 s)) → Q none h2) : TT (d + 4) 193 79 [some (.ref 183), some (.int (nI dep)), some (.int 1), some (.int (whV TK 19 s.1 s.2.1 4))] [] h Q := by
  have hS := hs.std hR.1
  have hi : s.1 ≤ n := hk.1
  have hn := hR.2.2.1
  have hB := hR.2.2.2.1 s.1
  have nq : nI (TK s.1).1 = 2 ↔ (TK s.1).1 = 2 := nI_eq (b := 2) (by have := hB.1; omega) (by decide)
  refine t_go (op := o_aload 80 0) (fe_X12_takePart 79) (fun _ _ => rfl) ?_
  refine t_go (op := o_getI 83 11 8) (fe_X12_takePart 80) (g_getI hS (show (lay 183).1 = 11 by decide) (by decide)) ?_
  rw [show h.1 183 8 = nI s.2.1 from hs.2.2.1]
  refine t_ite (op := o_if 86 87 (fun x => x ≤ 0) (fun _ => inferInstance)) (fe_X12_takePart 83) g_if (fun c1 => ?_) (fun c1 => ?_)
  · refine t_go (op := o_aload 88 0) (fe_X12_takePart 87) (fun _ _ => rfl) ?_
    refine t_go (op := o_ci 90 16) (fe_X12_takePart 88) (fun _ _ => rfl) ?_
    refine t_call (op := o_callV 93 171 2 11) (fe_X12_takePart 90) (g_callV hS (show (lay 183).1 = 11 by decide) (by decide) rfl rfl rfl (Nat.le_of_ble_eq_true rfl)) ?_
    refine M_mono ?_ (w_hasWord (c := 16) hR hs hk (by decide))
    rintro _ k1 ⟨rfl, hy, hno⟩
    refine t_ite (op := o_if 96 112 (fun x => x = 0) (fun _ => inferInstance)) (fe_X12_takePart 93) g_if (fun c2 => ?_) (fun c2 => ?_)
    · replace c2 := b2i_z c2
      have e9 := hno c2
      subst e9
      refine t_go (op := o_aload 113 0) (fe_X12_takePart 112) (fun _ _ => rfl) ?_
      refine t_go (op := o_ci 115 40) (fe_X12_takePart 113) (fun _ _ => rfl) ?_
      refine t_call (op := o_callV 118 170 2 11) (fe_X12_takePart 115) (g_callV hS (show (lay 183).1 = 11 by decide) (by decide) rfl rfl rfl (Nat.le_of_ble_eq_true rfl)) ?_
      refine M_mono ?_ (w_hasSign (c := 40) hR hs hk (by decide))
      rintro _ k4 ⟨rfl, hy4, hno4⟩
      refine t_ite (op := o_if 121 137 (fun x => x = 0) (fun _ => inferInstance)) (fe_X12_takePart 118) g_if (fun c3 => ?_) (fun c3 => ?_)
      · replace c3 := b2i_z c3
        have e8 := hno4 c3
        subst e8
        refine t_go (op := o_aload 138 0) (fe_X12_takePart 137) (fun _ _ => rfl) ?_
        refine t_go (op := o_iload 139 2) (fe_X12_takePart 138) (fun _ _ => rfl) ?_
        refine t_ite (op := o_if 142 146 (fun x => x = 0) (fun _ => inferInstance)) (fe_X12_takePart 139) g_if (fun c4 => ?_) (fun c4 => ?_)
        · exact absurd c4 (by decide)
        · clear c4
          refine t_go (op := o_ci 143 1) (fe_X12_takePart 142) (fun _ _ => rfl) ?_
          refine t_go (op := o_goto 147) (fe_X12_takePart 143) (fun _ _ => rfl) ?_
          refine t_go (op := o_iload 148 2) (fe_X12_takePart 147) (fun _ _ => rfl) ?_
          refine t_ite (op := o_if 151 164 (fun x => x = 0) (fun _ => inferInstance)) (fe_X12_takePart 148) g_if (fun c5 => ?_) (fun c5 => ?_)
          · exact absurd c5 (by decide)
          · clear c5
            refine t_go (op := o_aload 152 0) (fe_X12_takePart 151) (fun _ _ => rfl) ?_
            refine t_go (op := o_getR 155 11 6) (fe_X12_takePart 152) (g_getR hS (show (lay 183).1 = 11 by decide) (by decide) (fr_11_6 hS) (by decide)) ?_
            refine t_go (op := o_aload 156 0) (fe_X12_takePart 155) (fun _ _ => rfl) ?_
            refine t_go (op := o_getI 159 11 7) (fe_X12_takePart 156) (g_getI hS (show (lay 183).1 = 11 by decide) (by decide)) ?_
            rw [show _ = nI s.1 from hs.2.1]
            refine t_go (op := o_lald 160) (fe_X12_takePart 159) (g_laldN hS (show lay 187 = (21, 1002) by decide) rfl (by omega) (by decide)) ?_
            rw [show _ = lN (TK s.1).2.2.1 from ((hs.rq hR).2.1 s.1 hk.1).2.2.2 (Or.inl hN)]
            refine t_go (op := o_l2i 161) (fe_X12_takePart 160) (fun _ _ => rfl) ?_
            rw [lN_i]
            refine t_go (op := o_goto 165) (fe_X12_takePart 161) (fun _ _ => rfl) ?_
            refine t_call (op := o_callV 168 188 3 11) (fe_X12_takePart 165) (g_callV hS (show (lay 183).1 = 11 by decide) (by decide) rfl rfl rfl (Nat.le_of_ble_eq_true rfl)) ?_
            refine M_mono ?_ (w_emit (a := 1) (b := (TK s.1).2.2.1) hR.1 hs hq0)
            rintro _ k3 ⟨rfl, hs3⟩
            replace hS := RS.std hR.1 hs3
            refine t_go (op := o_aload 169 0) (fe_X12_takePart 168) (fun _ _ => rfl) ?_
            refine t_go (op := o_dupA 170) (fe_X12_takePart 169) (fun _ _ => rfl) ?_
            refine t_go (op := o_getI 173 11 7) (fe_X12_takePart 170) (g_getI hS (show (lay 183).1 = 11 by decide) (by decide)) ?_
            rw [show k3.1 183 7 = nI s.1 from hs3.2.1]
            refine t_go (op := o_ci 174 1) (fe_X12_takePart 173) (fun _ _ => rfl) ?_
            refine t_go (op := o_i2 175 (fun x y => x + y)) (fe_X12_takePart 174) (fun _ _ => rfl) ?_
            refine t_go (op := o_putI 178 11 7) (fe_X12_takePart 175) (g_putI hS (show (lay 183).1 = 11 by decide) (by decide)) ?_
            refine t_ret (op := o_vret) (fe_X12_takePart 178) (fun _ _ => rfl) ?_
            exact hq _ (RS_n1 hs3)
      · exact absurd (b2i_nn c3) hp
    · exact absurd (b2i_nn c2) hno0
  · exact absurd ((le_0 hk.2.1).mpr hf0) c1
theorem w_p6 {d : Nat} {h0 h : AHP} {TK : Nat → Tk} {n dep : Nat} {s : St} (hR : RQ h0 TK n) (hs : RS h0 h s) (hk : okR TK n s) (hf0 : s.2.1 = 0) (hno0 : ¬ notP TK s) (hp : ¬ parP TK s) (hq0 : s.2.2.length < 1100) (hF : facP TK s) {Q : Option Value → AHP → Prop} (hq : ∀ h2, RS h0 h2 (nx1 (emS 2 ((TK s.1).2.2.1 - 19) s)) → Q none h2) : TT (d + 4) 193 79 [some (.ref 183), some (.int (nI dep)), some (.int 0), some (.int (whV TK 19 s.1 s.2.1 4))] [] h Q := by
  have hS := hs.std hR.1
  have hi : s.1 ≤ n := hk.1
  have hn := hR.2.2.1
  have hB := hR.2.2.2.1 s.1
  have nq : nI (TK s.1).1 = 2 ↔ (TK s.1).1 = 2 := nI_eq (b := 2) (by have := hB.1; omega) (by decide)
  refine t_go (op := o_aload 80 0) (fe_X12_takePart 79) (fun _ _ => rfl) ?_
  refine t_go (op := o_getI 83 11 8) (fe_X12_takePart 80) (g_getI hS (show (lay 183).1 = 11 by decide) (by decide)) ?_
  rw [show h.1 183 8 = nI s.2.1 from hs.2.2.1]
  refine t_ite (op := o_if 86 87 (fun x => x ≤ 0) (fun _ => inferInstance)) (fe_X12_takePart 83) g_if (fun c1 => ?_) (fun c1 => ?_)
  · refine t_go (op := o_aload 88 0) (fe_X12_takePart 87) (fun _ _ => rfl) ?_
    refine t_go (op := o_ci 90 16) (fe_X12_takePart 88) (fun _ _ => rfl) ?_
    refine t_call (op := o_callV 93 171 2 11) (fe_X12_takePart 90) (g_callV hS (show (lay 183).1 = 11 by decide) (by decide) rfl rfl rfl (Nat.le_of_ble_eq_true rfl)) ?_
    refine M_mono ?_ (w_hasWord (c := 16) hR hs hk (by decide))
    rintro _ k1 ⟨rfl, hy, hno⟩
    refine t_ite (op := o_if 96 112 (fun x => x = 0) (fun _ => inferInstance)) (fe_X12_takePart 93) g_if (fun c2 => ?_) (fun c2 => ?_)
    · replace c2 := b2i_z c2
      have e9 := hno c2
      subst e9
      refine t_go (op := o_aload 113 0) (fe_X12_takePart 112) (fun _ _ => rfl) ?_
      refine t_go (op := o_ci 115 40) (fe_X12_takePart 113) (fun _ _ => rfl) ?_
      refine t_call (op := o_callV 118 170 2 11) (fe_X12_takePart 115) (g_callV hS (show (lay 183).1 = 11 by decide) (by decide) rfl rfl rfl (Nat.le_of_ble_eq_true rfl)) ?_
      refine M_mono ?_ (w_hasSign (c := 40) hR hs hk (by decide))
      rintro _ k4 ⟨rfl, hy4, hno4⟩
      refine t_ite (op := o_if 121 137 (fun x => x = 0) (fun _ => inferInstance)) (fe_X12_takePart 118) g_if (fun c3 => ?_) (fun c3 => ?_)
      · replace c3 := b2i_z c3
        have e8 := hno4 c3
        subst e8
        refine t_go (op := o_aload 138 0) (fe_X12_takePart 137) (fun _ _ => rfl) ?_
        refine t_go (op := o_iload 139 2) (fe_X12_takePart 138) (fun _ _ => rfl) ?_
        refine t_ite (op := o_if 142 146 (fun x => x = 0) (fun _ => inferInstance)) (fe_X12_takePart 139) g_if (fun c4 => ?_) (fun c4 => ?_)
        · clear c4
          refine t_go (op := o_ci 147 2) (fe_X12_takePart 146) (fun _ _ => rfl) ?_
          refine t_go (op := o_iload 148 2) (fe_X12_takePart 147) (fun _ _ => rfl) ?_
          refine t_ite (op := o_if 151 164 (fun x => x = 0) (fun _ => inferInstance)) (fe_X12_takePart 148) g_if (fun c5 => ?_) (fun c5 => ?_)
          · clear c5
            refine t_go (op := o_iload 165 3) (fe_X12_takePart 164) (fun _ _ => rfl) ?_
            rw [show whV TK 19 s.1 s.2.1 4 = nI ((TK s.1).2.2.1 - 19) from if_pos hF]
            refine t_call (op := o_callV 168 188 3 11) (fe_X12_takePart 165) (g_callV hS (show (lay 183).1 = 11 by decide) (by decide) rfl rfl rfl (Nat.le_of_ble_eq_true rfl)) ?_
            refine M_mono ?_ (w_emit (a := 2) (b := ((TK s.1).2.2.1 - 19)) hR.1 hs hq0)
            rintro _ k3 ⟨rfl, hs3⟩
            replace hS := RS.std hR.1 hs3
            refine t_go (op := o_aload 169 0) (fe_X12_takePart 168) (fun _ _ => rfl) ?_
            refine t_go (op := o_dupA 170) (fe_X12_takePart 169) (fun _ _ => rfl) ?_
            refine t_go (op := o_getI 173 11 7) (fe_X12_takePart 170) (g_getI hS (show (lay 183).1 = 11 by decide) (by decide)) ?_
            rw [show k3.1 183 7 = nI s.1 from hs3.2.1]
            refine t_go (op := o_ci 174 1) (fe_X12_takePart 173) (fun _ _ => rfl) ?_
            refine t_go (op := o_i2 175 (fun x y => x + y)) (fe_X12_takePart 174) (fun _ _ => rfl) ?_
            refine t_go (op := o_putI 178 11 7) (fe_X12_takePart 175) (g_putI hS (show (lay 183).1 = 11 by decide) (by decide)) ?_
            refine t_ret (op := o_vret) (fe_X12_takePart 178) (fun _ _ => rfl) ?_
            exact hq _ (RS_n1 hs3)
          · exact absurd (by decide) c5
        · exact absurd (by decide) c4
      · exact absurd (b2i_nn c3) hp
    · exact absurd (b2i_nn c2) hno0
  · exact absurd ((le_0 hk.2.1).mpr hf0) c1
