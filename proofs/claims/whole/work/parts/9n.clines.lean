/-! ===== the class reads a grate: draughts ===== -/
theorem k_dX {d : Nat} {h0 h : AHP} {g : Nat} {ch : Nat → Nat} {len p j : Nat} {G : GS} (hS0 : Std h0) (hg : (lay g).1 = 3) (hg5 : 5 ≤ g) (hs : KGs h0 h g ch len p G) (hj : j ≤ 12) {x3 x4 : Option Value} (hj0 : ¬ j = 0) (hw : isS (tkT ch len) 59 p 0) {Q : Option Value → AHP → Prop} (hq : ∀ h2, KGs h0 h2 g ch len (p + 1) G → Q (some (.int 1)) h2) : TT (d + 5) 77 9 [some (.ref 4), some (.ref g), some (.int (nI j)), x3, x4] [] h Q := by
  have hS := hs.1.std hS0
  have hC := hs.2.1
  have hB := hC.b p
  refine t_go (op := o_iload 10 2) (fe_X7_draughtLine 9) (fun _ _ => rfl) ?_
  refine t_go (op := o_ci 12 12) (fe_X7_draughtLine 10) (fun _ _ => rfl) ?_
  refine t_ite (op := o_icmp 15 105 (fun x y => y < x) (fun _ _ => inferInstance)) (fe_X7_draughtLine 12) g_icmp (fun c1 => ?_) (fun c1 => ?_)
  · exact absurd c1 (Int32.not_lt.mpr (nI_le (b := 12) hj (by decide)))
  · refine t_go (op := o_iload 16 2) (fe_X7_draughtLine 15) (fun _ _ => rfl) ?_
    refine t_ite (op := o_if 19 31 (fun x => x ≤ 0) (fun _ => inferInstance)) (fe_X7_draughtLine 16) g_if (fun c2 => ?_) (fun c2 => ?_)
    · exact absurd ((le_0 (by omega)).mp c2) hj0
    · refine t_go (op := o_aload 20 0) (fe_X7_draughtLine 19) (fun _ _ => rfl) ?_
      refine t_go (op := o_getR 23 6 0) (fe_X7_draughtLine 20) (g_getR hS (show (lay 4).1 = 6 by decide) (by decide) (fr_6_0 hS) (by decide)) ?_
      refine t_go (op := o_ci 25 59) (fe_X7_draughtLine 23) (fun _ _ => rfl) ?_
      refine t_call (op := o_callV 28 98 2 8) (fe_X7_draughtLine 25) (g_callV hS (by decide) (by decide) rfl rfl rfl (Nat.le_of_ble_eq_true rfl)) ?_
      refine M_eq (c_isSign (c := 59) hS hC (by decide)) ?_
      refine t_ite (op := o_if 105 31 (fun x => x = 0) (fun _ => inferInstance)) (fe_X7_draughtLine 28) g_if (fun c3 => ?_) (fun c3 => ?_)
      · exact absurd hw (b2i_z c3)
      · replace c3 := b2i_nn c3
        refine t_go (op := o_aload 106 0) (fe_X7_draughtLine 105) (fun _ _ => rfl) ?_
        refine t_go (op := o_ci 108 59) (fe_X7_draughtLine 106) (fun _ _ => rfl) ?_
        refine t_call (op := o_callV 111 73 2 6) (fe_X7_draughtLine 108) (g_callV hS (show (lay 4).1 = 6 by decide) (by decide) rfl rfl rfl (Nat.le_of_ble_eq_true rfl)) ?_
        refine M_mono ?_ (c_takeSign (c := 59) hS hC (by decide))
        rintro v3 k3 ⟨hy3, _⟩
        obtain ⟨rfl, hT3, hC3⟩ := hy3 hw
        have hs2 := KGs_T hg5 hs hT3 hC3
        replace hS := hs2.1.std hS0
        refine t_ret (op := o_zret) (fe_X7_draughtLine 111) (g_zret (Or.inr rfl)) ?_
        exact hq _ hs2
theorem k_dN {d : Nat} {h0 h : AHP} {g : Nat} {ch : Nat → Nat} {len p j : Nat} {G : GS} (hS0 : Std h0) (hg : (lay g).1 = 3) (hg5 : 5 ≤ g) (hs : KGs h0 h g ch len p G) (hj : j ≤ 12) {x3 x4 : Option Value} (hG : gOK G) (hw : ¬ (¬ j = 0 ∧ isS (tkT ch len) 59 p 0)) (hN : ¬ nuP (tkT ch len) 0 9 p 0) {Q : Option Value → AHP → Prop} (hq : ∀ h2, KGF h0 h2 g (wrF (tkT ch len) (nmF (tkT ch len) p) p 0) → Q (some (.int 0)) h2) : TT (d + 5) 77 9 [some (.ref 4), some (.ref g), some (.int (nI j)), x3, x4] [] h Q := by
  have hS := hs.1.std hS0
  have hC := hs.2.1
  have hB := hC.b p
  refine t_go (op := o_iload 10 2) (fe_X7_draughtLine 9) (fun _ _ => rfl) ?_
  refine t_go (op := o_ci 12 12) (fe_X7_draughtLine 10) (fun _ _ => rfl) ?_
  refine t_ite (op := o_icmp 15 105 (fun x y => y < x) (fun _ _ => inferInstance)) (fe_X7_draughtLine 12) g_icmp (fun c1 => ?_) (fun c1 => ?_)
  · exact absurd c1 (Int32.not_lt.mpr (nI_le (b := 12) hj (by decide)))
  · refine t_go (op := o_iload 16 2) (fe_X7_draughtLine 15) (fun _ _ => rfl) ?_
    refine t_ite (op := o_if 19 31 (fun x => x ≤ 0) (fun _ => inferInstance)) (fe_X7_draughtLine 16) g_if (fun c2 => ?_) (fun c2 => ?_)
    · refine t_go (op := o_iload 32 2) (fe_X7_draughtLine 31) (fun _ _ => rfl) ?_
      refine t_go (op := o_ci 34 12) (fe_X7_draughtLine 32) (fun _ _ => rfl) ?_
      refine t_ite (op := o_icmp 64 37 (fun x y => x = y) (fun _ _ => inferInstance)) (fe_X7_draughtLine 34) g_icmp (fun c3 => ?_) (fun c3 => ?_)
      · refine t_go (op := o_aload 38 0) (fe_X7_draughtLine 37) (fun _ _ => rfl) ?_
        refine t_go (op := o_getR 41 6 0) (fe_X7_draughtLine 38) (g_getR hS (show (lay 4).1 = 6 by decide) (by decide) (fr_6_0 hS) (by decide)) ?_
        refine t_go (op := o_getI 44 8 2) (fe_X7_draughtLine 41) (g_getI hS (by decide) (by decide)) ?_
        rw [show h.1 2 2 = nI (cSo (tkT ch len p).1) from hC.2.2.2.1]
        refine t_go (op := o_ci 45 3) (fe_X7_draughtLine 44) (fun _ _ => rfl) ?_
        refine t_ite (op := o_icmp 64 48 (fun x y => x = y) (fun _ _ => inferInstance)) (fe_X7_draughtLine 45) g_icmp (fun c4 => ?_) (fun c4 => ?_)
        · refine t_go (op := o_aload 49 0) (fe_X7_draughtLine 48) (fun _ _ => rfl) ?_
          refine t_go (op := o_getR 52 6 0) (fe_X7_draughtLine 49) (g_getR hS (show (lay 4).1 = 6 by decide) (by decide) (fr_6_0 hS) (by decide)) ?_
          refine t_go (op := o_getI 55 8 4) (fe_X7_draughtLine 52) (g_getI hS (by decide) (by decide)) ?_
          rw [show h.1 2 4 = nI (tkT ch len p).2.2.1 from hC.2.2.2.2.2.1 (Or.inl ((cSo_3 _ hB.1).mp c4))]
          refine t_go (op := o_ci 57 9) (fe_X7_draughtLine 55) (fun _ _ => rfl) ?_
          refine t_ite (op := o_icmp 60 64 (fun x y => y < x) (fun _ _ => inferInstance)) (fe_X7_draughtLine 57) g_icmp (fun c5 => ?_) (fun c5 => ?_)
          · refine t_go (op := o_ci 65 0) (fe_X7_draughtLine 64) (fun _ _ => rfl) ?_
            refine t_go (op := o_istore 66 3) (fe_X7_draughtLine 65) (fun _ _ => rfl) ?_
            refine t_go (op := o_iload 67 3) (fe_X7_draughtLine 66) (fun _ _ => rfl) ?_
            refine t_ite (op := o_if 70 76 (fun x => x = 0) (fun _ => inferInstance)) (fe_X7_draughtLine 67) g_if (fun c6 => ?_) (fun c6 => ?_)
            · clear c6
              refine t_go (op := o_aload 77 0) (fe_X7_draughtLine 76) (fun _ _ => rfl) ?_
              refine t_go (op := o_ci 78 0) (fe_X7_draughtLine 77) (fun _ _ => rfl) ?_
              refine t_go (op := o_ci 80 9) (fe_X7_draughtLine 78) (fun _ _ => rfl) ?_
              refine t_call (op := o_callV 83 74 3 6) (fe_X7_draughtLine 80) (g_callV hS (show (lay 4).1 = 6 by decide) (by decide) rfl rfl rfl (Nat.le_of_ble_eq_true rfl)) ?_
              refine M_mono ?_ (c_takeNumber (lo := 0) (hi2 := 9) hS hC (by decide) (by decide))
              rintro v3 k3 ⟨_, hn3⟩
              obtain ⟨rfl, rfl⟩ := hn3 hN
              refine t_go (op := o_istore 85 4) (fe_X7_draughtLine 83) (fun _ _ => rfl) ?_
              refine t_go (op := o_iload 87 4) (fe_X7_draughtLine 85) (fun _ _ => rfl) ?_
              refine t_go (op := o_ci 88 (-1)) (fe_X7_draughtLine 87) (fun _ _ => rfl) ?_
              refine t_ite (op := o_icmp 93 91 (fun x y => x = y) (fun _ _ => inferInstance)) (fe_X7_draughtLine 88) g_icmp (fun c7 => ?_) (fun c7 => ?_)
              · clear c7
                refine t_go (op := o_ci 92 0) (fe_X7_draughtLine 91) (fun _ _ => rfl) ?_
                refine t_ret (op := o_zret) (fe_X7_draughtLine 92) (g_zret (Or.inl rfl)) ?_
                exact hq _ (KGF_w hg5 hs hG)
              · exact absurd (by decide) c7
            · exact absurd (by decide) c6
          · exact absurd (show nuP (tkT ch len) 0 9 p 0 from ⟨rfl, (cSo_3 _ hB.1).mp c4, Nat.zero_le _, (nI_leI (b := 9) (by have := hB.2.2.1; omega) (by decide)).mp (Int32.not_lt.mp c5)⟩) hN
        · refine t_go (op := o_ci 65 0) (fe_X7_draughtLine 64) (fun _ _ => rfl) ?_
          refine t_go (op := o_istore 66 3) (fe_X7_draughtLine 65) (fun _ _ => rfl) ?_
          refine t_go (op := o_iload 67 3) (fe_X7_draughtLine 66) (fun _ _ => rfl) ?_
          refine t_ite (op := o_if 70 76 (fun x => x = 0) (fun _ => inferInstance)) (fe_X7_draughtLine 67) g_if (fun c8 => ?_) (fun c8 => ?_)
          · clear c8
            refine t_go (op := o_aload 77 0) (fe_X7_draughtLine 76) (fun _ _ => rfl) ?_
            refine t_go (op := o_ci 78 0) (fe_X7_draughtLine 77) (fun _ _ => rfl) ?_
            refine t_go (op := o_ci 80 9) (fe_X7_draughtLine 78) (fun _ _ => rfl) ?_
            refine t_call (op := o_callV 83 74 3 6) (fe_X7_draughtLine 80) (g_callV hS (show (lay 4).1 = 6 by decide) (by decide) rfl rfl rfl (Nat.le_of_ble_eq_true rfl)) ?_
            refine M_mono ?_ (c_takeNumber (lo := 0) (hi2 := 9) hS hC (by decide) (by decide))
            rintro v3 k3 ⟨_, hn3⟩
            obtain ⟨rfl, rfl⟩ := hn3 hN
            refine t_go (op := o_istore 85 4) (fe_X7_draughtLine 83) (fun _ _ => rfl) ?_
            refine t_go (op := o_iload 87 4) (fe_X7_draughtLine 85) (fun _ _ => rfl) ?_
            refine t_go (op := o_ci 88 (-1)) (fe_X7_draughtLine 87) (fun _ _ => rfl) ?_
            refine t_ite (op := o_icmp 93 91 (fun x y => x = y) (fun _ _ => inferInstance)) (fe_X7_draughtLine 88) g_icmp (fun c9 => ?_) (fun c9 => ?_)
            · clear c9
              refine t_go (op := o_ci 92 0) (fe_X7_draughtLine 91) (fun _ _ => rfl) ?_
              refine t_ret (op := o_zret) (fe_X7_draughtLine 92) (g_zret (Or.inl rfl)) ?_
              exact hq _ (KGF_w hg5 hs hG)
            · exact absurd (by decide) c9
          · exact absurd (by decide) c8
      · refine t_go (op := o_ci 65 0) (fe_X7_draughtLine 64) (fun _ _ => rfl) ?_
        refine t_go (op := o_istore 66 3) (fe_X7_draughtLine 65) (fun _ _ => rfl) ?_
        refine t_go (op := o_iload 67 3) (fe_X7_draughtLine 66) (fun _ _ => rfl) ?_
        refine t_ite (op := o_if 70 76 (fun x => x = 0) (fun _ => inferInstance)) (fe_X7_draughtLine 67) g_if (fun c10 => ?_) (fun c10 => ?_)
        · clear c10
          refine t_go (op := o_aload 77 0) (fe_X7_draughtLine 76) (fun _ _ => rfl) ?_
          refine t_go (op := o_ci 78 0) (fe_X7_draughtLine 77) (fun _ _ => rfl) ?_
          refine t_go (op := o_ci 80 9) (fe_X7_draughtLine 78) (fun _ _ => rfl) ?_
          refine t_call (op := o_callV 83 74 3 6) (fe_X7_draughtLine 80) (g_callV hS (show (lay 4).1 = 6 by decide) (by decide) rfl rfl rfl (Nat.le_of_ble_eq_true rfl)) ?_
          refine M_mono ?_ (c_takeNumber (lo := 0) (hi2 := 9) hS hC (by decide) (by decide))
          rintro v3 k3 ⟨_, hn3⟩
          obtain ⟨rfl, rfl⟩ := hn3 hN
          refine t_go (op := o_istore 85 4) (fe_X7_draughtLine 83) (fun _ _ => rfl) ?_
          refine t_go (op := o_iload 87 4) (fe_X7_draughtLine 85) (fun _ _ => rfl) ?_
          refine t_go (op := o_ci 88 (-1)) (fe_X7_draughtLine 87) (fun _ _ => rfl) ?_
          refine t_ite (op := o_icmp 93 91 (fun x y => x = y) (fun _ _ => inferInstance)) (fe_X7_draughtLine 88) g_icmp (fun c11 => ?_) (fun c11 => ?_)
          · clear c11
            refine t_go (op := o_ci 92 0) (fe_X7_draughtLine 91) (fun _ _ => rfl) ?_
            refine t_ret (op := o_zret) (fe_X7_draughtLine 92) (g_zret (Or.inl rfl)) ?_
            exact hq _ (KGF_w hg5 hs hG)
          · exact absurd (by decide) c11
        · exact absurd (by decide) c10
    · refine t_go (op := o_aload 20 0) (fe_X7_draughtLine 19) (fun _ _ => rfl) ?_
      refine t_go (op := o_getR 23 6 0) (fe_X7_draughtLine 20) (g_getR hS (show (lay 4).1 = 6 by decide) (by decide) (fr_6_0 hS) (by decide)) ?_
      refine t_go (op := o_ci 25 59) (fe_X7_draughtLine 23) (fun _ _ => rfl) ?_
      refine t_call (op := o_callV 28 98 2 8) (fe_X7_draughtLine 25) (g_callV hS (by decide) (by decide) rfl rfl rfl (Nat.le_of_ble_eq_true rfl)) ?_
      refine M_eq (c_isSign (c := 59) hS hC (by decide)) ?_
      refine t_ite (op := o_if 105 31 (fun x => x = 0) (fun _ => inferInstance)) (fe_X7_draughtLine 28) g_if (fun c12 => ?_) (fun c12 => ?_)
      · replace c12 := b2i_z c12
        refine t_go (op := o_iload 32 2) (fe_X7_draughtLine 31) (fun _ _ => rfl) ?_
        refine t_go (op := o_ci 34 12) (fe_X7_draughtLine 32) (fun _ _ => rfl) ?_
        refine t_ite (op := o_icmp 64 37 (fun x y => x = y) (fun _ _ => inferInstance)) (fe_X7_draughtLine 34) g_icmp (fun c13 => ?_) (fun c13 => ?_)
        · refine t_go (op := o_aload 38 0) (fe_X7_draughtLine 37) (fun _ _ => rfl) ?_
          refine t_go (op := o_getR 41 6 0) (fe_X7_draughtLine 38) (g_getR hS (show (lay 4).1 = 6 by decide) (by decide) (fr_6_0 hS) (by decide)) ?_
          refine t_go (op := o_getI 44 8 2) (fe_X7_draughtLine 41) (g_getI hS (by decide) (by decide)) ?_
          rw [show h.1 2 2 = nI (cSo (tkT ch len p).1) from hC.2.2.2.1]
          refine t_go (op := o_ci 45 3) (fe_X7_draughtLine 44) (fun _ _ => rfl) ?_
          refine t_ite (op := o_icmp 64 48 (fun x y => x = y) (fun _ _ => inferInstance)) (fe_X7_draughtLine 45) g_icmp (fun c14 => ?_) (fun c14 => ?_)
          · refine t_go (op := o_aload 49 0) (fe_X7_draughtLine 48) (fun _ _ => rfl) ?_
            refine t_go (op := o_getR 52 6 0) (fe_X7_draughtLine 49) (g_getR hS (show (lay 4).1 = 6 by decide) (by decide) (fr_6_0 hS) (by decide)) ?_
            refine t_go (op := o_getI 55 8 4) (fe_X7_draughtLine 52) (g_getI hS (by decide) (by decide)) ?_
            rw [show h.1 2 4 = nI (tkT ch len p).2.2.1 from hC.2.2.2.2.2.1 (Or.inl ((cSo_3 _ hB.1).mp c14))]
            refine t_go (op := o_ci 57 9) (fe_X7_draughtLine 55) (fun _ _ => rfl) ?_
            refine t_ite (op := o_icmp 60 64 (fun x y => y < x) (fun _ _ => inferInstance)) (fe_X7_draughtLine 57) g_icmp (fun c15 => ?_) (fun c15 => ?_)
            · refine t_go (op := o_ci 65 0) (fe_X7_draughtLine 64) (fun _ _ => rfl) ?_
              refine t_go (op := o_istore 66 3) (fe_X7_draughtLine 65) (fun _ _ => rfl) ?_
              refine t_go (op := o_iload 67 3) (fe_X7_draughtLine 66) (fun _ _ => rfl) ?_
              refine t_ite (op := o_if 70 76 (fun x => x = 0) (fun _ => inferInstance)) (fe_X7_draughtLine 67) g_if (fun c16 => ?_) (fun c16 => ?_)
              · clear c16
                refine t_go (op := o_aload 77 0) (fe_X7_draughtLine 76) (fun _ _ => rfl) ?_
                refine t_go (op := o_ci 78 0) (fe_X7_draughtLine 77) (fun _ _ => rfl) ?_
                refine t_go (op := o_ci 80 9) (fe_X7_draughtLine 78) (fun _ _ => rfl) ?_
                refine t_call (op := o_callV 83 74 3 6) (fe_X7_draughtLine 80) (g_callV hS (show (lay 4).1 = 6 by decide) (by decide) rfl rfl rfl (Nat.le_of_ble_eq_true rfl)) ?_
                refine M_mono ?_ (c_takeNumber (lo := 0) (hi2 := 9) hS hC (by decide) (by decide))
                rintro v3 k3 ⟨_, hn3⟩
                obtain ⟨rfl, rfl⟩ := hn3 hN
                refine t_go (op := o_istore 85 4) (fe_X7_draughtLine 83) (fun _ _ => rfl) ?_
                refine t_go (op := o_iload 87 4) (fe_X7_draughtLine 85) (fun _ _ => rfl) ?_
                refine t_go (op := o_ci 88 (-1)) (fe_X7_draughtLine 87) (fun _ _ => rfl) ?_
                refine t_ite (op := o_icmp 93 91 (fun x y => x = y) (fun _ _ => inferInstance)) (fe_X7_draughtLine 88) g_icmp (fun c17 => ?_) (fun c17 => ?_)
                · clear c17
                  refine t_go (op := o_ci 92 0) (fe_X7_draughtLine 91) (fun _ _ => rfl) ?_
                  refine t_ret (op := o_zret) (fe_X7_draughtLine 92) (g_zret (Or.inl rfl)) ?_
                  exact hq _ (KGF_w hg5 hs hG)
                · exact absurd (by decide) c17
              · exact absurd (by decide) c16
            · exact absurd (show nuP (tkT ch len) 0 9 p 0 from ⟨rfl, (cSo_3 _ hB.1).mp c14, Nat.zero_le _, (nI_leI (b := 9) (by have := hB.2.2.1; omega) (by decide)).mp (Int32.not_lt.mp c15)⟩) hN
          · refine t_go (op := o_ci 65 0) (fe_X7_draughtLine 64) (fun _ _ => rfl) ?_
            refine t_go (op := o_istore 66 3) (fe_X7_draughtLine 65) (fun _ _ => rfl) ?_
            refine t_go (op := o_iload 67 3) (fe_X7_draughtLine 66) (fun _ _ => rfl) ?_
            refine t_ite (op := o_if 70 76 (fun x => x = 0) (fun _ => inferInstance)) (fe_X7_draughtLine 67) g_if (fun c18 => ?_) (fun c18 => ?_)
            · clear c18
              refine t_go (op := o_aload 77 0) (fe_X7_draughtLine 76) (fun _ _ => rfl) ?_
              refine t_go (op := o_ci 78 0) (fe_X7_draughtLine 77) (fun _ _ => rfl) ?_
              refine t_go (op := o_ci 80 9) (fe_X7_draughtLine 78) (fun _ _ => rfl) ?_
              refine t_call (op := o_callV 83 74 3 6) (fe_X7_draughtLine 80) (g_callV hS (show (lay 4).1 = 6 by decide) (by decide) rfl rfl rfl (Nat.le_of_ble_eq_true rfl)) ?_
              refine M_mono ?_ (c_takeNumber (lo := 0) (hi2 := 9) hS hC (by decide) (by decide))
              rintro v3 k3 ⟨_, hn3⟩
              obtain ⟨rfl, rfl⟩ := hn3 hN
              refine t_go (op := o_istore 85 4) (fe_X7_draughtLine 83) (fun _ _ => rfl) ?_
              refine t_go (op := o_iload 87 4) (fe_X7_draughtLine 85) (fun _ _ => rfl) ?_
              refine t_go (op := o_ci 88 (-1)) (fe_X7_draughtLine 87) (fun _ _ => rfl) ?_
              refine t_ite (op := o_icmp 93 91 (fun x y => x = y) (fun _ _ => inferInstance)) (fe_X7_draughtLine 88) g_icmp (fun c19 => ?_) (fun c19 => ?_)
              · clear c19
                refine t_go (op := o_ci 92 0) (fe_X7_draughtLine 91) (fun _ _ => rfl) ?_
                refine t_ret (op := o_zret) (fe_X7_draughtLine 92) (g_zret (Or.inl rfl)) ?_
                exact hq _ (KGF_w hg5 hs hG)
              · exact absurd (by decide) c19
            · exact absurd (by decide) c18
        · refine t_go (op := o_ci 65 0) (fe_X7_draughtLine 64) (fun _ _ => rfl) ?_
          refine t_go (op := o_istore 66 3) (fe_X7_draughtLine 65) (fun _ _ => rfl) ?_
          refine t_go (op := o_iload 67 3) (fe_X7_draughtLine 66) (fun _ _ => rfl) ?_
          refine t_ite (op := o_if 70 76 (fun x => x = 0) (fun _ => inferInstance)) (fe_X7_draughtLine 67) g_if (fun c20 => ?_) (fun c20 => ?_)
          · clear c20
            refine t_go (op := o_aload 77 0) (fe_X7_draughtLine 76) (fun _ _ => rfl) ?_
            refine t_go (op := o_ci 78 0) (fe_X7_draughtLine 77) (fun _ _ => rfl) ?_
            refine t_go (op := o_ci 80 9) (fe_X7_draughtLine 78) (fun _ _ => rfl) ?_
            refine t_call (op := o_callV 83 74 3 6) (fe_X7_draughtLine 80) (g_callV hS (show (lay 4).1 = 6 by decide) (by decide) rfl rfl rfl (Nat.le_of_ble_eq_true rfl)) ?_
            refine M_mono ?_ (c_takeNumber (lo := 0) (hi2 := 9) hS hC (by decide) (by decide))
            rintro v3 k3 ⟨_, hn3⟩
            obtain ⟨rfl, rfl⟩ := hn3 hN
            refine t_go (op := o_istore 85 4) (fe_X7_draughtLine 83) (fun _ _ => rfl) ?_
            refine t_go (op := o_iload 87 4) (fe_X7_draughtLine 85) (fun _ _ => rfl) ?_
            refine t_go (op := o_ci 88 (-1)) (fe_X7_draughtLine 87) (fun _ _ => rfl) ?_
            refine t_ite (op := o_icmp 93 91 (fun x y => x = y) (fun _ _ => inferInstance)) (fe_X7_draughtLine 88) g_icmp (fun c21 => ?_) (fun c21 => ?_)
            · clear c21
              refine t_go (op := o_ci 92 0) (fe_X7_draughtLine 91) (fun _ _ => rfl) ?_
              refine t_ret (op := o_zret) (fe_X7_draughtLine 92) (g_zret (Or.inl rfl)) ?_
              exact hq _ (KGF_w hg5 hs hG)
            · exact absurd (by decide) c21
          · exact absurd (by decide) c20
      · exact absurd ⟨fun q => c2 ((le_0 (by omega)).mpr q), b2i_nn c12⟩ hw
theorem k_d5 {d : Nat} {h0 h : AHP} {g : Nat} {ch : Nat → Nat} {len p j : Nat} {G : GS} (hS0 : Std h0) (hg : (lay g).1 = 3) (hg5 : 5 ≤ g) (hs : KGs h0 h g ch len p G) (hj : j ≤ 12) {x3 x4 : Option Value} (hG : gOK G) (h12 : j = 12) (hN : nuP (tkT ch len) 0 9 p 0) {Q : Option Value → AHP → Prop} (hq : ∀ h2, KGF h0 h2 g (wrF (tkT ch len) 5 p 0) → Q (some (.int 0)) h2) : TT (d + 5) 77 9 [some (.ref 4), some (.ref g), some (.int (nI j)), x3, x4] [] h Q := by
  have hS := hs.1.std hS0
  have hC := hs.2.1
  have hB := hC.b p
  refine t_go (op := o_iload 10 2) (fe_X7_draughtLine 9) (fun _ _ => rfl) ?_
  refine t_go (op := o_ci 12 12) (fe_X7_draughtLine 10) (fun _ _ => rfl) ?_
  refine t_ite (op := o_icmp 15 105 (fun x y => y < x) (fun _ _ => inferInstance)) (fe_X7_draughtLine 12) g_icmp (fun c1 => ?_) (fun c1 => ?_)
  · exact absurd c1 (Int32.not_lt.mpr (nI_le (b := 12) hj (by decide)))
  · refine t_go (op := o_iload 16 2) (fe_X7_draughtLine 15) (fun _ _ => rfl) ?_
    refine t_ite (op := o_if 19 31 (fun x => x ≤ 0) (fun _ => inferInstance)) (fe_X7_draughtLine 16) g_if (fun c2 => ?_) (fun c2 => ?_)
    · refine t_go (op := o_iload 32 2) (fe_X7_draughtLine 31) (fun _ _ => rfl) ?_
      refine t_go (op := o_ci 34 12) (fe_X7_draughtLine 32) (fun _ _ => rfl) ?_
      refine t_ite (op := o_icmp 64 37 (fun x y => x = y) (fun _ _ => inferInstance)) (fe_X7_draughtLine 34) g_icmp (fun c3 => ?_) (fun c3 => ?_)
      · refine t_go (op := o_aload 38 0) (fe_X7_draughtLine 37) (fun _ _ => rfl) ?_
        refine t_go (op := o_getR 41 6 0) (fe_X7_draughtLine 38) (g_getR hS (show (lay 4).1 = 6 by decide) (by decide) (fr_6_0 hS) (by decide)) ?_
        refine t_go (op := o_getI 44 8 2) (fe_X7_draughtLine 41) (g_getI hS (by decide) (by decide)) ?_
        rw [show h.1 2 2 = nI (cSo (tkT ch len p).1) from hC.2.2.2.1]
        refine t_go (op := o_ci 45 3) (fe_X7_draughtLine 44) (fun _ _ => rfl) ?_
        refine t_ite (op := o_icmp 64 48 (fun x y => x = y) (fun _ _ => inferInstance)) (fe_X7_draughtLine 45) g_icmp (fun c4 => ?_) (fun c4 => ?_)
        · refine t_go (op := o_aload 49 0) (fe_X7_draughtLine 48) (fun _ _ => rfl) ?_
          refine t_go (op := o_getR 52 6 0) (fe_X7_draughtLine 49) (g_getR hS (show (lay 4).1 = 6 by decide) (by decide) (fr_6_0 hS) (by decide)) ?_
          refine t_go (op := o_getI 55 8 4) (fe_X7_draughtLine 52) (g_getI hS (by decide) (by decide)) ?_
          rw [show h.1 2 4 = nI (tkT ch len p).2.2.1 from hC.2.2.2.2.2.1 (Or.inl hN.2.1)]
          refine t_go (op := o_ci 57 9) (fe_X7_draughtLine 55) (fun _ _ => rfl) ?_
          refine t_ite (op := o_icmp 60 64 (fun x y => y < x) (fun _ _ => inferInstance)) (fe_X7_draughtLine 57) g_icmp (fun c5 => ?_) (fun c5 => ?_)
          · exact absurd c5 (Int32.not_lt.mpr (nI_le (b := 9) hN.2.2.2 (by decide)))
          · refine t_go (op := o_ci 61 1) (fe_X7_draughtLine 60) (fun _ _ => rfl) ?_
            refine t_go (op := o_goto 65) (fe_X7_draughtLine 61) (fun _ _ => rfl) ?_
            refine t_go (op := o_istore 66 3) (fe_X7_draughtLine 65) (fun _ _ => rfl) ?_
            refine t_go (op := o_iload 67 3) (fe_X7_draughtLine 66) (fun _ _ => rfl) ?_
            refine t_ite (op := o_if 70 76 (fun x => x = 0) (fun _ => inferInstance)) (fe_X7_draughtLine 67) g_if (fun c6 => ?_) (fun c6 => ?_)
            · exact absurd c6 (by decide)
            · clear c6
              refine t_go (op := o_aload 71 0) (fe_X7_draughtLine 70) (fun _ _ => rfl) ?_
              refine t_go (op := o_ci 72 5) (fe_X7_draughtLine 71) (fun _ _ => rfl) ?_
              refine t_call (op := o_callV 75 71 2 6) (fe_X7_draughtLine 72) (g_callV hS (show (lay 4).1 = 6 by decide) (by decide) rfl rfl rfl (Nat.le_of_ble_eq_true rfl)) ?_
              refine M_eq (c_wrong (c := 5) hS hC) ?_
              refine t_ret (op := o_zret) (fe_X7_draughtLine 75) (g_zret (Or.inl rfl)) ?_
              exact hq _ (KGF_w hg5 hs hG)
        · exact absurd ((cSo_3 _ hB.1).mpr hN.2.1) c4
      · exact absurd (by rw [h12]; rfl) c3
    · refine t_go (op := o_aload 20 0) (fe_X7_draughtLine 19) (fun _ _ => rfl) ?_
      refine t_go (op := o_getR 23 6 0) (fe_X7_draughtLine 20) (g_getR hS (show (lay 4).1 = 6 by decide) (by decide) (fr_6_0 hS) (by decide)) ?_
      refine t_go (op := o_ci 25 59) (fe_X7_draughtLine 23) (fun _ _ => rfl) ?_
      refine t_call (op := o_callV 28 98 2 8) (fe_X7_draughtLine 25) (g_callV hS (by decide) (by decide) rfl rfl rfl (Nat.le_of_ble_eq_true rfl)) ?_
      refine M_eq (c_isSign (c := 59) hS hC (by decide)) ?_
      refine t_ite (op := o_if 105 31 (fun x => x = 0) (fun _ => inferInstance)) (fe_X7_draughtLine 28) g_if (fun c7 => ?_) (fun c7 => ?_)
      · replace c7 := b2i_z c7
        refine t_go (op := o_iload 32 2) (fe_X7_draughtLine 31) (fun _ _ => rfl) ?_
        refine t_go (op := o_ci 34 12) (fe_X7_draughtLine 32) (fun _ _ => rfl) ?_
        refine t_ite (op := o_icmp 64 37 (fun x y => x = y) (fun _ _ => inferInstance)) (fe_X7_draughtLine 34) g_icmp (fun c8 => ?_) (fun c8 => ?_)
        · refine t_go (op := o_aload 38 0) (fe_X7_draughtLine 37) (fun _ _ => rfl) ?_
          refine t_go (op := o_getR 41 6 0) (fe_X7_draughtLine 38) (g_getR hS (show (lay 4).1 = 6 by decide) (by decide) (fr_6_0 hS) (by decide)) ?_
          refine t_go (op := o_getI 44 8 2) (fe_X7_draughtLine 41) (g_getI hS (by decide) (by decide)) ?_
          rw [show h.1 2 2 = nI (cSo (tkT ch len p).1) from hC.2.2.2.1]
          refine t_go (op := o_ci 45 3) (fe_X7_draughtLine 44) (fun _ _ => rfl) ?_
          refine t_ite (op := o_icmp 64 48 (fun x y => x = y) (fun _ _ => inferInstance)) (fe_X7_draughtLine 45) g_icmp (fun c9 => ?_) (fun c9 => ?_)
          · refine t_go (op := o_aload 49 0) (fe_X7_draughtLine 48) (fun _ _ => rfl) ?_
            refine t_go (op := o_getR 52 6 0) (fe_X7_draughtLine 49) (g_getR hS (show (lay 4).1 = 6 by decide) (by decide) (fr_6_0 hS) (by decide)) ?_
            refine t_go (op := o_getI 55 8 4) (fe_X7_draughtLine 52) (g_getI hS (by decide) (by decide)) ?_
            rw [show h.1 2 4 = nI (tkT ch len p).2.2.1 from hC.2.2.2.2.2.1 (Or.inl hN.2.1)]
            refine t_go (op := o_ci 57 9) (fe_X7_draughtLine 55) (fun _ _ => rfl) ?_
            refine t_ite (op := o_icmp 60 64 (fun x y => y < x) (fun _ _ => inferInstance)) (fe_X7_draughtLine 57) g_icmp (fun c10 => ?_) (fun c10 => ?_)
            · exact absurd c10 (Int32.not_lt.mpr (nI_le (b := 9) hN.2.2.2 (by decide)))
            · refine t_go (op := o_ci 61 1) (fe_X7_draughtLine 60) (fun _ _ => rfl) ?_
              refine t_go (op := o_goto 65) (fe_X7_draughtLine 61) (fun _ _ => rfl) ?_
              refine t_go (op := o_istore 66 3) (fe_X7_draughtLine 65) (fun _ _ => rfl) ?_
              refine t_go (op := o_iload 67 3) (fe_X7_draughtLine 66) (fun _ _ => rfl) ?_
              refine t_ite (op := o_if 70 76 (fun x => x = 0) (fun _ => inferInstance)) (fe_X7_draughtLine 67) g_if (fun c11 => ?_) (fun c11 => ?_)
              · exact absurd c11 (by decide)
              · clear c11
                refine t_go (op := o_aload 71 0) (fe_X7_draughtLine 70) (fun _ _ => rfl) ?_
                refine t_go (op := o_ci 72 5) (fe_X7_draughtLine 71) (fun _ _ => rfl) ?_
                refine t_call (op := o_callV 75 71 2 6) (fe_X7_draughtLine 72) (g_callV hS (show (lay 4).1 = 6 by decide) (by decide) rfl rfl rfl (Nat.le_of_ble_eq_true rfl)) ?_
                refine M_eq (c_wrong (c := 5) hS hC) ?_
                refine t_ret (op := o_zret) (fe_X7_draughtLine 75) (g_zret (Or.inl rfl)) ?_
                exact hq _ (KGF_w hg5 hs hG)
          · exact absurd ((cSo_3 _ hB.1).mpr hN.2.1) c9
        · exact absurd (by rw [h12]; rfl) c8
      · exact absurd (hN.2.1.symm.trans (b2i_nn c7).2.1) (by decide)
theorem k_dY {d : Nat} {h0 h : AHP} {g : Nat} {ch : Nat → Nat} {len p j : Nat} {G : GS} (hS0 : Std h0) (hg : (lay g).1 = 3) (hg5 : 5 ≤ g) (hs : KGs h0 h g ch len p G) (hj : j ≤ 12) {x3 x4 : Option Value} (hjl : j = G.2.1.length) (h12 : ¬ j = 12) (hN : nuP (tkT ch len) 0 9 p 0) {Q : Option Value → AHP → Prop} (hq : ∀ h2 x3 x4, KGs h0 h2 g ch len (p + 1) (G.1, G.2.1 ++ [(tkT ch len p).2.2.1], G.2.2) → TT (d + 5) 77 9 [some (.ref 4), some (.ref g), some (.int (nI (j + 1))), x3, x4] [] h2 Q) : TT (d + 5) 77 9 [some (.ref 4), some (.ref g), some (.int (nI j)), x3, x4] [] h Q := by
  have hS := hs.1.std hS0
  have hC := hs.2.1
  have hB := hC.b p
  refine t_go (op := o_iload 10 2) (fe_X7_draughtLine 9) (fun _ _ => rfl) ?_
  refine t_go (op := o_ci 12 12) (fe_X7_draughtLine 10) (fun _ _ => rfl) ?_
  refine t_ite (op := o_icmp 15 105 (fun x y => y < x) (fun _ _ => inferInstance)) (fe_X7_draughtLine 12) g_icmp (fun c1 => ?_) (fun c1 => ?_)
  · exact absurd c1 (Int32.not_lt.mpr (nI_le (b := 12) hj (by decide)))
  · refine t_go (op := o_iload 16 2) (fe_X7_draughtLine 15) (fun _ _ => rfl) ?_
    refine t_ite (op := o_if 19 31 (fun x => x ≤ 0) (fun _ => inferInstance)) (fe_X7_draughtLine 16) g_if (fun c2 => ?_) (fun c2 => ?_)
    · refine t_go (op := o_iload 32 2) (fe_X7_draughtLine 31) (fun _ _ => rfl) ?_
      refine t_go (op := o_ci 34 12) (fe_X7_draughtLine 32) (fun _ _ => rfl) ?_
      refine t_ite (op := o_icmp 64 37 (fun x y => x = y) (fun _ _ => inferInstance)) (fe_X7_draughtLine 34) g_icmp (fun c3 => ?_) (fun c3 => ?_)
      · exact absurd ((nI_eq (b := 12) (by omega) (by decide)).mp c3) h12
      · refine t_go (op := o_ci 65 0) (fe_X7_draughtLine 64) (fun _ _ => rfl) ?_
        refine t_go (op := o_istore 66 3) (fe_X7_draughtLine 65) (fun _ _ => rfl) ?_
        refine t_go (op := o_iload 67 3) (fe_X7_draughtLine 66) (fun _ _ => rfl) ?_
        refine t_ite (op := o_if 70 76 (fun x => x = 0) (fun _ => inferInstance)) (fe_X7_draughtLine 67) g_if (fun c4 => ?_) (fun c4 => ?_)
        · clear c4
          refine t_go (op := o_aload 77 0) (fe_X7_draughtLine 76) (fun _ _ => rfl) ?_
          refine t_go (op := o_ci 78 0) (fe_X7_draughtLine 77) (fun _ _ => rfl) ?_
          refine t_go (op := o_ci 80 9) (fe_X7_draughtLine 78) (fun _ _ => rfl) ?_
          refine t_call (op := o_callV 83 74 3 6) (fe_X7_draughtLine 80) (g_callV hS (show (lay 4).1 = 6 by decide) (by decide) rfl rfl rfl (Nat.le_of_ble_eq_true rfl)) ?_
          refine M_mono ?_ (c_takeNumber (lo := 0) (hi2 := 9) hS hC (by decide) (by decide))
          rintro v3 k3 ⟨hy3, _⟩
          obtain ⟨rfl, hT3, hC3⟩ := hy3 hN
          have hs2 := KGs_T hg5 hs hT3 hC3
          replace hS := hs2.1.std hS0
          refine t_go (op := o_istore 85 4) (fe_X7_draughtLine 83) (fun _ _ => rfl) ?_
          refine t_go (op := o_iload 87 4) (fe_X7_draughtLine 85) (fun _ _ => rfl) ?_
          refine t_go (op := o_ci 88 (-1)) (fe_X7_draughtLine 87) (fun _ _ => rfl) ?_
          refine t_ite (op := o_icmp 93 91 (fun x y => x = y) (fun _ _ => inferInstance)) (fe_X7_draughtLine 88) g_icmp (fun c5 => ?_) (fun c5 => ?_)
          · exact absurd c5 (nI_m1 (by have := hN.2.2.2; omega))
          · refine t_go (op := o_aload 94 1) (fe_X7_draughtLine 93) (fun _ _ => rfl) ?_
            refine t_go (op := o_iload 96 4) (fe_X7_draughtLine 94) (fun _ _ => rfl) ?_
            refine t_call (op := o_callV 99 52 2 3) (fe_X7_draughtLine 96) (g_callV hS hg (by decide) rfl rfl rfl (Nat.le_of_ble_eq_true rfl)) ?_
            refine M_eq (c_addDraught (m := G.2.1.length) hS hg hs2.2.2.2.1.1 (by omega)) ?_
            refine t_go (op := o_iinc 102 2 1) (fe_X7_draughtLine 99) (fun _ _ => rfl) ?_
            refine t_go (op := o_goto 9) (fe_X7_draughtLine 102) (fun _ _ => rfl) ?_
            rw [nI_1]
            exact hq _ _ _ (KGs_dr hg5 hs2)
        · exact absurd (by decide) c4
    · refine t_go (op := o_aload 20 0) (fe_X7_draughtLine 19) (fun _ _ => rfl) ?_
      refine t_go (op := o_getR 23 6 0) (fe_X7_draughtLine 20) (g_getR hS (show (lay 4).1 = 6 by decide) (by decide) (fr_6_0 hS) (by decide)) ?_
      refine t_go (op := o_ci 25 59) (fe_X7_draughtLine 23) (fun _ _ => rfl) ?_
      refine t_call (op := o_callV 28 98 2 8) (fe_X7_draughtLine 25) (g_callV hS (by decide) (by decide) rfl rfl rfl (Nat.le_of_ble_eq_true rfl)) ?_
      refine M_eq (c_isSign (c := 59) hS hC (by decide)) ?_
      refine t_ite (op := o_if 105 31 (fun x => x = 0) (fun _ => inferInstance)) (fe_X7_draughtLine 28) g_if (fun c6 => ?_) (fun c6 => ?_)
      · replace c6 := b2i_z c6
        refine t_go (op := o_iload 32 2) (fe_X7_draughtLine 31) (fun _ _ => rfl) ?_
        refine t_go (op := o_ci 34 12) (fe_X7_draughtLine 32) (fun _ _ => rfl) ?_
        refine t_ite (op := o_icmp 64 37 (fun x y => x = y) (fun _ _ => inferInstance)) (fe_X7_draughtLine 34) g_icmp (fun c7 => ?_) (fun c7 => ?_)
        · exact absurd ((nI_eq (b := 12) (by omega) (by decide)).mp c7) h12
        · refine t_go (op := o_ci 65 0) (fe_X7_draughtLine 64) (fun _ _ => rfl) ?_
          refine t_go (op := o_istore 66 3) (fe_X7_draughtLine 65) (fun _ _ => rfl) ?_
          refine t_go (op := o_iload 67 3) (fe_X7_draughtLine 66) (fun _ _ => rfl) ?_
          refine t_ite (op := o_if 70 76 (fun x => x = 0) (fun _ => inferInstance)) (fe_X7_draughtLine 67) g_if (fun c8 => ?_) (fun c8 => ?_)
          · clear c8
            refine t_go (op := o_aload 77 0) (fe_X7_draughtLine 76) (fun _ _ => rfl) ?_
            refine t_go (op := o_ci 78 0) (fe_X7_draughtLine 77) (fun _ _ => rfl) ?_
            refine t_go (op := o_ci 80 9) (fe_X7_draughtLine 78) (fun _ _ => rfl) ?_
            refine t_call (op := o_callV 83 74 3 6) (fe_X7_draughtLine 80) (g_callV hS (show (lay 4).1 = 6 by decide) (by decide) rfl rfl rfl (Nat.le_of_ble_eq_true rfl)) ?_
            refine M_mono ?_ (c_takeNumber (lo := 0) (hi2 := 9) hS hC (by decide) (by decide))
            rintro v3 k3 ⟨hy3, _⟩
            obtain ⟨rfl, hT3, hC3⟩ := hy3 hN
            have hs2 := KGs_T hg5 hs hT3 hC3
            replace hS := hs2.1.std hS0
            refine t_go (op := o_istore 85 4) (fe_X7_draughtLine 83) (fun _ _ => rfl) ?_
            refine t_go (op := o_iload 87 4) (fe_X7_draughtLine 85) (fun _ _ => rfl) ?_
            refine t_go (op := o_ci 88 (-1)) (fe_X7_draughtLine 87) (fun _ _ => rfl) ?_
            refine t_ite (op := o_icmp 93 91 (fun x y => x = y) (fun _ _ => inferInstance)) (fe_X7_draughtLine 88) g_icmp (fun c9 => ?_) (fun c9 => ?_)
            · exact absurd c9 (nI_m1 (by have := hN.2.2.2; omega))
            · refine t_go (op := o_aload 94 1) (fe_X7_draughtLine 93) (fun _ _ => rfl) ?_
              refine t_go (op := o_iload 96 4) (fe_X7_draughtLine 94) (fun _ _ => rfl) ?_
              refine t_call (op := o_callV 99 52 2 3) (fe_X7_draughtLine 96) (g_callV hS hg (by decide) rfl rfl rfl (Nat.le_of_ble_eq_true rfl)) ?_
              refine M_eq (c_addDraught (m := G.2.1.length) hS hg hs2.2.2.2.1.1 (by omega)) ?_
              refine t_go (op := o_iinc 102 2 1) (fe_X7_draughtLine 99) (fun _ _ => rfl) ?_
              refine t_go (op := o_goto 9) (fe_X7_draughtLine 102) (fun _ _ => rfl) ?_
              rw [nI_1]
              exact hq _ _ _ (KGs_dr hg5 hs2)
          · exact absurd (by decide) c8
      · exact absurd (hN.2.1.symm.trans (b2i_nn c6).2.1) (by decide)
theorem k_drL {d : Nat} {h0 : AHP} {g : Nat} {ch : Nat → Nat} {len : Nat} (hS0 : Std h0) (hg : (lay g).1 = 3) (hg5 : 5 ≤ g) {Q : Option Value → AHP → Prop} : ∀ (k j p : Nat) (G : GS) (h : AHP) (x3 x4 : Option Value), j + k = 13 → j ≤ 12 → j = G.2.1.length → gOK G → KGs h0 h g ch len p G → (∀ v h2, KL h0 g ch len (cI ((dS (tkT ch len) k p j).1 = 0) (sgF (tkT ch len) (dS (tkT ch len) k p j).2.1) (dS (tkT ch len) k p j).1, (dS (tkT ch len) k p j).2.1 + 1, (G.1, G.2.1 ++ (dS (tkT ch len) k p j).2.2, G.2.2)) v h2 → Q v h2) → TT (d + 5) 77 9 [some (.ref 4), some (.ref g), some (.int (nI j)), x3, x4] [] h Q := by
  intro k
  induction k with
  | zero => intro j p G h x3 x4 h1 h2; omega
  | succ k ih =>
    intro j p G h x3 x4 h1 hj hjl hG hs hq
    rw [dS] at hq
    by_cases c1 : ¬ j = 0 ∧ ¬ (tkT ch len p).1 = 2
    · rw [cI_t c1] at hq
      by_cases hw : isS (tkT ch len) 59 p 0
      · refine k_dX hS0 hg hg5 hs hj c1.1 hw (fun h2 hs2 => hq _ _ (KL_t ((cI_t rfl).trans (cI_t hw)) ?_))
        show KGs h0 h2 g ch len (p + 1) (G.1, G.2.1 ++ [], G.2.2)
        rw [List.append_nil]
        exact hs2
      · refine k_dN hS0 hg hg5 hs hj hG (fun q => hw q.2) (fun q => c1.2 q.2.1) (fun h2 q => hq _ _ (KL_f (F := wrF (tkT ch len) 1 p 0) ((cI_t rfl).trans (cI_f hw)) (wrF_p (by decide)) ?_))
        have e : nmF (tkT ch len) p = 1 := if_neg c1.2
        rw [e] at q
        exact q
    rw [cI_f c1] at hq
    have hnw : ¬ (¬ j = 0 ∧ isS (tkT ch len) 59 p 0) := fun q => c1 ⟨q.1, by rw [q.2.2.1]; decide⟩
    by_cases c2 : ¬ nuP (tkT ch len) 0 9 p 0
    · rw [cI_t c2] at hq
      exact k_dN hS0 hg hg5 hs hj hG hnw c2 (fun h2 q => hq _ _ (KL_f (cI_f (wrF_p nmF_5.1)) (wrF_p nmF_5.1) q))
    rw [cI_f c2] at hq
    have c2' := Classical.not_not.mp c2
    by_cases c3 : j = 12
    · rw [cI_t c3] at hq
      exact k_d5 hS0 hg hg5 hs hj hG c3 c2' (fun h2 q => hq _ _ (KL_f (cI_f (wrF_p (by decide))) (wrF_p (by decide)) q))
    rw [cI_f c3] at hq
    refine k_dY hS0 hg hg5 hs hj hjl c3 c2' (fun h2 y3 y4 hs2 => ih (j + 1) (p + 1) (G.1, G.2.1 ++ [(tkT ch len p).2.2.1], G.2.2) h2 y3 y4 (by omega) (by omega) ?_ ?_ hs2 ?_)
    · show j + 1 = (G.2.1 ++ [(tkT ch len p).2.2.1]).length
      rw [len_sn]; omega
    · refine gOK_dr (G := G) hG ?_
      rw [len_sn]; omega
    · intro v h3 q
      refine hq v h3 ?_
      rw [show (G.2.1 ++ [(tkT ch len p).2.2.1]) ++ (dS (tkT ch len) k (p + 1) (j + 1)).2.2 = G.2.1 ++ ((tkT ch len p).2.2.1 :: (dS (tkT ch len) k (p + 1) (j + 1)).2.2) from by rw [List.append_assoc]; rfl] at q
      exact q
theorem k_draughtLine {d : Nat} {h0 h : AHP} {g : Nat} {ch : Nat → Nat} {len i : Nat} {G : GS} (hS0 : Std h0) (hg : (lay g).1 = 3) (hg5 : 5 ≤ g) (hs : KGs h0 h g ch len i G) (hG : gOK G) (hd : G.2.1 = []) : MM (d + 5) 77 [.ref 4, .ref g] h (fun v h2 => KL h0 g ch len (gD (tkT ch len) i G) v h2) := by
  refine ⟨Nat.le_of_ble_eq_true rfl, ?_⟩
  have hS := hs.1.std hS0
  have hC := hs.2.1
  refine t_go (op := o_aload 1 0) (fe_X7_draughtLine 0) (fun _ _ => rfl) ?_
  refine t_go (op := o_getR 4 6 0) (fe_X7_draughtLine 1) (g_getR hS (show (lay 4).1 = 6 by decide) (by decide) (fr_6_0 hS) (by decide)) ?_
  refine t_call (op := o_callV 7 97 1 8) (fe_X7_draughtLine 4) (g_callV hS (by decide) (by decide) rfl rfl rfl (Nat.le_of_ble_eq_true rfl)) ?_
  refine M_mono ?_ (c_toNext hS hC)
  rintro _ k2 ⟨rfl, hT, hC2⟩
  have hs1 := KGs_T hg5 hs hT hC2
  replace hS := hs1.1.std hS0
  refine t_go (op := o_ci 8 0) (fe_X7_draughtLine 7) (fun _ _ => rfl) ?_
  refine t_go (op := o_istore 9 2) (fe_X7_draughtLine 8) (fun _ _ => rfl) ?_
  refine k_drL hS0 hg hg5 13 0 (i + 1) G _ none none rfl (by decide) (by rw [hd]; rfl) hG hs1 (fun v h2 q => ?_)
  rw [hd, List.nil_append] at q
  exact q
theorem k_l9 {d : Nat} {h0 h : AHP} {g : Nat} {ch : Nat → Nat} {len i : Nat} {G : GS} (hS0 : Std h0) (hg : (lay g).1 = 3) (hg5 : 5 ≤ g) (hs : KGs h0 h g ch len i G) (hG : gOK G) (hn0 : ¬ isWd (tkT ch len) 0 i 0) (hn4 : ¬ isWd (tkT ch len) 4 i 0) (hn5 : ¬ isWd (tkT ch len) 5 i 0) (hn6 : ¬ isWd (tkT ch len) 6 i 0) : MM (d + 42) 75 [.ref 4, .ref g] h (fun v h2 => KL h0 g ch len (wrF (tkT ch len) 1 i 0, i, G) v h2) := by
  refine ⟨Nat.le_of_ble_eq_true rfl, ?_⟩
  have hS := hs.1.std hS0
  have hC := hs.2.1
  obtain ⟨K6, hK6, eK⟩ : ∃ x, h.2.2.1 2 6 = x ∧ x = 200000 + kyN (tkT ch len i) := ⟨_, hC.key, rfl⟩
  have hB6 := hC.b i
  have bK : 200000 ≤ K6 ∧ K6 < 200025 := by have := ky_le hB6; omega
  have eK2 : K6 - 200000 = kyN (tkT ch len i) := by omega
  refine t_go (op := o_aload 1 0) (fe_X7_grateLine 0) (fun _ _ => rfl) ?_
  refine t_go (op := o_getR 4 6 0) (fe_X7_grateLine 1) (g_getR hS (show (lay 4).1 = 6 by decide) (by decide) (fr_6_0 hS) (by decide)) ?_
  refine t_go (op := o_getR 7 8 6) (fe_X7_grateLine 4) (g_getR hS (by decide) (by decide) hK6 (by omega)) ?_
  refine t_go (op := o_gets 10 200000) (fe_X7_grateLine 7) (fun _ _ => rfl) ?_
  refine t_ite (op := o_acmpNe 13 36) (fe_X7_grateLine 10) (g_acmpNe ⟨bK.1, bK.2, by decide, by decide⟩) (fun c1 => ?_) (fun c1 => ?_)
  · exact absurd ((ky_w (c := 0) (by decide)).mp (eK.symm.trans c1)) hn0
  · refine t_go (op := o_aload 37 0) (fe_X7_grateLine 36) (fun _ _ => rfl) ?_
    refine t_go (op := o_getR 40 6 0) (fe_X7_grateLine 37) (g_getR hS (show (lay 4).1 = 6 by decide) (by decide) (fr_6_0 hS) (by decide)) ?_
    refine t_go (op := o_getR 43 8 6) (fe_X7_grateLine 40) (g_getR hS (by decide) (by decide) hK6 (by omega)) ?_
    refine t_go (op := o_gets 46 200004) (fe_X7_grateLine 43) (fun _ _ => rfl) ?_
    refine t_ite (op := o_acmpNe 49 70) (fe_X7_grateLine 46) (g_acmpNe ⟨bK.1, bK.2, by decide, by decide⟩) (fun c2 => ?_) (fun c2 => ?_)
    · exact absurd ((ky_w (c := 4) (by decide)).mp (eK.symm.trans c2)) hn4
    · refine t_go (op := o_aload 71 0) (fe_X7_grateLine 70) (fun _ _ => rfl) ?_
      refine t_go (op := o_getR 74 6 0) (fe_X7_grateLine 71) (g_getR hS (show (lay 4).1 = 6 by decide) (by decide) (fr_6_0 hS) (by decide)) ?_
      refine t_go (op := o_getR 77 8 6) (fe_X7_grateLine 74) (g_getR hS (by decide) (by decide) hK6 (by omega)) ?_
      refine t_go (op := o_gets 80 200005) (fe_X7_grateLine 77) (fun _ _ => rfl) ?_
      refine t_ite (op := o_acmpNe 83 104) (fe_X7_grateLine 80) (g_acmpNe ⟨bK.1, bK.2, by decide, by decide⟩) (fun c3 => ?_) (fun c3 => ?_)
      · exact absurd ((ky_w (c := 5) (by decide)).mp (eK.symm.trans c3)) hn5
      · refine t_go (op := o_aload 105 0) (fe_X7_grateLine 104) (fun _ _ => rfl) ?_
        refine t_go (op := o_getR 108 6 0) (fe_X7_grateLine 105) (g_getR hS (show (lay 4).1 = 6 by decide) (by decide) (fr_6_0 hS) (by decide)) ?_
        refine t_go (op := o_getR 111 8 6) (fe_X7_grateLine 108) (g_getR hS (by decide) (by decide) hK6 (by omega)) ?_
        refine t_go (op := o_gets 114 200006) (fe_X7_grateLine 111) (fun _ _ => rfl) ?_
        refine t_ite (op := o_acmpNe 117 168) (fe_X7_grateLine 114) (g_acmpNe ⟨bK.1, bK.2, by decide, by decide⟩) (fun c4 => ?_) (fun c4 => ?_)
        · exact absurd ((ky_w (c := 6) (by decide)).mp (eK.symm.trans c4)) hn6
        · refine t_go (op := o_aload 169 0) (fe_X7_grateLine 168) (fun _ _ => rfl) ?_
          refine t_go (op := o_ci 170 1) (fe_X7_grateLine 169) (fun _ _ => rfl) ?_
          refine t_call (op := o_callV 173 71 2 6) (fe_X7_grateLine 170) (g_callV hS (show (lay 4).1 = 6 by decide) (by decide) rfl rfl rfl (Nat.le_of_ble_eq_true rfl)) ?_
          refine M_eq (c_wrong (c := 1) hS hC) ?_
          refine t_ret (op := o_zret) (fe_X7_grateLine 173) (g_zret (Or.inl rfl)) ?_
          exact KL_f rfl (wrF_p (by decide)) (KGF_w hg5 hs hG)
theorem k_l07 {d : Nat} {h0 h : AHP} {g : Nat} {ch : Nat → Nat} {len i : Nat} {G : GS} (hS0 : Std h0) (hg : (lay g).1 = 3) (hg5 : 5 ≤ g) (hs : KGs h0 h g ch len i G) (hG : gOK G) (hw : isWd (tkT ch len) 0 i 0) (h7 : G.1.length = 7) : MM (d + 42) 75 [.ref 4, .ref g] h (fun v h2 => KL h0 g ch len (wrF (tkT ch len) 5 i 0, i, G) v h2) := by
  refine ⟨Nat.le_of_ble_eq_true rfl, ?_⟩
  have hS := hs.1.std hS0
  have hC := hs.2.1
  obtain ⟨K6, hK6, eK⟩ : ∃ x, h.2.2.1 2 6 = x ∧ x = 200000 + kyN (tkT ch len i) := ⟨_, hC.key, rfl⟩
  have hB6 := hC.b i
  have bK : 200000 ≤ K6 ∧ K6 < 200025 := by have := ky_le hB6; omega
  have eK2 : K6 - 200000 = kyN (tkT ch len i) := by omega
  refine t_go (op := o_aload 1 0) (fe_X7_grateLine 0) (fun _ _ => rfl) ?_
  refine t_go (op := o_getR 4 6 0) (fe_X7_grateLine 1) (g_getR hS (show (lay 4).1 = 6 by decide) (by decide) (fr_6_0 hS) (by decide)) ?_
  refine t_go (op := o_getR 7 8 6) (fe_X7_grateLine 4) (g_getR hS (by decide) (by decide) hK6 (by omega)) ?_
  refine t_go (op := o_gets 10 200000) (fe_X7_grateLine 7) (fun _ _ => rfl) ?_
  refine t_ite (op := o_acmpNe 13 36) (fe_X7_grateLine 10) (g_acmpNe ⟨bK.1, bK.2, by decide, by decide⟩) (fun c1 => ?_) (fun c1 => ?_)
  · refine t_go (op := o_aload 14 1) (fe_X7_grateLine 13) (fun _ _ => rfl) ?_
    refine t_go (op := o_getI 17 3 4) (fe_X7_grateLine 14) (g_getI hS hg (by decide)) ?_
    rw [hs.2.2.1.1]
    refine t_go (op := o_ci 19 7) (fe_X7_grateLine 17) (fun _ _ => rfl) ?_
    refine t_ite (op := o_icmp 22 30 (fun x y => x < y) (fun _ _ => inferInstance)) (fe_X7_grateLine 19) g_icmp (fun c2 => ?_) (fun c2 => ?_)
    · exact absurd (show nI G.1.length < 7 from c2) (by rw [h7]; decide)
    · refine t_go (op := o_aload 23 0) (fe_X7_grateLine 22) (fun _ _ => rfl) ?_
      refine t_go (op := o_ci 24 5) (fe_X7_grateLine 23) (fun _ _ => rfl) ?_
      refine t_call (op := o_callV 27 71 2 6) (fe_X7_grateLine 24) (g_callV hS (show (lay 4).1 = 6 by decide) (by decide) rfl rfl rfl (Nat.le_of_ble_eq_true rfl)) ?_
      refine M_eq (c_wrong (c := 5) hS hC) ?_
      refine t_go (op := o_goto 35) (fe_X7_grateLine 27) (fun _ _ => rfl) ?_
      refine t_ret (op := o_zret) (fe_X7_grateLine 35) (g_zret (Or.inl rfl)) ?_
      exact KL_f rfl (wrF_p (by decide)) (KGF_w hg5 hs hG)
  · exact absurd (eK.trans ((ky_w (c := 0) (by decide)).mpr hw)) c1
theorem k_l0 {d : Nat} {h0 h : AHP} {g : Nat} {ch : Nat → Nat} {len i : Nat} {G : GS} (hS0 : Std h0) (hg : (lay g).1 = 3) (hg5 : 5 ≤ g) (hs : KGs h0 h g ch len i G) (hG : gOK G) (hw : isWd (tkT ch len) 0 i 0) (h7 : ¬ G.1.length = 7) : MM (d + 42) 75 [.ref 4, .ref g] h (fun v h2 => KL h0 g ch len (gE (tkT ch len) i G) v h2) := by
  refine ⟨Nat.le_of_ble_eq_true rfl, ?_⟩
  have hS := hs.1.std hS0
  have hC := hs.2.1
  obtain ⟨K6, hK6, eK⟩ : ∃ x, h.2.2.1 2 6 = x ∧ x = 200000 + kyN (tkT ch len i) := ⟨_, hC.key, rfl⟩
  have hB6 := hC.b i
  have bK : 200000 ≤ K6 ∧ K6 < 200025 := by have := ky_le hB6; omega
  have eK2 : K6 - 200000 = kyN (tkT ch len i) := by omega
  refine t_go (op := o_aload 1 0) (fe_X7_grateLine 0) (fun _ _ => rfl) ?_
  refine t_go (op := o_getR 4 6 0) (fe_X7_grateLine 1) (g_getR hS (show (lay 4).1 = 6 by decide) (by decide) (fr_6_0 hS) (by decide)) ?_
  refine t_go (op := o_getR 7 8 6) (fe_X7_grateLine 4) (g_getR hS (by decide) (by decide) hK6 (by omega)) ?_
  refine t_go (op := o_gets 10 200000) (fe_X7_grateLine 7) (fun _ _ => rfl) ?_
  refine t_ite (op := o_acmpNe 13 36) (fe_X7_grateLine 10) (g_acmpNe ⟨bK.1, bK.2, by decide, by decide⟩) (fun c1 => ?_) (fun c1 => ?_)
  · refine t_go (op := o_aload 14 1) (fe_X7_grateLine 13) (fun _ _ => rfl) ?_
    refine t_go (op := o_getI 17 3 4) (fe_X7_grateLine 14) (g_getI hS hg (by decide)) ?_
    rw [hs.2.2.1.1]
    refine t_go (op := o_ci 19 7) (fe_X7_grateLine 17) (fun _ _ => rfl) ?_
    refine t_ite (op := o_icmp 22 30 (fun x y => x < y) (fun _ _ => inferInstance)) (fe_X7_grateLine 19) g_icmp (fun c2 => ?_) (fun c2 => ?_)
    · refine t_go (op := o_aload 31 0) (fe_X7_grateLine 30) (fun _ _ => rfl) ?_
      refine t_go (op := o_aload 32 1) (fe_X7_grateLine 31) (fun _ _ => rfl) ?_
      refine t_call (op := o_callV 35 76 2 6) (fe_X7_grateLine 32) (g_callV hS (show (lay 4).1 = 6 by decide) (by decide) rfl rfl rfl (Nat.le_of_ble_eq_true rfl)) ?_
      refine M_mono ?_ (k_emberLine (d := d + 36) hS0 hg hg5 hs hG h7)
      rintro _ k9 ⟨rfl, hk9⟩
      refine t_ret (op := o_zret) (fe_X7_grateLine 35) (g_zret b2i_01) ?_
      exact ⟨rfl, hk9⟩
    · exact absurd (nI_lt (b := 7) (show G.1.length < 7 by have := hG.1; omega) (by decide)) c2
  · exact absurd (eK.trans ((ky_w (c := 0) (by decide)).mpr hw)) c1
theorem k_l4T {d : Nat} {h0 h : AHP} {g : Nat} {ch : Nat → Nat} {len i : Nat} {G : GS} (hS0 : Std h0) (hg : (lay g).1 = 3) (hg5 : 5 ≤ g) (hs : KGs h0 h g ch len i G) (hG : gOK G) (hn0 : ¬ isWd (tkT ch len) 0 i 0) (hw : isWd (tkT ch len) 4 i 0) (hd : ¬ G.2.1 = []) : MM (d + 42) 75 [.ref 4, .ref g] h (fun v h2 => KL h0 g ch len (wrF (tkT ch len) 3 i 0, i, G) v h2) := by
  refine ⟨Nat.le_of_ble_eq_true rfl, ?_⟩
  have hS := hs.1.std hS0
  have hC := hs.2.1
  obtain ⟨K6, hK6, eK⟩ : ∃ x, h.2.2.1 2 6 = x ∧ x = 200000 + kyN (tkT ch len i) := ⟨_, hC.key, rfl⟩
  have hB6 := hC.b i
  have bK : 200000 ≤ K6 ∧ K6 < 200025 := by have := ky_le hB6; omega
  have eK2 : K6 - 200000 = kyN (tkT ch len i) := by omega
  refine t_go (op := o_aload 1 0) (fe_X7_grateLine 0) (fun _ _ => rfl) ?_
  refine t_go (op := o_getR 4 6 0) (fe_X7_grateLine 1) (g_getR hS (show (lay 4).1 = 6 by decide) (by decide) (fr_6_0 hS) (by decide)) ?_
  refine t_go (op := o_getR 7 8 6) (fe_X7_grateLine 4) (g_getR hS (by decide) (by decide) hK6 (by omega)) ?_
  refine t_go (op := o_gets 10 200000) (fe_X7_grateLine 7) (fun _ _ => rfl) ?_
  refine t_ite (op := o_acmpNe 13 36) (fe_X7_grateLine 10) (g_acmpNe ⟨bK.1, bK.2, by decide, by decide⟩) (fun c1 => ?_) (fun c1 => ?_)
  · exact absurd ((ky_w (c := 0) (by decide)).mp (eK.symm.trans c1)) hn0
  · refine t_go (op := o_aload 37 0) (fe_X7_grateLine 36) (fun _ _ => rfl) ?_
    refine t_go (op := o_getR 40 6 0) (fe_X7_grateLine 37) (g_getR hS (show (lay 4).1 = 6 by decide) (by decide) (fr_6_0 hS) (by decide)) ?_
    refine t_go (op := o_getR 43 8 6) (fe_X7_grateLine 40) (g_getR hS (by decide) (by decide) hK6 (by omega)) ?_
    refine t_go (op := o_gets 46 200004) (fe_X7_grateLine 43) (fun _ _ => rfl) ?_
    refine t_ite (op := o_acmpNe 49 70) (fe_X7_grateLine 46) (g_acmpNe ⟨bK.1, bK.2, by decide, by decide⟩) (fun c2 => ?_) (fun c2 => ?_)
    · refine t_go (op := o_aload 50 1) (fe_X7_grateLine 49) (fun _ _ => rfl) ?_
      refine t_go (op := o_getI 53 3 7) (fe_X7_grateLine 50) (g_getI hS hg (by decide)) ?_
      rw [hs.2.2.2.1.1]
      refine t_ite (op := o_if 56 64 (fun x => x ≤ 0) (fun _ => inferInstance)) (fe_X7_grateLine 53) g_if (fun c3 => ?_) (fun c3 => ?_)
      · exact absurd ((le_0 (by have := hG.2.2.2.1; omega)).mp c3) (fun q => hd (List.length_eq_zero_iff.mp q))
      · refine t_go (op := o_aload 57 0) (fe_X7_grateLine 56) (fun _ _ => rfl) ?_
        refine t_go (op := o_ci 58 3) (fe_X7_grateLine 57) (fun _ _ => rfl) ?_
        refine t_call (op := o_callV 61 71 2 6) (fe_X7_grateLine 58) (g_callV hS (show (lay 4).1 = 6 by decide) (by decide) rfl rfl rfl (Nat.le_of_ble_eq_true rfl)) ?_
        refine M_eq (c_wrong (c := 3) hS hC) ?_
        refine t_go (op := o_goto 69) (fe_X7_grateLine 61) (fun _ _ => rfl) ?_
        refine t_ret (op := o_zret) (fe_X7_grateLine 69) (g_zret (Or.inl rfl)) ?_
        exact KL_f rfl (wrF_p (by decide)) (KGF_w hg5 hs hG)
    · exact absurd (eK.trans ((ky_w (c := 4) (by decide)).mpr hw)) c2
theorem k_l4 {d : Nat} {h0 h : AHP} {g : Nat} {ch : Nat → Nat} {len i : Nat} {G : GS} (hS0 : Std h0) (hg : (lay g).1 = 3) (hg5 : 5 ≤ g) (hs : KGs h0 h g ch len i G) (hG : gOK G) (hn0 : ¬ isWd (tkT ch len) 0 i 0) (hw : isWd (tkT ch len) 4 i 0) (hd : G.2.1 = []) : MM (d + 42) 75 [.ref 4, .ref g] h (fun v h2 => KL h0 g ch len (gD (tkT ch len) i G) v h2) := by
  refine ⟨Nat.le_of_ble_eq_true rfl, ?_⟩
  have hS := hs.1.std hS0
  have hC := hs.2.1
  obtain ⟨K6, hK6, eK⟩ : ∃ x, h.2.2.1 2 6 = x ∧ x = 200000 + kyN (tkT ch len i) := ⟨_, hC.key, rfl⟩
  have hB6 := hC.b i
  have bK : 200000 ≤ K6 ∧ K6 < 200025 := by have := ky_le hB6; omega
  have eK2 : K6 - 200000 = kyN (tkT ch len i) := by omega
  refine t_go (op := o_aload 1 0) (fe_X7_grateLine 0) (fun _ _ => rfl) ?_
  refine t_go (op := o_getR 4 6 0) (fe_X7_grateLine 1) (g_getR hS (show (lay 4).1 = 6 by decide) (by decide) (fr_6_0 hS) (by decide)) ?_
  refine t_go (op := o_getR 7 8 6) (fe_X7_grateLine 4) (g_getR hS (by decide) (by decide) hK6 (by omega)) ?_
  refine t_go (op := o_gets 10 200000) (fe_X7_grateLine 7) (fun _ _ => rfl) ?_
  refine t_ite (op := o_acmpNe 13 36) (fe_X7_grateLine 10) (g_acmpNe ⟨bK.1, bK.2, by decide, by decide⟩) (fun c1 => ?_) (fun c1 => ?_)
  · exact absurd ((ky_w (c := 0) (by decide)).mp (eK.symm.trans c1)) hn0
  · refine t_go (op := o_aload 37 0) (fe_X7_grateLine 36) (fun _ _ => rfl) ?_
    refine t_go (op := o_getR 40 6 0) (fe_X7_grateLine 37) (g_getR hS (show (lay 4).1 = 6 by decide) (by decide) (fr_6_0 hS) (by decide)) ?_
    refine t_go (op := o_getR 43 8 6) (fe_X7_grateLine 40) (g_getR hS (by decide) (by decide) hK6 (by omega)) ?_
    refine t_go (op := o_gets 46 200004) (fe_X7_grateLine 43) (fun _ _ => rfl) ?_
    refine t_ite (op := o_acmpNe 49 70) (fe_X7_grateLine 46) (g_acmpNe ⟨bK.1, bK.2, by decide, by decide⟩) (fun c2 => ?_) (fun c2 => ?_)
    · refine t_go (op := o_aload 50 1) (fe_X7_grateLine 49) (fun _ _ => rfl) ?_
      refine t_go (op := o_getI 53 3 7) (fe_X7_grateLine 50) (g_getI hS hg (by decide)) ?_
      rw [hs.2.2.2.1.1]
      refine t_ite (op := o_if 56 64 (fun x => x ≤ 0) (fun _ => inferInstance)) (fe_X7_grateLine 53) g_if (fun c3 => ?_) (fun c3 => ?_)
      · refine t_go (op := o_aload 65 0) (fe_X7_grateLine 64) (fun _ _ => rfl) ?_
        refine t_go (op := o_aload 66 1) (fe_X7_grateLine 65) (fun _ _ => rfl) ?_
        refine t_call (op := o_callV 69 77 2 6) (fe_X7_grateLine 66) (g_callV hS (show (lay 4).1 = 6 by decide) (by decide) rfl rfl rfl (Nat.le_of_ble_eq_true rfl)) ?_
        refine M_mono ?_ (k_draughtLine (d := d + 36) hS0 hg hg5 hs hG hd)
        rintro _ k9 ⟨rfl, hk9⟩
        refine t_ret (op := o_zret) (fe_X7_grateLine 69) (g_zret b2i_01) ?_
        exact ⟨rfl, hk9⟩
      · exact absurd (by rw [hd]; decide) c3
    · exact absurd (eK.trans ((ky_w (c := 4) (by decide)).mpr hw)) c2
theorem k_l5T {d : Nat} {h0 h : AHP} {g : Nat} {ch : Nat → Nat} {len i : Nat} {G : GS} (hS0 : Std h0) (hg : (lay g).1 = 3) (hg5 : 5 ≤ g) (hs : KGs h0 h g ch len i G) (hG : gOK G) (hn0 : ¬ isWd (tkT ch len) 0 i 0) (hn4 : ¬ isWd (tkT ch len) 4 i 0) (hw : isWd (tkT ch len) 5 i 0) (hd : ¬ G.2.2.1 = 0) : MM (d + 42) 75 [.ref 4, .ref g] h (fun v h2 => KL h0 g ch len (wrF (tkT ch len) 3 i 0, i, G) v h2) := by
  refine ⟨Nat.le_of_ble_eq_true rfl, ?_⟩
  have hS := hs.1.std hS0
  have hC := hs.2.1
  obtain ⟨K6, hK6, eK⟩ : ∃ x, h.2.2.1 2 6 = x ∧ x = 200000 + kyN (tkT ch len i) := ⟨_, hC.key, rfl⟩
  have hB6 := hC.b i
  have bK : 200000 ≤ K6 ∧ K6 < 200025 := by have := ky_le hB6; omega
  have eK2 : K6 - 200000 = kyN (tkT ch len i) := by omega
  refine t_go (op := o_aload 1 0) (fe_X7_grateLine 0) (fun _ _ => rfl) ?_
  refine t_go (op := o_getR 4 6 0) (fe_X7_grateLine 1) (g_getR hS (show (lay 4).1 = 6 by decide) (by decide) (fr_6_0 hS) (by decide)) ?_
  refine t_go (op := o_getR 7 8 6) (fe_X7_grateLine 4) (g_getR hS (by decide) (by decide) hK6 (by omega)) ?_
  refine t_go (op := o_gets 10 200000) (fe_X7_grateLine 7) (fun _ _ => rfl) ?_
  refine t_ite (op := o_acmpNe 13 36) (fe_X7_grateLine 10) (g_acmpNe ⟨bK.1, bK.2, by decide, by decide⟩) (fun c1 => ?_) (fun c1 => ?_)
  · exact absurd ((ky_w (c := 0) (by decide)).mp (eK.symm.trans c1)) hn0
  · refine t_go (op := o_aload 37 0) (fe_X7_grateLine 36) (fun _ _ => rfl) ?_
    refine t_go (op := o_getR 40 6 0) (fe_X7_grateLine 37) (g_getR hS (show (lay 4).1 = 6 by decide) (by decide) (fr_6_0 hS) (by decide)) ?_
    refine t_go (op := o_getR 43 8 6) (fe_X7_grateLine 40) (g_getR hS (by decide) (by decide) hK6 (by omega)) ?_
    refine t_go (op := o_gets 46 200004) (fe_X7_grateLine 43) (fun _ _ => rfl) ?_
    refine t_ite (op := o_acmpNe 49 70) (fe_X7_grateLine 46) (g_acmpNe ⟨bK.1, bK.2, by decide, by decide⟩) (fun c2 => ?_) (fun c2 => ?_)
    · exact absurd ((ky_w (c := 4) (by decide)).mp (eK.symm.trans c2)) hn4
    · refine t_go (op := o_aload 71 0) (fe_X7_grateLine 70) (fun _ _ => rfl) ?_
      refine t_go (op := o_getR 74 6 0) (fe_X7_grateLine 71) (g_getR hS (show (lay 4).1 = 6 by decide) (by decide) (fr_6_0 hS) (by decide)) ?_
      refine t_go (op := o_getR 77 8 6) (fe_X7_grateLine 74) (g_getR hS (by decide) (by decide) hK6 (by omega)) ?_
      refine t_go (op := o_gets 80 200005) (fe_X7_grateLine 77) (fun _ _ => rfl) ?_
      refine t_ite (op := o_acmpNe 83 104) (fe_X7_grateLine 80) (g_acmpNe ⟨bK.1, bK.2, by decide, by decide⟩) (fun c3 => ?_) (fun c3 => ?_)
      · refine t_go (op := o_aload 84 1) (fe_X7_grateLine 83) (fun _ _ => rfl) ?_
        refine t_go (op := o_getI 87 3 6) (fe_X7_grateLine 84) (g_getI hS hg (by decide)) ?_
        rw [hs.2.2.2.2.1.2, if_neg hd]
        refine t_ite (op := o_if 90 98 (fun x => x = 0) (fun _ => inferInstance)) (fe_X7_grateLine 87) g_if (fun c4 => ?_) (fun c4 => ?_)
        · exact absurd c4 (by decide)
        · refine t_go (op := o_aload 91 0) (fe_X7_grateLine 90) (fun _ _ => rfl) ?_
          refine t_go (op := o_ci 92 3) (fe_X7_grateLine 91) (fun _ _ => rfl) ?_
          refine t_call (op := o_callV 95 71 2 6) (fe_X7_grateLine 92) (g_callV hS (show (lay 4).1 = 6 by decide) (by decide) rfl rfl rfl (Nat.le_of_ble_eq_true rfl)) ?_
          refine M_eq (c_wrong (c := 3) hS hC) ?_
          refine t_go (op := o_goto 103) (fe_X7_grateLine 95) (fun _ _ => rfl) ?_
          refine t_ret (op := o_zret) (fe_X7_grateLine 103) (g_zret (Or.inl rfl)) ?_
          exact KL_f rfl (wrF_p (by decide)) (KGF_w hg5 hs hG)
      · exact absurd (eK.trans ((ky_w (c := 5) (by decide)).mpr hw)) c3
theorem k_l5 {d : Nat} {h0 h : AHP} {g : Nat} {ch : Nat → Nat} {len i : Nat} {G : GS} (hS0 : Std h0) (hg : (lay g).1 = 3) (hg5 : 5 ≤ g) (hs : KGs h0 h g ch len i G) (hG : gOK G) (hn0 : ¬ isWd (tkT ch len) 0 i 0) (hn4 : ¬ isWd (tkT ch len) 4 i 0) (hw : isWd (tkT ch len) 5 i 0) (hd : G.2.2.1 = 0) : MM (d + 42) 75 [.ref 4, .ref g] h (fun v h2 => KL h0 g ch len (gC (tkT ch len) i G) v h2) := by
  refine ⟨Nat.le_of_ble_eq_true rfl, ?_⟩
  have hS := hs.1.std hS0
  have hC := hs.2.1
  obtain ⟨K6, hK6, eK⟩ : ∃ x, h.2.2.1 2 6 = x ∧ x = 200000 + kyN (tkT ch len i) := ⟨_, hC.key, rfl⟩
  have hB6 := hC.b i
  have bK : 200000 ≤ K6 ∧ K6 < 200025 := by have := ky_le hB6; omega
  have eK2 : K6 - 200000 = kyN (tkT ch len i) := by omega
  refine t_go (op := o_aload 1 0) (fe_X7_grateLine 0) (fun _ _ => rfl) ?_
  refine t_go (op := o_getR 4 6 0) (fe_X7_grateLine 1) (g_getR hS (show (lay 4).1 = 6 by decide) (by decide) (fr_6_0 hS) (by decide)) ?_
  refine t_go (op := o_getR 7 8 6) (fe_X7_grateLine 4) (g_getR hS (by decide) (by decide) hK6 (by omega)) ?_
  refine t_go (op := o_gets 10 200000) (fe_X7_grateLine 7) (fun _ _ => rfl) ?_
  refine t_ite (op := o_acmpNe 13 36) (fe_X7_grateLine 10) (g_acmpNe ⟨bK.1, bK.2, by decide, by decide⟩) (fun c1 => ?_) (fun c1 => ?_)
  · exact absurd ((ky_w (c := 0) (by decide)).mp (eK.symm.trans c1)) hn0
  · refine t_go (op := o_aload 37 0) (fe_X7_grateLine 36) (fun _ _ => rfl) ?_
    refine t_go (op := o_getR 40 6 0) (fe_X7_grateLine 37) (g_getR hS (show (lay 4).1 = 6 by decide) (by decide) (fr_6_0 hS) (by decide)) ?_
    refine t_go (op := o_getR 43 8 6) (fe_X7_grateLine 40) (g_getR hS (by decide) (by decide) hK6 (by omega)) ?_
    refine t_go (op := o_gets 46 200004) (fe_X7_grateLine 43) (fun _ _ => rfl) ?_
    refine t_ite (op := o_acmpNe 49 70) (fe_X7_grateLine 46) (g_acmpNe ⟨bK.1, bK.2, by decide, by decide⟩) (fun c2 => ?_) (fun c2 => ?_)
    · exact absurd ((ky_w (c := 4) (by decide)).mp (eK.symm.trans c2)) hn4
    · refine t_go (op := o_aload 71 0) (fe_X7_grateLine 70) (fun _ _ => rfl) ?_
      refine t_go (op := o_getR 74 6 0) (fe_X7_grateLine 71) (g_getR hS (show (lay 4).1 = 6 by decide) (by decide) (fr_6_0 hS) (by decide)) ?_
      refine t_go (op := o_getR 77 8 6) (fe_X7_grateLine 74) (g_getR hS (by decide) (by decide) hK6 (by omega)) ?_
      refine t_go (op := o_gets 80 200005) (fe_X7_grateLine 77) (fun _ _ => rfl) ?_
      refine t_ite (op := o_acmpNe 83 104) (fe_X7_grateLine 80) (g_acmpNe ⟨bK.1, bK.2, by decide, by decide⟩) (fun c3 => ?_) (fun c3 => ?_)
      · refine t_go (op := o_aload 84 1) (fe_X7_grateLine 83) (fun _ _ => rfl) ?_
        refine t_go (op := o_getI 87 3 6) (fe_X7_grateLine 84) (g_getI hS hg (by decide)) ?_
        rw [hs.2.2.2.2.1.2, if_pos hd]
        refine t_ite (op := o_if 90 98 (fun x => x = 0) (fun _ => inferInstance)) (fe_X7_grateLine 87) g_if (fun c4 => ?_) (fun c4 => ?_)
        · refine t_go (op := o_aload 99 0) (fe_X7_grateLine 98) (fun _ _ => rfl) ?_
          refine t_go (op := o_aload 100 1) (fe_X7_grateLine 99) (fun _ _ => rfl) ?_
          refine t_call (op := o_callV 103 78 2 6) (fe_X7_grateLine 100) (g_callV hS (show (lay 4).1 = 6 by decide) (by decide) rfl rfl rfl (Nat.le_of_ble_eq_true rfl)) ?_
          refine M_mono ?_ (k_catchesLine (d := d + 36) hS0 hg hg5 hs hG)
          rintro _ k9 ⟨rfl, hk9⟩
          refine t_ret (op := o_zret) (fe_X7_grateLine 103) (g_zret b2i_01) ?_
          exact ⟨rfl, hk9⟩
        · exact absurd rfl c4
      · exact absurd (eK.trans ((ky_w (c := 5) (by decide)).mpr hw)) c3
theorem k_l6T {d : Nat} {h0 h : AHP} {g : Nat} {ch : Nat → Nat} {len i : Nat} {G : GS} (hS0 : Std h0) (hg : (lay g).1 = 3) (hg5 : 5 ≤ g) (hs : KGs h0 h g ch len i G) (hG : gOK G) (hn0 : ¬ isWd (tkT ch len) 0 i 0) (hn4 : ¬ isWd (tkT ch len) 4 i 0) (hn5 : ¬ isWd (tkT ch len) 5 i 0) (hw : isWd (tkT ch len) 6 i 0) (hd : ¬ G.2.2.2 = []) : MM (d + 42) 75 [.ref 4, .ref g] h (fun v h2 => KL h0 g ch len (wrF (tkT ch len) 3 i 0, i, G) v h2) := by
  refine ⟨Nat.le_of_ble_eq_true rfl, ?_⟩
  have hS := hs.1.std hS0
  have hC := hs.2.1
  obtain ⟨K6, hK6, eK⟩ : ∃ x, h.2.2.1 2 6 = x ∧ x = 200000 + kyN (tkT ch len i) := ⟨_, hC.key, rfl⟩
  have hB6 := hC.b i
  have bK : 200000 ≤ K6 ∧ K6 < 200025 := by have := ky_le hB6; omega
  have eK2 : K6 - 200000 = kyN (tkT ch len i) := by omega
  refine t_go (op := o_aload 1 0) (fe_X7_grateLine 0) (fun _ _ => rfl) ?_
  refine t_go (op := o_getR 4 6 0) (fe_X7_grateLine 1) (g_getR hS (show (lay 4).1 = 6 by decide) (by decide) (fr_6_0 hS) (by decide)) ?_
  refine t_go (op := o_getR 7 8 6) (fe_X7_grateLine 4) (g_getR hS (by decide) (by decide) hK6 (by omega)) ?_
  refine t_go (op := o_gets 10 200000) (fe_X7_grateLine 7) (fun _ _ => rfl) ?_
  refine t_ite (op := o_acmpNe 13 36) (fe_X7_grateLine 10) (g_acmpNe ⟨bK.1, bK.2, by decide, by decide⟩) (fun c1 => ?_) (fun c1 => ?_)
  · exact absurd ((ky_w (c := 0) (by decide)).mp (eK.symm.trans c1)) hn0
  · refine t_go (op := o_aload 37 0) (fe_X7_grateLine 36) (fun _ _ => rfl) ?_
    refine t_go (op := o_getR 40 6 0) (fe_X7_grateLine 37) (g_getR hS (show (lay 4).1 = 6 by decide) (by decide) (fr_6_0 hS) (by decide)) ?_
    refine t_go (op := o_getR 43 8 6) (fe_X7_grateLine 40) (g_getR hS (by decide) (by decide) hK6 (by omega)) ?_
    refine t_go (op := o_gets 46 200004) (fe_X7_grateLine 43) (fun _ _ => rfl) ?_
    refine t_ite (op := o_acmpNe 49 70) (fe_X7_grateLine 46) (g_acmpNe ⟨bK.1, bK.2, by decide, by decide⟩) (fun c2 => ?_) (fun c2 => ?_)
    · exact absurd ((ky_w (c := 4) (by decide)).mp (eK.symm.trans c2)) hn4
    · refine t_go (op := o_aload 71 0) (fe_X7_grateLine 70) (fun _ _ => rfl) ?_
      refine t_go (op := o_getR 74 6 0) (fe_X7_grateLine 71) (g_getR hS (show (lay 4).1 = 6 by decide) (by decide) (fr_6_0 hS) (by decide)) ?_
      refine t_go (op := o_getR 77 8 6) (fe_X7_grateLine 74) (g_getR hS (by decide) (by decide) hK6 (by omega)) ?_
      refine t_go (op := o_gets 80 200005) (fe_X7_grateLine 77) (fun _ _ => rfl) ?_
      refine t_ite (op := o_acmpNe 83 104) (fe_X7_grateLine 80) (g_acmpNe ⟨bK.1, bK.2, by decide, by decide⟩) (fun c3 => ?_) (fun c3 => ?_)
      · exact absurd ((ky_w (c := 5) (by decide)).mp (eK.symm.trans c3)) hn5
      · refine t_go (op := o_aload 105 0) (fe_X7_grateLine 104) (fun _ _ => rfl) ?_
        refine t_go (op := o_getR 108 6 0) (fe_X7_grateLine 105) (g_getR hS (show (lay 4).1 = 6 by decide) (by decide) (fr_6_0 hS) (by decide)) ?_
        refine t_go (op := o_getR 111 8 6) (fe_X7_grateLine 108) (g_getR hS (by decide) (by decide) hK6 (by omega)) ?_
        refine t_go (op := o_gets 114 200006) (fe_X7_grateLine 111) (fun _ _ => rfl) ?_
        refine t_ite (op := o_acmpNe 117 168) (fe_X7_grateLine 114) (g_acmpNe ⟨bK.1, bK.2, by decide, by decide⟩) (fun c4 => ?_) (fun c4 => ?_)
        · refine t_go (op := o_aload 118 1) (fe_X7_grateLine 117) (fun _ _ => rfl) ?_
          refine t_go (op := o_getR 121 3 3) (fe_X7_grateLine 118) (g_getR hS hg (by decide) (fr_3_3 hS hg) (Nat.succ_pos _)) ?_
          refine t_go (op := o_getI 124 4 3) (fe_X7_grateLine 121) (g_getI hS (lay_fst (ly_3_8 hg)) (by decide)) ?_
          rw [hs.2.2.2.2.2.1]
          refine t_ite (op := o_if 127 133 (fun x => x ≤ 0) (fun _ => inferInstance)) (fe_X7_grateLine 124) g_if (fun c5 => ?_) (fun c5 => ?_)
          · exact absurd ((le_0 (by rcases hG.2.2.2.2.2 with q | q; exact absurd q hd; have := q.1; omega)).mp c5) (fun q => hd (List.length_eq_zero_iff.mp q))
          · refine t_go (op := o_aload 128 0) (fe_X7_grateLine 127) (fun _ _ => rfl) ?_
            refine t_go (op := o_ci 129 3) (fe_X7_grateLine 128) (fun _ _ => rfl) ?_
            refine t_call (op := o_callV 132 71 2 6) (fe_X7_grateLine 129) (g_callV hS (show (lay 4).1 = 6 by decide) (by decide) rfl rfl rfl (Nat.le_of_ble_eq_true rfl)) ?_
            refine M_eq (c_wrong (c := 3) hS hC) ?_
            refine t_ret (op := o_zret) (fe_X7_grateLine 132) (g_zret (Or.inl rfl)) ?_
            exact KL_f rfl (wrF_p (by decide)) (KGF_w hg5 hs hG)
        · exact absurd (eK.trans ((ky_w (c := 6) (by decide)).mpr hw)) c4
theorem k_l6F {d : Nat} {h0 h : AHP} {g : Nat} {ch : Nat → Nat} {len i : Nat} {G : GS} (hS0 : Std h0) (hg : (lay g).1 = 3) (hg5 : 5 ≤ g) (hs : KGs h0 h g ch len i G) (hG : gOK G) (hn0 : ¬ isWd (tkT ch len) 0 i 0) (hn4 : ¬ isWd (tkT ch len) 4 i 0) (hn5 : ¬ isWd (tkT ch len) 5 i 0) (hw : isWd (tkT ch len) 6 i 0) {n : Nat} (hd : G.2.2.2 = []) (hE : (tkT ch len n).1 = 0) (hBB : ∀ j, TKb (tkT ch len j)) (hn : n ≤ 1000) (hi1 : i + 1 ≤ n) (hF : ¬ (lawS (tkT ch len) n (i + 1, 0, [])).2.1 = 0) : MM (d + 42) 75 [.ref 4, .ref g] h (fun v h2 => KL h0 g ch len (gW (tkT ch len) n i G) v h2) := by
  refine ⟨Nat.le_of_ble_eq_true rfl, ?_⟩
  have hS := hs.1.std hS0
  have hC := hs.2.1
  obtain ⟨K6, hK6, eK⟩ : ∃ x, h.2.2.1 2 6 = x ∧ x = 200000 + kyN (tkT ch len i) := ⟨_, hC.key, rfl⟩
  have hB6 := hC.b i
  have bK : 200000 ≤ K6 ∧ K6 < 200025 := by have := ky_le hB6; omega
  have eK2 : K6 - 200000 = kyN (tkT ch len i) := by omega
  refine t_go (op := o_aload 1 0) (fe_X7_grateLine 0) (fun _ _ => rfl) ?_
  refine t_go (op := o_getR 4 6 0) (fe_X7_grateLine 1) (g_getR hS (show (lay 4).1 = 6 by decide) (by decide) (fr_6_0 hS) (by decide)) ?_
  refine t_go (op := o_getR 7 8 6) (fe_X7_grateLine 4) (g_getR hS (by decide) (by decide) hK6 (by omega)) ?_
  refine t_go (op := o_gets 10 200000) (fe_X7_grateLine 7) (fun _ _ => rfl) ?_
  refine t_ite (op := o_acmpNe 13 36) (fe_X7_grateLine 10) (g_acmpNe ⟨bK.1, bK.2, by decide, by decide⟩) (fun c1 => ?_) (fun c1 => ?_)
  · exact absurd ((ky_w (c := 0) (by decide)).mp (eK.symm.trans c1)) hn0
  · refine t_go (op := o_aload 37 0) (fe_X7_grateLine 36) (fun _ _ => rfl) ?_
    refine t_go (op := o_getR 40 6 0) (fe_X7_grateLine 37) (g_getR hS (show (lay 4).1 = 6 by decide) (by decide) (fr_6_0 hS) (by decide)) ?_
    refine t_go (op := o_getR 43 8 6) (fe_X7_grateLine 40) (g_getR hS (by decide) (by decide) hK6 (by omega)) ?_
    refine t_go (op := o_gets 46 200004) (fe_X7_grateLine 43) (fun _ _ => rfl) ?_
    refine t_ite (op := o_acmpNe 49 70) (fe_X7_grateLine 46) (g_acmpNe ⟨bK.1, bK.2, by decide, by decide⟩) (fun c2 => ?_) (fun c2 => ?_)
    · exact absurd ((ky_w (c := 4) (by decide)).mp (eK.symm.trans c2)) hn4
    · refine t_go (op := o_aload 71 0) (fe_X7_grateLine 70) (fun _ _ => rfl) ?_
      refine t_go (op := o_getR 74 6 0) (fe_X7_grateLine 71) (g_getR hS (show (lay 4).1 = 6 by decide) (by decide) (fr_6_0 hS) (by decide)) ?_
      refine t_go (op := o_getR 77 8 6) (fe_X7_grateLine 74) (g_getR hS (by decide) (by decide) hK6 (by omega)) ?_
      refine t_go (op := o_gets 80 200005) (fe_X7_grateLine 77) (fun _ _ => rfl) ?_
      refine t_ite (op := o_acmpNe 83 104) (fe_X7_grateLine 80) (g_acmpNe ⟨bK.1, bK.2, by decide, by decide⟩) (fun c3 => ?_) (fun c3 => ?_)
      · exact absurd ((ky_w (c := 5) (by decide)).mp (eK.symm.trans c3)) hn5
      · refine t_go (op := o_aload 105 0) (fe_X7_grateLine 104) (fun _ _ => rfl) ?_
        refine t_go (op := o_getR 108 6 0) (fe_X7_grateLine 105) (g_getR hS (show (lay 4).1 = 6 by decide) (by decide) (fr_6_0 hS) (by decide)) ?_
        refine t_go (op := o_getR 111 8 6) (fe_X7_grateLine 108) (g_getR hS (by decide) (by decide) hK6 (by omega)) ?_
        refine t_go (op := o_gets 114 200006) (fe_X7_grateLine 111) (fun _ _ => rfl) ?_
        refine t_ite (op := o_acmpNe 117 168) (fe_X7_grateLine 114) (g_acmpNe ⟨bK.1, bK.2, by decide, by decide⟩) (fun c4 => ?_) (fun c4 => ?_)
        · refine t_go (op := o_aload 118 1) (fe_X7_grateLine 117) (fun _ _ => rfl) ?_
          refine t_go (op := o_getR 121 3 3) (fe_X7_grateLine 118) (g_getR hS hg (by decide) (fr_3_3 hS hg) (Nat.succ_pos _)) ?_
          refine t_go (op := o_getI 124 4 3) (fe_X7_grateLine 121) (g_getI hS (lay_fst (ly_3_8 hg)) (by decide)) ?_
          rw [hs.2.2.2.2.2.1]
          refine t_ite (op := o_if 127 133 (fun x => x ≤ 0) (fun _ => inferInstance)) (fe_X7_grateLine 124) g_if (fun c5 => ?_) (fun c5 => ?_)
          · refine t_go (op := o_aload 134 0) (fe_X7_grateLine 133) (fun _ _ => rfl) ?_
            refine t_go (op := o_getR 137 6 0) (fe_X7_grateLine 134) (g_getR hS (show (lay 4).1 = 6 by decide) (by decide) (fr_6_0 hS) (by decide)) ?_
            refine t_call (op := o_callV 140 97 1 8) (fe_X7_grateLine 137) (g_callV hS (by decide) (by decide) rfl rfl rfl (Nat.le_of_ble_eq_true rfl)) ?_
            refine M_mono ?_ (c_toNext hS hC)
            rintro _ k2 ⟨rfl, hT, hC2⟩
            have hs1 := KGs_T hg5 hs hT hC2
            replace hS := hs1.1.std hS0
            refine t_go (op := o_aload 141 0) (fe_X7_grateLine 140) (fun _ _ => rfl) ?_
            refine t_go (op := o_aload 142 1) (fe_X7_grateLine 141) (fun _ _ => rfl) ?_
            refine t_go (op := o_getR 145 3 3) (fe_X7_grateLine 142) (g_getR hS hg (by decide) (fr_3_3 hS hg) (Nat.succ_pos _)) ?_
            refine t_go (op := o_ci 146 0) (fe_X7_grateLine 145) (fun _ _ => rfl) ?_
            refine t_go (op := o_ci 147 0) (fe_X7_grateLine 146) (fun _ _ => rfl) ?_
            refine t_call (op := o_callV 150 79 4 6) (fe_X7_grateLine 147) (g_callV hS (show (lay 4).1 = 6 by decide) (by decide) rfl rfl rfl (Nat.le_of_ble_eq_true rfl)) ?_
            refine M_mono ?_ (c_law (d := d + 2) (l := g + 8) (n := n) (s := (i + 1, 0, [])) hS (lay_fst (ly_3_8 hg)) (by omega) hE hBB hn ⟨Kf.rf, hC2, by rw [hs1.2.2.2.2.2.1, hd], fun j hj => absurd hj (Nat.not_lt_zero _)⟩ rfl ⟨hi1, show 0 < 100000 by decide, Nat.zero_le _⟩)
            rintro _ k4 ⟨rfl, hy4, hn4⟩
            rw [b2i_f hF]
            refine t_ite (op := o_if 153 166 (fun x => x = 0) (fun _ => inferInstance)) (fe_X7_grateLine 150) g_if (fun c6 => ?_) (fun c6 => ?_)
            · clear c6
              refine t_go (op := o_ci 167 0) (fe_X7_grateLine 166) (fun _ _ => rfl) ?_
              refine t_ret (op := o_zret) (fe_X7_grateLine 167) (g_zret (Or.inl rfl)) ?_
              exact KL_f (cI_f hF) hF (KGF_lw hg5 hs1 hG (hn4 hF).1 (hn4 hF).2)
            · exact absurd (by decide) c6
          · exact absurd (by rw [hd]; decide) c5
        · exact absurd (eK.trans ((ky_w (c := 6) (by decide)).mpr hw)) c4
theorem k_l6N {d : Nat} {h0 h : AHP} {g : Nat} {ch : Nat → Nat} {len i : Nat} {G : GS} (hS0 : Std h0) (hg : (lay g).1 = 3) (hg5 : 5 ≤ g) (hs : KGs h0 h g ch len i G) (hG : gOK G) (hn0 : ¬ isWd (tkT ch len) 0 i 0) (hn4 : ¬ isWd (tkT ch len) 4 i 0) (hn5 : ¬ isWd (tkT ch len) 5 i 0) (hw : isWd (tkT ch len) 6 i 0) {n : Nat} (hd : G.2.2.2 = []) (hE : (tkT ch len n).1 = 0) (hBB : ∀ j, TKb (tkT ch len j)) (hn : n ≤ 1000) (hi1 : i + 1 ≤ n) (hF : (lawS (tkT ch len) n (i + 1, 0, [])).2.1 = 0) (hw2 : ¬ isS (tkT ch len) 59 (lawS (tkT ch len) n (i + 1, 0, [])).1 0) (hG2 : gOK (G.1, G.2.1, G.2.2.1, (lawS (tkT ch len) n (i + 1, 0, [])).2.2)) : MM (d + 42) 75 [.ref 4, .ref g] h (fun v h2 => KL h0 g ch len (gW (tkT ch len) n i G) v h2) := by
  refine ⟨Nat.le_of_ble_eq_true rfl, ?_⟩
  have hS := hs.1.std hS0
  have hC := hs.2.1
  obtain ⟨K6, hK6, eK⟩ : ∃ x, h.2.2.1 2 6 = x ∧ x = 200000 + kyN (tkT ch len i) := ⟨_, hC.key, rfl⟩
  have hB6 := hC.b i
  have bK : 200000 ≤ K6 ∧ K6 < 200025 := by have := ky_le hB6; omega
  have eK2 : K6 - 200000 = kyN (tkT ch len i) := by omega
  refine t_go (op := o_aload 1 0) (fe_X7_grateLine 0) (fun _ _ => rfl) ?_
  refine t_go (op := o_getR 4 6 0) (fe_X7_grateLine 1) (g_getR hS (show (lay 4).1 = 6 by decide) (by decide) (fr_6_0 hS) (by decide)) ?_
  refine t_go (op := o_getR 7 8 6) (fe_X7_grateLine 4) (g_getR hS (by decide) (by decide) hK6 (by omega)) ?_
  refine t_go (op := o_gets 10 200000) (fe_X7_grateLine 7) (fun _ _ => rfl) ?_
  refine t_ite (op := o_acmpNe 13 36) (fe_X7_grateLine 10) (g_acmpNe ⟨bK.1, bK.2, by decide, by decide⟩) (fun c1 => ?_) (fun c1 => ?_)
  · exact absurd ((ky_w (c := 0) (by decide)).mp (eK.symm.trans c1)) hn0
  · refine t_go (op := o_aload 37 0) (fe_X7_grateLine 36) (fun _ _ => rfl) ?_
    refine t_go (op := o_getR 40 6 0) (fe_X7_grateLine 37) (g_getR hS (show (lay 4).1 = 6 by decide) (by decide) (fr_6_0 hS) (by decide)) ?_
    refine t_go (op := o_getR 43 8 6) (fe_X7_grateLine 40) (g_getR hS (by decide) (by decide) hK6 (by omega)) ?_
    refine t_go (op := o_gets 46 200004) (fe_X7_grateLine 43) (fun _ _ => rfl) ?_
    refine t_ite (op := o_acmpNe 49 70) (fe_X7_grateLine 46) (g_acmpNe ⟨bK.1, bK.2, by decide, by decide⟩) (fun c2 => ?_) (fun c2 => ?_)
    · exact absurd ((ky_w (c := 4) (by decide)).mp (eK.symm.trans c2)) hn4
    · refine t_go (op := o_aload 71 0) (fe_X7_grateLine 70) (fun _ _ => rfl) ?_
      refine t_go (op := o_getR 74 6 0) (fe_X7_grateLine 71) (g_getR hS (show (lay 4).1 = 6 by decide) (by decide) (fr_6_0 hS) (by decide)) ?_
      refine t_go (op := o_getR 77 8 6) (fe_X7_grateLine 74) (g_getR hS (by decide) (by decide) hK6 (by omega)) ?_
      refine t_go (op := o_gets 80 200005) (fe_X7_grateLine 77) (fun _ _ => rfl) ?_
      refine t_ite (op := o_acmpNe 83 104) (fe_X7_grateLine 80) (g_acmpNe ⟨bK.1, bK.2, by decide, by decide⟩) (fun c3 => ?_) (fun c3 => ?_)
      · exact absurd ((ky_w (c := 5) (by decide)).mp (eK.symm.trans c3)) hn5
      · refine t_go (op := o_aload 105 0) (fe_X7_grateLine 104) (fun _ _ => rfl) ?_
        refine t_go (op := o_getR 108 6 0) (fe_X7_grateLine 105) (g_getR hS (show (lay 4).1 = 6 by decide) (by decide) (fr_6_0 hS) (by decide)) ?_
        refine t_go (op := o_getR 111 8 6) (fe_X7_grateLine 108) (g_getR hS (by decide) (by decide) hK6 (by omega)) ?_
        refine t_go (op := o_gets 114 200006) (fe_X7_grateLine 111) (fun _ _ => rfl) ?_
        refine t_ite (op := o_acmpNe 117 168) (fe_X7_grateLine 114) (g_acmpNe ⟨bK.1, bK.2, by decide, by decide⟩) (fun c4 => ?_) (fun c4 => ?_)
        · refine t_go (op := o_aload 118 1) (fe_X7_grateLine 117) (fun _ _ => rfl) ?_
          refine t_go (op := o_getR 121 3 3) (fe_X7_grateLine 118) (g_getR hS hg (by decide) (fr_3_3 hS hg) (Nat.succ_pos _)) ?_
          refine t_go (op := o_getI 124 4 3) (fe_X7_grateLine 121) (g_getI hS (lay_fst (ly_3_8 hg)) (by decide)) ?_
          rw [hs.2.2.2.2.2.1]
          refine t_ite (op := o_if 127 133 (fun x => x ≤ 0) (fun _ => inferInstance)) (fe_X7_grateLine 124) g_if (fun c5 => ?_) (fun c5 => ?_)
          · refine t_go (op := o_aload 134 0) (fe_X7_grateLine 133) (fun _ _ => rfl) ?_
            refine t_go (op := o_getR 137 6 0) (fe_X7_grateLine 134) (g_getR hS (show (lay 4).1 = 6 by decide) (by decide) (fr_6_0 hS) (by decide)) ?_
            refine t_call (op := o_callV 140 97 1 8) (fe_X7_grateLine 137) (g_callV hS (by decide) (by decide) rfl rfl rfl (Nat.le_of_ble_eq_true rfl)) ?_
            refine M_mono ?_ (c_toNext hS hC)
            rintro _ k2 ⟨rfl, hT, hC2⟩
            have hs1 := KGs_T hg5 hs hT hC2
            replace hS := hs1.1.std hS0
            refine t_go (op := o_aload 141 0) (fe_X7_grateLine 140) (fun _ _ => rfl) ?_
            refine t_go (op := o_aload 142 1) (fe_X7_grateLine 141) (fun _ _ => rfl) ?_
            refine t_go (op := o_getR 145 3 3) (fe_X7_grateLine 142) (g_getR hS hg (by decide) (fr_3_3 hS hg) (Nat.succ_pos _)) ?_
            refine t_go (op := o_ci 146 0) (fe_X7_grateLine 145) (fun _ _ => rfl) ?_
            refine t_go (op := o_ci 147 0) (fe_X7_grateLine 146) (fun _ _ => rfl) ?_
            refine t_call (op := o_callV 150 79 4 6) (fe_X7_grateLine 147) (g_callV hS (show (lay 4).1 = 6 by decide) (by decide) rfl rfl rfl (Nat.le_of_ble_eq_true rfl)) ?_
            refine M_mono ?_ (c_law (d := d + 2) (l := g + 8) (n := n) (s := (i + 1, 0, [])) hS (lay_fst (ly_3_8 hg)) (by omega) hE hBB hn ⟨Kf.rf, hC2, by rw [hs1.2.2.2.2.2.1, hd], fun j hj => absurd hj (Nat.not_lt_zero _)⟩ rfl ⟨hi1, show 0 < 100000 by decide, Nat.zero_le _⟩)
            rintro _ k4 ⟨rfl, hy4, hn4⟩
            rw [b2i_t hF]
            have hs4 := KGs_lw hg5 hs1 (hy4 hF)
            replace hS := hs4.1.std hS0
            refine t_ite (op := o_if 153 166 (fun x => x = 0) (fun _ => inferInstance)) (fe_X7_grateLine 150) g_if (fun c6 => ?_) (fun c6 => ?_)
            · exact absurd c6 (by decide)
            · clear c6
              refine t_go (op := o_aload 154 0) (fe_X7_grateLine 153) (fun _ _ => rfl) ?_
              refine t_go (op := o_ci 156 59) (fe_X7_grateLine 154) (fun _ _ => rfl) ?_
              refine t_call (op := o_callV 159 73 2 6) (fe_X7_grateLine 156) (g_callV hS (show (lay 4).1 = 6 by decide) (by decide) rfl rfl rfl (Nat.le_of_ble_eq_true rfl)) ?_
              refine M_mono ?_ (c_takeSign (c := 59) hS hs4.2.1 (by decide))
              rintro v5 k5 ⟨hy5, hn5⟩
              obtain ⟨rfl, rfl⟩ := hn5 hw2
              refine t_ite (op := o_if 162 166 (fun x => x = 0) (fun _ => inferInstance)) (fe_X7_grateLine 159) g_if (fun c7 => ?_) (fun c7 => ?_)
              · clear c7
                refine t_go (op := o_ci 167 0) (fe_X7_grateLine 166) (fun _ _ => rfl) ?_
                refine t_ret (op := o_zret) (fe_X7_grateLine 167) (g_zret (Or.inl rfl)) ?_
                exact KL_f ((cI_t hF).trans (cI_f hw2)) (wrF_p (by decide)) (KGF_w hg5 hs4 hG2)
              · exact absurd (by decide) c7
          · exact absurd (by rw [hd]; decide) c5
        · exact absurd (eK.trans ((ky_w (c := 6) (by decide)).mpr hw)) c4
theorem k_l6Y {d : Nat} {h0 h : AHP} {g : Nat} {ch : Nat → Nat} {len i : Nat} {G : GS} (hS0 : Std h0) (hg : (lay g).1 = 3) (hg5 : 5 ≤ g) (hs : KGs h0 h g ch len i G) (hG : gOK G) (hn0 : ¬ isWd (tkT ch len) 0 i 0) (hn4 : ¬ isWd (tkT ch len) 4 i 0) (hn5 : ¬ isWd (tkT ch len) 5 i 0) (hw : isWd (tkT ch len) 6 i 0) {n : Nat} (hd : G.2.2.2 = []) (hE : (tkT ch len n).1 = 0) (hBB : ∀ j, TKb (tkT ch len j)) (hn : n ≤ 1000) (hi1 : i + 1 ≤ n) (hF : (lawS (tkT ch len) n (i + 1, 0, [])).2.1 = 0) (hw2 : isS (tkT ch len) 59 (lawS (tkT ch len) n (i + 1, 0, [])).1 0) : MM (d + 42) 75 [.ref 4, .ref g] h (fun v h2 => KL h0 g ch len (gW (tkT ch len) n i G) v h2) := by
  refine ⟨Nat.le_of_ble_eq_true rfl, ?_⟩
  have hS := hs.1.std hS0
  have hC := hs.2.1
  obtain ⟨K6, hK6, eK⟩ : ∃ x, h.2.2.1 2 6 = x ∧ x = 200000 + kyN (tkT ch len i) := ⟨_, hC.key, rfl⟩
  have hB6 := hC.b i
  have bK : 200000 ≤ K6 ∧ K6 < 200025 := by have := ky_le hB6; omega
  have eK2 : K6 - 200000 = kyN (tkT ch len i) := by omega
  refine t_go (op := o_aload 1 0) (fe_X7_grateLine 0) (fun _ _ => rfl) ?_
  refine t_go (op := o_getR 4 6 0) (fe_X7_grateLine 1) (g_getR hS (show (lay 4).1 = 6 by decide) (by decide) (fr_6_0 hS) (by decide)) ?_
  refine t_go (op := o_getR 7 8 6) (fe_X7_grateLine 4) (g_getR hS (by decide) (by decide) hK6 (by omega)) ?_
  refine t_go (op := o_gets 10 200000) (fe_X7_grateLine 7) (fun _ _ => rfl) ?_
  refine t_ite (op := o_acmpNe 13 36) (fe_X7_grateLine 10) (g_acmpNe ⟨bK.1, bK.2, by decide, by decide⟩) (fun c1 => ?_) (fun c1 => ?_)
  · exact absurd ((ky_w (c := 0) (by decide)).mp (eK.symm.trans c1)) hn0
  · refine t_go (op := o_aload 37 0) (fe_X7_grateLine 36) (fun _ _ => rfl) ?_
    refine t_go (op := o_getR 40 6 0) (fe_X7_grateLine 37) (g_getR hS (show (lay 4).1 = 6 by decide) (by decide) (fr_6_0 hS) (by decide)) ?_
    refine t_go (op := o_getR 43 8 6) (fe_X7_grateLine 40) (g_getR hS (by decide) (by decide) hK6 (by omega)) ?_
    refine t_go (op := o_gets 46 200004) (fe_X7_grateLine 43) (fun _ _ => rfl) ?_
    refine t_ite (op := o_acmpNe 49 70) (fe_X7_grateLine 46) (g_acmpNe ⟨bK.1, bK.2, by decide, by decide⟩) (fun c2 => ?_) (fun c2 => ?_)
    · exact absurd ((ky_w (c := 4) (by decide)).mp (eK.symm.trans c2)) hn4
    · refine t_go (op := o_aload 71 0) (fe_X7_grateLine 70) (fun _ _ => rfl) ?_
      refine t_go (op := o_getR 74 6 0) (fe_X7_grateLine 71) (g_getR hS (show (lay 4).1 = 6 by decide) (by decide) (fr_6_0 hS) (by decide)) ?_
      refine t_go (op := o_getR 77 8 6) (fe_X7_grateLine 74) (g_getR hS (by decide) (by decide) hK6 (by omega)) ?_
      refine t_go (op := o_gets 80 200005) (fe_X7_grateLine 77) (fun _ _ => rfl) ?_
      refine t_ite (op := o_acmpNe 83 104) (fe_X7_grateLine 80) (g_acmpNe ⟨bK.1, bK.2, by decide, by decide⟩) (fun c3 => ?_) (fun c3 => ?_)
      · exact absurd ((ky_w (c := 5) (by decide)).mp (eK.symm.trans c3)) hn5
      · refine t_go (op := o_aload 105 0) (fe_X7_grateLine 104) (fun _ _ => rfl) ?_
        refine t_go (op := o_getR 108 6 0) (fe_X7_grateLine 105) (g_getR hS (show (lay 4).1 = 6 by decide) (by decide) (fr_6_0 hS) (by decide)) ?_
        refine t_go (op := o_getR 111 8 6) (fe_X7_grateLine 108) (g_getR hS (by decide) (by decide) hK6 (by omega)) ?_
        refine t_go (op := o_gets 114 200006) (fe_X7_grateLine 111) (fun _ _ => rfl) ?_
        refine t_ite (op := o_acmpNe 117 168) (fe_X7_grateLine 114) (g_acmpNe ⟨bK.1, bK.2, by decide, by decide⟩) (fun c4 => ?_) (fun c4 => ?_)
        · refine t_go (op := o_aload 118 1) (fe_X7_grateLine 117) (fun _ _ => rfl) ?_
          refine t_go (op := o_getR 121 3 3) (fe_X7_grateLine 118) (g_getR hS hg (by decide) (fr_3_3 hS hg) (Nat.succ_pos _)) ?_
          refine t_go (op := o_getI 124 4 3) (fe_X7_grateLine 121) (g_getI hS (lay_fst (ly_3_8 hg)) (by decide)) ?_
          rw [hs.2.2.2.2.2.1]
          refine t_ite (op := o_if 127 133 (fun x => x ≤ 0) (fun _ => inferInstance)) (fe_X7_grateLine 124) g_if (fun c5 => ?_) (fun c5 => ?_)
          · refine t_go (op := o_aload 134 0) (fe_X7_grateLine 133) (fun _ _ => rfl) ?_
            refine t_go (op := o_getR 137 6 0) (fe_X7_grateLine 134) (g_getR hS (show (lay 4).1 = 6 by decide) (by decide) (fr_6_0 hS) (by decide)) ?_
            refine t_call (op := o_callV 140 97 1 8) (fe_X7_grateLine 137) (g_callV hS (by decide) (by decide) rfl rfl rfl (Nat.le_of_ble_eq_true rfl)) ?_
            refine M_mono ?_ (c_toNext hS hC)
            rintro _ k2 ⟨rfl, hT, hC2⟩
            have hs1 := KGs_T hg5 hs hT hC2
            replace hS := hs1.1.std hS0
            refine t_go (op := o_aload 141 0) (fe_X7_grateLine 140) (fun _ _ => rfl) ?_
            refine t_go (op := o_aload 142 1) (fe_X7_grateLine 141) (fun _ _ => rfl) ?_
            refine t_go (op := o_getR 145 3 3) (fe_X7_grateLine 142) (g_getR hS hg (by decide) (fr_3_3 hS hg) (Nat.succ_pos _)) ?_
            refine t_go (op := o_ci 146 0) (fe_X7_grateLine 145) (fun _ _ => rfl) ?_
            refine t_go (op := o_ci 147 0) (fe_X7_grateLine 146) (fun _ _ => rfl) ?_
            refine t_call (op := o_callV 150 79 4 6) (fe_X7_grateLine 147) (g_callV hS (show (lay 4).1 = 6 by decide) (by decide) rfl rfl rfl (Nat.le_of_ble_eq_true rfl)) ?_
            refine M_mono ?_ (c_law (d := d + 2) (l := g + 8) (n := n) (s := (i + 1, 0, [])) hS (lay_fst (ly_3_8 hg)) (by omega) hE hBB hn ⟨Kf.rf, hC2, by rw [hs1.2.2.2.2.2.1, hd], fun j hj => absurd hj (Nat.not_lt_zero _)⟩ rfl ⟨hi1, show 0 < 100000 by decide, Nat.zero_le _⟩)
            rintro _ k4 ⟨rfl, hy4, hn4⟩
            rw [b2i_t hF]
            have hs4 := KGs_lw hg5 hs1 (hy4 hF)
            replace hS := hs4.1.std hS0
            refine t_ite (op := o_if 153 166 (fun x => x = 0) (fun _ => inferInstance)) (fe_X7_grateLine 150) g_if (fun c6 => ?_) (fun c6 => ?_)
            · exact absurd c6 (by decide)
            · clear c6
              refine t_go (op := o_aload 154 0) (fe_X7_grateLine 153) (fun _ _ => rfl) ?_
              refine t_go (op := o_ci 156 59) (fe_X7_grateLine 154) (fun _ _ => rfl) ?_
              refine t_call (op := o_callV 159 73 2 6) (fe_X7_grateLine 156) (g_callV hS (show (lay 4).1 = 6 by decide) (by decide) rfl rfl rfl (Nat.le_of_ble_eq_true rfl)) ?_
              refine M_mono ?_ (c_takeSign (c := 59) hS hs4.2.1 (by decide))
              rintro v5 k5 ⟨hy5, hn5⟩
              obtain ⟨rfl, hT5, hC5⟩ := hy5 hw2
              refine t_ite (op := o_if 162 166 (fun x => x = 0) (fun _ => inferInstance)) (fe_X7_grateLine 159) g_if (fun c7 => ?_) (fun c7 => ?_)
              · exact absurd c7 (by decide)
              · clear c7
                refine t_go (op := o_ci 163 1) (fe_X7_grateLine 162) (fun _ _ => rfl) ?_
                refine t_go (op := o_goto 167) (fe_X7_grateLine 163) (fun _ _ => rfl) ?_
                refine t_ret (op := o_zret) (fe_X7_grateLine 167) (g_zret (Or.inr rfl)) ?_
                exact KL_t ((cI_t hF).trans (cI_t hw2)) (KGs_T hg5 hs4 hT5 hC5)
          · exact absurd (by rw [hd]; decide) c5
        · exact absurd (eK.trans ((ky_w (c := 6) (by decide)).mpr hw)) c4
theorem k_grateLine {d : Nat} {h0 h : AHP} {g : Nat} {ch : Nat → Nat} {len i n : Nat} {G : GS} (hS0 : Std h0) (hg : (lay g).1 = 3) (hg5 : 5 ≤ g) (hs : KGs h0 h g ch len i G) (hG : gOK G) (hE : (tkT ch len n).1 = 0) (hB : ∀ j, TKb (tkT ch len j)) (hn : n ≤ 1000) (hi : i ≤ n) (h0' : ¬ (tkT ch len i).1 = 0) : MM (d + 42) 75 [.ref 4, .ref g] h (KL h0 g ch len (gL (tkT ch len) n i G)) := by
  have hi1 : i + 1 ≤ n := lt_end hE hi h0'
  unfold gL
  by_cases c1 : isWd (tkT ch len) 0 i 0
  · rw [cI_t c1]
    by_cases h7 : G.1.length = 7
    · refine M_mono (fun v h2 q => ?_) (k_l07 hS0 hg hg5 hs hG c1 h7)
      have e : eF1 (tkT ch len) i G.1 = wrF (tkT ch len) 5 i 0 := cI_t h7
      have e2 : (gE (tkT ch len) i G).1 = wrF (tkT ch len) 5 i 0 := (cI_f (by rw [e]; exact wrF_p (by decide))).trans e
      have q2 := q.2.2 (wrF_p (by decide))
      refine ⟨?_, fun w => absurd (e2.symm.trans w) (wrF_p (by decide)), fun _ => by rw [e2]; exact q2⟩
      rw [q.1, b2i_f (show ¬ wrF (tkT ch len) 5 i 0 = 0 from wrF_p (by decide)), b2i_f (show ¬ (gE (tkT ch len) i G).1 = 0 by rw [e2]; exact wrF_p (by decide))]
    · exact k_l0 hS0 hg hg5 hs hG c1 h7
  rw [cI_f c1]
  by_cases c2 : isWd (tkT ch len) 4 i 0
  · rw [cI_t c2]
    by_cases hd : ¬ G.2.1 = []
    · rw [cI_t hd]; exact k_l4T hS0 hg hg5 hs hG c1 c2 hd
    · rw [cI_f hd]; exact k_l4 hS0 hg hg5 hs hG c1 c2 (Classical.not_not.mp hd)
  rw [cI_f c2]
  by_cases c3 : isWd (tkT ch len) 5 i 0
  · rw [cI_t c3]
    by_cases hd : ¬ G.2.2.1 = 0
    · rw [cI_t hd]; exact k_l5T hS0 hg hg5 hs hG c1 c2 c3 hd
    · rw [cI_f hd]; exact k_l5 hS0 hg hg5 hs hG c1 c2 c3 (Classical.not_not.mp hd)
  rw [cI_f c3]
  by_cases c4 : isWd (tkT ch len) 6 i 0
  · rw [cI_t c4]
    by_cases hd : ¬ G.2.2.2 = []
    · rw [cI_t hd]; exact k_l6T hS0 hg hg5 hs hG c1 c2 c3 c4 hd
    · rw [cI_f hd]
      have hd' := Classical.not_not.mp hd
      by_cases hF : (lawS (tkT ch len) n (i + 1, 0, [])).2.1 = 0
      · by_cases hw2 : isS (tkT ch len) 59 (lawS (tkT ch len) n (i + 1, 0, [])).1 0
        · exact k_l6Y hS0 hg hg5 hs hG c1 c2 c3 c4 hd' hE hB hn hi1 hF hw2
        · refine k_l6N hS0 hg hg5 hs hG c1 c2 c3 c4 hd' hE hB hn hi1 hF hw2 ?_
          have hk9 : okR (tkT ch len) n (i + 1, 0, []) := ⟨hi1, show 0 < 100000 by decide, Nat.zero_le _⟩
          have hk3 := okR_go hk9 (pJ_go hB hE _ _ _ _ _ hk9.1 hk9.2.1 (lawS_eq hB hE hk9.1 hk9.2.1))
          have hw := law_wf hB hE hi1 hF
          refine ⟨hG.1, hG.2.1, hG.2.2.1, hG.2.2.2.1, hG.2.2.2.2.1, Or.inr ⟨?_, hw⟩⟩
          have := hk3.1; have := hk3.2.2
          show (lawS (tkT ch len) n (i + 1, 0, [])).2.2.length ≤ 1000
          omega
      · exact k_l6F hS0 hg hg5 hs hG c1 c2 c3 c4 hd' hE hB hn hi1 hF
  rw [cI_f c4]
  exact k_l9 hS0 hg hg5 hs hG c1 c2 c3 c4
