/-! ===== the class: what is asked ===== -/
theorem c_isEmber {d : Nat} {h : AHP} {g n m : Nat} (hS : Std h) (hg : (lay g).1 = 3) (hg7 : h.2.2.1 1 7 = g) (hL : LawOK h g n) (hM : h.1 g 4 = nI m) (hm : m ≤ 7) (hz : NZ h) {x : Int32} : MM d 150 [.ref 1, .int x] h (fun v h2 => v = some (.int (b2i (¬ x < 0 ∧ x < nI m))) ∧ h2 = h) := by
  refine ⟨Nat.le_of_ble_eq_true rfl, ?_⟩
  obtain ⟨hN2, hzz⟩ := NZ_F hS hz (f := 5) (by decide)
  have hN := (NZ_F hS hz (f := 136) (by decide)).1
  have hR := (NZ_F hS hz (f := 143) (by decide)).1
  have hgp : 0 < g := (lay_lt hg (by decide)).1
  have hF : fs h 5 = fs h 5 := rfl
  refine t_go (op := o_iload 1 1) (fe_X11_isEmber 0) (fun _ _ => rfl) ?_
  refine t_ite (op := o_if 4 25 (fun x => x < 0) (fun _ => inferInstance)) (fe_X11_isEmber 1) g_if (fun c1 => ?_) (fun c1 => ?_)
  · refine t_go (op := o_ci 26 0) (fe_X11_isEmber 25) (fun _ _ => rfl) ?_
    refine t_ret (op := o_zret) (fe_X11_isEmber 26) (g_zret (Or.inl rfl)) ?_
    exact ⟨by rw [b2i_f fun q => q.1 c1], rfl⟩
  · refine t_go (op := o_iload 5 1) (fe_X11_isEmber 4) (fun _ _ => rfl) ?_
    refine t_go (op := o_aload 6 0) (fe_X11_isEmber 5) (fun _ _ => rfl) ?_
    refine t_go (op := o_getR 9 10 7) (fe_X11_isEmber 6) (g_getR hS (show (lay 1).1 = 10 by decide) (by decide) hg7 hgp) ?_
    refine t_go (op := o_getI 12 3 4) (fe_X11_isEmber 9) (g_getI hS hg (by decide)) ?_
    rw [hM]
    refine t_ite (op := o_icmp 15 25 (fun x y => y ≤ x) (fun _ _ => inferInstance)) (fe_X11_isEmber 12) g_icmp (fun c2 => ?_) (fun c2 => ?_)
    · refine t_go (op := o_ci 26 0) (fe_X11_isEmber 25) (fun _ _ => rfl) ?_
      refine t_ret (op := o_zret) (fe_X11_isEmber 26) (g_zret (Or.inl rfl)) ?_
      exact ⟨by rw [b2i_f fun q => absurd q.2 (Int32.not_lt.mpr c2)], rfl⟩
    · refine t_go (op := o_iload 16 1) (fe_X11_isEmber 15) (fun _ _ => rfl) ?_
      refine t_go (op := o_ci 18 7) (fe_X11_isEmber 16) (fun _ _ => rfl) ?_
      refine t_ite (op := o_icmp 21 25 (fun x y => y ≤ x) (fun _ _ => inferInstance)) (fe_X11_isEmber 18) g_icmp (fun c3 => ?_) (fun c3 => ?_)
      · refine t_go (op := o_ci 26 0) (fe_X11_isEmber 25) (fun _ _ => rfl) ?_
        refine t_ret (op := o_zret) (fe_X11_isEmber 26) (g_zret (Or.inl rfl)) ?_
        exact absurd (Int32.lt_of_lt_of_le (Int32.not_le.mp c2) (show nI m ≤ 7 from nI_le (b := 7) hm (by omega))) (Int32.not_lt.mpr c3)
      · refine t_go (op := o_ci 22 1) (fe_X11_isEmber 21) (fun _ _ => rfl) ?_
        refine t_go (op := o_goto 26) (fe_X11_isEmber 22) (fun _ _ => rfl) ?_
        refine t_ret (op := o_zret) (fe_X11_isEmber 26) (g_zret (Or.inr rfl)) ?_
        exact ⟨by rw [b2i_t ⟨c1, Int32.not_le.mp c2⟩], rfl⟩
theorem c_last {d : Nat} {h : AHP} {g n m : Nat} (hS : Std h) (hg : (lay g).1 = 3) (hg7 : h.2.2.1 1 7 = g) (hL : LawOK h g n) (hM : h.1 g 4 = nI m) (hm : m ≤ 7) (hz : NZ h)  : MM (d + 7) 123 [.ref 1] h (fun v h2 => v = some (.int ((it (bestS (fun e => outV (litT h g n (fs h 5)) (nI e))) 7 0 (-1, -1)).1)) ∧ X h h2) := by
  refine ⟨Nat.le_of_ble_eq_true rfl, ?_⟩
  obtain ⟨hN2, hzz⟩ := NZ_F hS hz (f := 5) (by decide)
  have hN := (NZ_F hS hz (f := 136) (by decide)).1
  have hR := (NZ_F hS hz (f := 143) (by decide)).1
  have hgp : 0 < g := (lay_lt hg (by decide)).1
  have hF : fs h 5 = fs h 5 := rfl
  refine t_go (op := o_aload 1 0) (fe_X11_last 0) (fun _ _ => rfl) ?_
  refine t_go (op := o_getR 4 10 5) (fe_X11_last 1) (g_getR hS (show (lay 1).1 = 10 by decide) (by decide) (fr_10_5 hS) (by decide)) ?_
  refine t_go (op := o_aload 5 0) (fe_X11_last 4) (fun _ _ => rfl) ?_
  refine t_go (op := o_getR 8 10 7) (fe_X11_last 5) (g_getR hS (show (lay 1).1 = 10 by decide) (by decide) hg7 hgp) ?_
  refine t_go (op := o_aload 9 0) (fe_X11_last 8) (fun _ _ => rfl) ?_
  refine t_go (op := o_getR 12 10 2) (fe_X11_last 9) (g_getR hS (show (lay 1).1 = 10 by decide) (by decide) (fr_10_2 hS) (by decide)) ?_
  refine t_call (op := o_callV 15 35 3 2) (fe_X11_last 12) (g_callV hS (by decide) (by decide) rfl rfl rfl (Nat.le_of_ble_eq_true rfl)) ?_
  refine M_mono ?_ (m_longest hS hg hL X.rf hN hzz hN2)
  rintro _ h2 ⟨rfl, hX, hN3⟩
  refine t_ret (op := o_iret) (fe_X11_last 15) (fun _ _ => rfl) ?_
  exact ⟨rfl, hX⟩
theorem c_peak {d : Nat} {h : AHP} {g n m : Nat} (hS : Std h) (hg : (lay g).1 = 3) (hg7 : h.2.2.1 1 7 = g) (hL : LawOK h g n) (hM : h.1 g 4 = nI m) (hm : m ≤ 7) (hz : NZ h)  : MM (d + 6) 124 [.ref 1] h (fun v h2 => v = some (.int ((it (hotS h g n) 40 1 ((0, heatV (fs h 5)), fs h 5)).1.1)) ∧ X h h2) := by
  refine ⟨Nat.le_of_ble_eq_true rfl, ?_⟩
  obtain ⟨hN2, hzz⟩ := NZ_F hS hz (f := 5) (by decide)
  have hN := (NZ_F hS hz (f := 136) (by decide)).1
  have hR := (NZ_F hS hz (f := 143) (by decide)).1
  have hgp : 0 < g := (lay_lt hg (by decide)).1
  have hF : fs h 5 = fs h 5 := rfl
  refine t_go (op := o_aload 1 0) (fe_X11_peak 0) (fun _ _ => rfl) ?_
  refine t_go (op := o_getR 4 10 5) (fe_X11_peak 1) (g_getR hS (show (lay 1).1 = 10 by decide) (by decide) (fr_10_5 hS) (by decide)) ?_
  refine t_go (op := o_aload 5 0) (fe_X11_peak 4) (fun _ _ => rfl) ?_
  refine t_go (op := o_getR 8 10 7) (fe_X11_peak 5) (g_getR hS (show (lay 1).1 = 10 by decide) (by decide) hg7 hgp) ?_
  refine t_go (op := o_aload 9 0) (fe_X11_peak 8) (fun _ _ => rfl) ?_
  refine t_go (op := o_getR 12 10 2) (fe_X11_peak 9) (g_getR hS (show (lay 1).1 = 10 by decide) (by decide) (fr_10_2 hS) (by decide)) ?_
  refine t_call (op := o_callV 15 36 3 2) (fe_X11_peak 12) (g_callV hS (by decide) (by decide) rfl rfl rfl (Nat.le_of_ble_eq_true rfl)) ?_
  refine M_mono ?_ (m_hottestHour hS hg hL X.rf hN hzz hN2)
  rintro _ h2 ⟨rfl, hX, hN3⟩
  refine t_ret (op := o_iret) (fe_X11_peak 15) (fun _ _ => rfl) ?_
  exact ⟨rfl, hX⟩
theorem c_lasts {d : Nat} {h : AHP} {g n m : Nat} (hS : Std h) (hg : (lay g).1 = 3) (hg7 : h.2.2.1 1 7 = g) (hL : LawOK h g n) (hM : h.1 g 4 = nI m) (hm : m ≤ 7) (hz : NZ h)  : MM (d + 7) 122 [.ref 1] h (fun v h2 => v = some (.int (lastsE (lastsV h g n (-1) 41 0 (fs h 5)))) ∧ X h h2) := by
  refine ⟨Nat.le_of_ble_eq_true rfl, ?_⟩
  obtain ⟨hN2, hzz⟩ := NZ_F hS hz (f := 5) (by decide)
  have hN := (NZ_F hS hz (f := 136) (by decide)).1
  have hR := (NZ_F hS hz (f := 143) (by decide)).1
  have hgp : 0 < g := (lay_lt hg (by decide)).1
  have hF : fs h 5 = fs h 5 := rfl
  refine t_go (op := o_aload 1 0) (fe_X11_lasts 0) (fun _ _ => rfl) ?_
  refine t_go (op := o_getR 4 10 5) (fe_X11_lasts 1) (g_getR hS (show (lay 1).1 = 10 by decide) (by decide) (fr_10_5 hS) (by decide)) ?_
  refine t_go (op := o_aload 5 0) (fe_X11_lasts 4) (fun _ _ => rfl) ?_
  refine t_go (op := o_getR 8 10 7) (fe_X11_lasts 5) (g_getR hS (show (lay 1).1 = 10 by decide) (by decide) hg7 hgp) ?_
  refine t_go (op := o_aload 9 0) (fe_X11_lasts 8) (fun _ _ => rfl) ?_
  refine t_go (op := o_getR 12 10 2) (fe_X11_lasts 9) (g_getR hS (show (lay 1).1 = 10 by decide) (by decide) (fr_10_2 hS) (by decide)) ?_
  refine t_call (op := o_callV 15 37 3 2) (fe_X11_lasts 12) (g_callV hS (by decide) (by decide) rfl rfl rfl (Nat.le_of_ble_eq_true rfl)) ?_
  refine M_mono ?_ (m_lastsNow hS hg hL X.rf hN hzz hN2)
  rintro _ h2 ⟨rfl, hX, hN3⟩
  refine t_go (op := o_istore 16 1) (fe_X11_lasts 15) (fun _ _ => rfl) ?_
  refine t_go (op := o_iload 17 1) (fe_X11_lasts 16) (fun _ _ => rfl) ?_
  refine t_go (op := o_ci 19 41) (fe_X11_lasts 17) (fun _ _ => rfl) ?_
  refine t_ite (op := o_icmp 26 22 (fun x y => x = y) (fun _ _ => inferInstance)) (fe_X11_lasts 19) g_icmp (fun c1 => ?_) (fun c1 => ?_)
  · refine t_go (op := o_ci 23 (-1)) (fe_X11_lasts 22) (fun _ _ => rfl) ?_
    refine t_go (op := o_goto 27) (fe_X11_lasts 23) (fun _ _ => rfl) ?_
    refine t_ret (op := o_iret) (fe_X11_lasts 27) (fun _ _ => rfl) ?_
    exact ⟨by rw [← lasts41, if_pos c1], hX⟩
  · refine t_go (op := o_iload 27 1) (fe_X11_lasts 26) (fun _ _ => rfl) ?_
    refine t_ret (op := o_iret) (fe_X11_lasts 27) (fun _ _ => rfl) ?_
    exact ⟨by rw [← lasts41, if_neg c1], hX⟩
theorem c_banks {d : Nat} {h : AHP} {g n m : Nat} (hS : Std h) (hg : (lay g).1 = 3) (hg7 : h.2.2.1 1 7 = g) (hL : LawOK h g n) (hM : h.1 g 4 = nI m) (hm : m ≤ 7) (hz : NZ h)  : MM (d + 7) 127 [.ref 1] h (fun v h2 => v = some (.int (if lastsV h g n (-1) 41 0 (fs h 5) ≤ (it (bestS (fun i => lastsV h g n (nI i) 41 0 (fs h 5))) 13 0 (-1, -1)).2 then (it (bestS (fun i => lastsV h g n (nI i) 41 0 (fs h 5))) 13 0 (-1, -1)).1 else -1)) ∧ X h h2) := by
  refine ⟨Nat.le_of_ble_eq_true rfl, ?_⟩
  obtain ⟨hN2, hzz⟩ := NZ_F hS hz (f := 5) (by decide)
  have hN := (NZ_F hS hz (f := 136) (by decide)).1
  have hR := (NZ_F hS hz (f := 143) (by decide)).1
  have hgp : 0 < g := (lay_lt hg (by decide)).1
  have hF : fs h 5 = fs h 5 := rfl
  refine t_go (op := o_aload 1 0) (fe_X11_banks 0) (fun _ _ => rfl) ?_
  refine t_go (op := o_getR 4 10 5) (fe_X11_banks 1) (g_getR hS (show (lay 1).1 = 10 by decide) (by decide) (fr_10_5 hS) (by decide)) ?_
  refine t_go (op := o_aload 5 0) (fe_X11_banks 4) (fun _ _ => rfl) ?_
  refine t_go (op := o_getR 8 10 7) (fe_X11_banks 5) (g_getR hS (show (lay 1).1 = 10 by decide) (by decide) hg7 hgp) ?_
  refine t_go (op := o_aload 9 0) (fe_X11_banks 8) (fun _ _ => rfl) ?_
  refine t_go (op := o_getR 12 10 2) (fe_X11_banks 9) (g_getR hS (show (lay 1).1 = 10 by decide) (by decide) (fr_10_2 hS) (by decide)) ?_
  refine t_call (op := o_callV 15 39 3 2) (fe_X11_banks 12) (g_callV hS (by decide) (by decide) rfl rfl rfl (Nat.le_of_ble_eq_true rfl)) ?_
  refine M_mono ?_ (m_bestBanking hS hg hL X.rf hN hzz hN2)
  rintro _ h2 ⟨rfl, hX, hN3⟩
  refine t_ret (op := o_iret) (fe_X11_banks 15) (fun _ _ => rfl) ?_
  exact ⟨rfl, hX⟩
theorem c_falls {d : Nat} {h : AHP} {g n m : Nat} (hS : Std h) (hg : (lay g).1 = 3) (hg7 : h.2.2.1 1 7 = g) (hL : LawOK h g n) (hM : h.1 g 4 = nI m) (hm : m ≤ 7) (hz : NZ h)  : MM (d + 6) 142 [.ref 1] h (fun v h2 => v = some (.int (it (fallB (HF h g n (fs h 5)) (fs h 5)) 7 0 0)) ∧ X h h2) := by
  refine ⟨Nat.le_of_ble_eq_true rfl, ?_⟩
  obtain ⟨hN2, hzz⟩ := NZ_F hS hz (f := 5) (by decide)
  have hN := (NZ_F hS hz (f := 136) (by decide)).1
  have hR := (NZ_F hS hz (f := 143) (by decide)).1
  have hgp : 0 < g := (lay_lt hg (by decide)).1
  have hF : fs h 5 = fs h 5 := rfl
  refine t_go (op := o_aload 1 0) (fe_X11_falls 0) (fun _ _ => rfl) ?_
  refine t_go (op := o_getR 4 10 5) (fe_X11_falls 1) (g_getR hS (show (lay 1).1 = 10 by decide) (by decide) (fr_10_5 hS) (by decide)) ?_
  refine t_go (op := o_aload 5 0) (fe_X11_falls 4) (fun _ _ => rfl) ?_
  refine t_go (op := o_getR 8 10 7) (fe_X11_falls 5) (g_getR hS (show (lay 1).1 = 10 by decide) (by decide) hg7 hgp) ?_
  refine t_go (op := o_aload 9 0) (fe_X11_falls 8) (fun _ _ => rfl) ?_
  refine t_go (op := o_getR 12 10 2) (fe_X11_falls 9) (g_getR hS (show (lay 1).1 = 10 by decide) (by decide) (fr_10_2 hS) (by decide)) ?_
  refine t_call (op := o_callV 15 41 3 2) (fe_X11_falls 12) (g_callV hS (by decide) (by decide) rfl rfl rfl (Nat.le_of_ble_eq_true rfl)) ?_
  refine M_mono ?_ (m_nextFalls hS hg hL X.rf hN hzz hN2)
  rintro _ h2 ⟨rfl, hX, hN3⟩
  refine t_ret (op := o_iret) (fe_X11_falls 15) (fun _ _ => rfl) ?_
  exact ⟨rfl, hX⟩
theorem c_kindle {d : Nat} {h : AHP} {g n m : Nat} (hS : Std h) (hg : (lay g).1 = 3) (hg7 : h.2.2.1 1 7 = g) (hL : LawOK h g n) (hM : h.1 g 4 = nI m) (hm : m ≤ 7) (hz : NZ h)  : MM (d + 7) 129 [.ref 1] h (fun v h2 => v = some (.int (serV (ser2 (litP h g n (it (burnB (fs h 5) (h.1 (g + 2))) 7 0 0)) 128 8 0))) ∧ X h h2) := by
  refine ⟨Nat.le_of_ble_eq_true rfl, ?_⟩
  obtain ⟨hN2, hzz⟩ := NZ_F hS hz (f := 5) (by decide)
  have hN := (NZ_F hS hz (f := 136) (by decide)).1
  have hR := (NZ_F hS hz (f := 143) (by decide)).1
  have hgp : 0 < g := (lay_lt hg (by decide)).1
  have hF : fs h 5 = fs h 5 := rfl
  refine t_go (op := o_aload 1 0) (fe_X11_kindle 0) (fun _ _ => rfl) ?_
  refine t_go (op := o_getR 4 10 6) (fe_X11_kindle 1) (g_getR hS (show (lay 1).1 = 10 by decide) (by decide) (fr_10_6 hS) (by decide)) ?_
  refine t_go (op := o_aload 5 0) (fe_X11_kindle 4) (fun _ _ => rfl) ?_
  refine t_go (op := o_getR 8 10 7) (fe_X11_kindle 5) (g_getR hS (show (lay 1).1 = 10 by decide) (by decide) hg7 hgp) ?_
  refine t_go (op := o_aload 9 0) (fe_X11_kindle 8) (fun _ _ => rfl) ?_
  refine t_go (op := o_getR 12 10 2) (fe_X11_kindle 9) (g_getR hS (show (lay 1).1 = 10 by decide) (by decide) (fr_10_2 hS) (by decide)) ?_
  refine t_call (op := o_callV 15 86 3 7) (fe_X11_kindle 12) (g_callV hS (by decide) (by decide) rfl rfl rfl (Nat.le_of_ble_eq_true rfl)) ?_
  refine M_mono ?_ (m_fewestLit hS hg hL X.rf hR hzz hN2)
  rintro _ h2 ⟨rfl, hX, hN3⟩
  refine t_ret (op := o_iret) (fe_X11_kindle 15) (fun _ _ => rfl) ?_
  exact ⟨rfl, hX⟩
theorem c_age {d : Nat} {h : AHP} {g n m : Nat} (hS : Std h) (hg : (lay g).1 = 3) (hg7 : h.2.2.1 1 7 = g) (hL : LawOK h g n) (hM : h.1 g 4 = nI m) (hm : m ≤ 7) (hz : NZ h)  : MM (d + 1) 125 [.ref 1] h (fun v h2 => v = some (.int (heatV (fs h 5) / 20)) ∧ X h h2) := by
  refine ⟨Nat.le_of_ble_eq_true rfl, ?_⟩
  obtain ⟨hN2, hzz⟩ := NZ_F hS hz (f := 5) (by decide)
  have hN := (NZ_F hS hz (f := 136) (by decide)).1
  have hR := (NZ_F hS hz (f := 143) (by decide)).1
  have hgp : 0 < g := (lay_lt hg (by decide)).1
  have hF : fs h 5 = fs h 5 := rfl
  refine t_go (op := o_aload 1 0) (fe_X11_age 0) (fun _ _ => rfl) ?_
  refine t_go (op := o_getR 4 10 2) (fe_X11_age 1) (g_getR hS (show (lay 1).1 = 10 by decide) (by decide) (fr_10_2 hS) (by decide)) ?_
  refine t_call (op := o_callV 7 21 1 1) (fe_X11_age 4) (g_callV hS (by decide) (by decide) rfl rfl rfl (Nat.le_of_ble_eq_true rfl)) ?_
  refine M_eq (a_heatOfAll hS (by decide) hF) ?_
  refine t_go (op := o_ci 9 20) (fe_X11_age 7) (fun _ _ => rfl) ?_
  refine t_go (op := o_i2d 10 (fun x y => x / y)) (fe_X11_age 9) (g_i2d (by decide)) ?_
  refine t_ret (op := o_iret) (fe_X11_age 10) (fun _ _ => rfl) ?_
  exact ⟨rfl, X.rf⟩
theorem c_out {d : Nat} {h : AHP} {g n m : Nat} (hS : Std h) (hg : (lay g).1 = 3) (hg7 : h.2.2.1 1 7 = g) (hL : LawOK h g n) (hM : h.1 g 4 = nI m) (hm : m ≤ 7) (hz : NZ h) {e : Nat} (he : e < m) : MM (d + 6) 121 [.ref 1, .int (nI e)] h (fun v h2 => v = some (.int (outV (litT h g n (fs h 5)) (nI e))) ∧ X h h2) := by
  refine ⟨Nat.le_of_ble_eq_true rfl, ?_⟩
  obtain ⟨hN2, hzz⟩ := NZ_F hS hz (f := 5) (by decide)
  have hN := (NZ_F hS hz (f := 136) (by decide)).1
  have hR := (NZ_F hS hz (f := 143) (by decide)).1
  have hgp : 0 < g := (lay_lt hg (by decide)).1
  have hF : fs h 5 = fs h 5 := rfl
  refine t_go (op := o_aload 1 0) (fe_X11_out 0) (fun _ _ => rfl) ?_
  refine t_go (op := o_iload 2 1) (fe_X11_out 1) (fun _ _ => rfl) ?_
  refine t_call (op := o_callV 5 150 2 10) (fe_X11_out 2) (g_callV hS (show (lay 1).1 = 10 by decide) (by decide) rfl rfl rfl (Nat.le_of_ble_eq_true rfl)) ?_
  refine M_eq (c_isEmber hS hg hg7 hL hM hm hz) ?_
  refine t_ite (op := o_if 10 8 (fun x => x = 0) (fun _ => inferInstance)) (fe_X11_out 5) g_if (fun c1 => ?_) (fun c1 => ?_)
  · exact absurd (isE he hm) (b2i_z c1)
  · replace c1 := b2i_nn c1
    refine t_go (op := o_aload 11 0) (fe_X11_out 10) (fun _ _ => rfl) ?_
    refine t_go (op := o_getR 14 10 5) (fe_X11_out 11) (g_getR hS (show (lay 1).1 = 10 by decide) (by decide) (fr_10_5 hS) (by decide)) ?_
    refine t_go (op := o_aload 15 0) (fe_X11_out 14) (fun _ _ => rfl) ?_
    refine t_go (op := o_getR 18 10 7) (fe_X11_out 15) (g_getR hS (show (lay 1).1 = 10 by decide) (by decide) hg7 hgp) ?_
    refine t_go (op := o_aload 19 0) (fe_X11_out 18) (fun _ _ => rfl) ?_
    refine t_go (op := o_getR 22 10 2) (fe_X11_out 19) (g_getR hS (show (lay 1).1 = 10 by decide) (by decide) (fr_10_2 hS) (by decide)) ?_
    refine t_call (op := o_callV 25 32 3 2) (fe_X11_out 22) (g_callV hS (by decide) (by decide) rfl rfl rfl (Nat.le_of_ble_eq_true rfl)) ?_
    refine M_mono ?_ (m_watch hS hg hL X.rf hN hzz hN2)
    rintro _ h2 ⟨rfl, hX, hN3, h141⟩
    replace hS := hX.std hS
    refine t_go (op := o_aload 26 0) (fe_X11_out 25) (fun _ _ => rfl) ?_
    refine t_go (op := o_getR 29 10 5) (fe_X11_out 26) (g_getR hS (show (lay 1).1 = 10 by decide) (by decide) (fr_10_5 hS) (by decide)) ?_
    refine t_go (op := o_iload 30 1) (fe_X11_out 29) (fun _ _ => rfl) ?_
    refine t_call (op := o_callV 33 33 2 2) (fe_X11_out 30) (g_callV hS (by decide) (by decide) rfl rfl rfl (Nat.le_of_ble_eq_true rfl)) ?_
    refine M_eq (m_outOf hS) ?_
    refine t_ret (op := o_iret) (fe_X11_out 33) (fun _ _ => rfl) ?_
    exact ⟨by rw [outV_congr h141], hX⟩
theorem c_outF {d : Nat} {h : AHP} {g n m : Nat} (hS : Std h) (hg : (lay g).1 = 3) (hg7 : h.2.2.1 1 7 = g) (hL : LawOK h g n) (hM : h.1 g 4 = nI m) (hm : m ≤ 7) (hz : NZ h) {x : Int32} (hn : ¬ (¬ x < 0 ∧ x < nI m)) : MM (d + 6) 121 [.ref 1, .int x] h (fun v h2 => v = some (.int (-1)) ∧ X h h2) := by
  refine ⟨Nat.le_of_ble_eq_true rfl, ?_⟩
  obtain ⟨hN2, hzz⟩ := NZ_F hS hz (f := 5) (by decide)
  have hN := (NZ_F hS hz (f := 136) (by decide)).1
  have hR := (NZ_F hS hz (f := 143) (by decide)).1
  have hgp : 0 < g := (lay_lt hg (by decide)).1
  have hF : fs h 5 = fs h 5 := rfl
  refine t_go (op := o_aload 1 0) (fe_X11_out 0) (fun _ _ => rfl) ?_
  refine t_go (op := o_iload 2 1) (fe_X11_out 1) (fun _ _ => rfl) ?_
  refine t_call (op := o_callV 5 150 2 10) (fe_X11_out 2) (g_callV hS (show (lay 1).1 = 10 by decide) (by decide) rfl rfl rfl (Nat.le_of_ble_eq_true rfl)) ?_
  refine M_eq (c_isEmber hS hg hg7 hL hM hm hz) ?_
  refine t_ite (op := o_if 10 8 (fun x => x = 0) (fun _ => inferInstance)) (fe_X11_out 5) g_if (fun c1 => ?_) (fun c1 => ?_)
  · replace c1 := b2i_z c1
    refine t_go (op := o_ci 9 (-1)) (fe_X11_out 8) (fun _ _ => rfl) ?_
    refine t_ret (op := o_iret) (fe_X11_out 9) (fun _ _ => rfl) ?_
    exact ⟨rfl, X.rf⟩
  · exact absurd (b2i_nn c1) hn
theorem c_caught {d : Nat} {h : AHP} {g n m : Nat} (hS : Std h) (hg : (lay g).1 = 3) (hg7 : h.2.2.1 1 7 = g) (hL : LawOK h g n) (hM : h.1 g 4 = nI m) (hm : m ≤ 7) (hz : NZ h) {e : Nat} (he : e < m) : MM (d + 6) 140 [.ref 1, .int (nI e)] h (fun v h2 => v = some (.int (firstR (litT h g n (fs h 5)) (nI e) 41 0)) ∧ X h h2) := by
  refine ⟨Nat.le_of_ble_eq_true rfl, ?_⟩
  obtain ⟨hN2, hzz⟩ := NZ_F hS hz (f := 5) (by decide)
  have hN := (NZ_F hS hz (f := 136) (by decide)).1
  have hR := (NZ_F hS hz (f := 143) (by decide)).1
  have hgp : 0 < g := (lay_lt hg (by decide)).1
  have hF : fs h 5 = fs h 5 := rfl
  refine t_go (op := o_aload 1 0) (fe_X11_caught 0) (fun _ _ => rfl) ?_
  refine t_go (op := o_iload 2 1) (fe_X11_caught 1) (fun _ _ => rfl) ?_
  refine t_call (op := o_callV 5 150 2 10) (fe_X11_caught 2) (g_callV hS (show (lay 1).1 = 10 by decide) (by decide) rfl rfl rfl (Nat.le_of_ble_eq_true rfl)) ?_
  refine M_eq (c_isEmber hS hg hg7 hL hM hm hz) ?_
  refine t_ite (op := o_if 10 8 (fun x => x = 0) (fun _ => inferInstance)) (fe_X11_caught 5) g_if (fun c1 => ?_) (fun c1 => ?_)
  · exact absurd (isE he hm) (b2i_z c1)
  · replace c1 := b2i_nn c1
    refine t_go (op := o_aload 11 0) (fe_X11_caught 10) (fun _ _ => rfl) ?_
    refine t_go (op := o_getR 14 10 5) (fe_X11_caught 11) (g_getR hS (show (lay 1).1 = 10 by decide) (by decide) (fr_10_5 hS) (by decide)) ?_
    refine t_go (op := o_aload 15 0) (fe_X11_caught 14) (fun _ _ => rfl) ?_
    refine t_go (op := o_getR 18 10 7) (fe_X11_caught 15) (g_getR hS (show (lay 1).1 = 10 by decide) (by decide) hg7 hgp) ?_
    refine t_go (op := o_aload 19 0) (fe_X11_caught 18) (fun _ _ => rfl) ?_
    refine t_go (op := o_getR 22 10 2) (fe_X11_caught 19) (g_getR hS (show (lay 1).1 = 10 by decide) (by decide) (fr_10_2 hS) (by decide)) ?_
    refine t_call (op := o_callV 25 32 3 2) (fe_X11_caught 22) (g_callV hS (by decide) (by decide) rfl rfl rfl (Nat.le_of_ble_eq_true rfl)) ?_
    refine M_mono ?_ (m_watch hS hg hL X.rf hN hzz hN2)
    rintro _ h2 ⟨rfl, hX, hN3, h141⟩
    replace hS := hX.std hS
    refine t_go (op := o_aload 26 0) (fe_X11_caught 25) (fun _ _ => rfl) ?_
    refine t_go (op := o_getR 29 10 5) (fe_X11_caught 26) (g_getR hS (show (lay 1).1 = 10 by decide) (by decide) (fr_10_5 hS) (by decide)) ?_
    refine t_go (op := o_iload 30 1) (fe_X11_caught 29) (fun _ _ => rfl) ?_
    refine t_call (op := o_callV 33 34 2 2) (fe_X11_caught 30) (g_callV hS (by decide) (by decide) rfl rfl rfl (Nat.le_of_ble_eq_true rfl)) ?_
    refine M_eq (m_firstLit hS) ?_
    refine t_ret (op := o_iret) (fe_X11_caught 33) (fun _ _ => rfl) ?_
    exact ⟨by rw [firstR_congr 41 0 (fun t ht => h141 t (by omega))], hX⟩
theorem c_caughtF {d : Nat} {h : AHP} {g n m : Nat} (hS : Std h) (hg : (lay g).1 = 3) (hg7 : h.2.2.1 1 7 = g) (hL : LawOK h g n) (hM : h.1 g 4 = nI m) (hm : m ≤ 7) (hz : NZ h) {x : Int32} (hn : ¬ (¬ x < 0 ∧ x < nI m)) : MM (d + 6) 140 [.ref 1, .int x] h (fun v h2 => v = some (.int (-1)) ∧ X h h2) := by
  refine ⟨Nat.le_of_ble_eq_true rfl, ?_⟩
  obtain ⟨hN2, hzz⟩ := NZ_F hS hz (f := 5) (by decide)
  have hN := (NZ_F hS hz (f := 136) (by decide)).1
  have hR := (NZ_F hS hz (f := 143) (by decide)).1
  have hgp : 0 < g := (lay_lt hg (by decide)).1
  have hF : fs h 5 = fs h 5 := rfl
  refine t_go (op := o_aload 1 0) (fe_X11_caught 0) (fun _ _ => rfl) ?_
  refine t_go (op := o_iload 2 1) (fe_X11_caught 1) (fun _ _ => rfl) ?_
  refine t_call (op := o_callV 5 150 2 10) (fe_X11_caught 2) (g_callV hS (show (lay 1).1 = 10 by decide) (by decide) rfl rfl rfl (Nat.le_of_ble_eq_true rfl)) ?_
  refine M_eq (c_isEmber hS hg hg7 hL hM hm hz) ?_
  refine t_ite (op := o_if 10 8 (fun x => x = 0) (fun _ => inferInstance)) (fe_X11_caught 5) g_if (fun c1 => ?_) (fun c1 => ?_)
  · replace c1 := b2i_z c1
    refine t_go (op := o_ci 9 (-1)) (fe_X11_caught 8) (fun _ _ => rfl) ?_
    refine t_ret (op := o_iret) (fe_X11_caught 9) (fun _ _ => rfl) ?_
    exact ⟨rfl, X.rf⟩
  · exact absurd (b2i_nn c1) hn
theorem c_move {d : Nat} {h : AHP} {g n m : Nat} (hS : Std h) (hg : (lay g).1 = 3) (hg7 : h.2.2.1 1 7 = g) (hL : LawOK h g n) (hM : h.1 g 4 = nI m) (hm : m ≤ 7) (hz : NZ h) {y : Int32} (hy : ¬ y < 0 ∧ ¬ 1 < y) : MM (d + 7) 126 [.ref 1, .int y] h (fun v h2 => v = some (.int (moveE (it (moveG h g n (fs h 5)) 84 0 (-1, lastsV h g n (-1) 41 0 (fs h 5))).1 y)) ∧ X h h2) := by
  refine ⟨Nat.le_of_ble_eq_true rfl, ?_⟩
  obtain ⟨hN2, hzz⟩ := NZ_F hS hz (f := 5) (by decide)
  have hN := (NZ_F hS hz (f := 136) (by decide)).1
  have hR := (NZ_F hS hz (f := 143) (by decide)).1
  have hgp : 0 < g := (lay_lt hg (by decide)).1
  have hF : fs h 5 = fs h 5 := rfl
  refine t_go (op := o_iload 1 1) (fe_X11_move 0) (fun _ _ => rfl) ?_
  refine t_ite (op := o_if 4 9 (fun x => x < 0) (fun _ => inferInstance)) (fe_X11_move 1) g_if (fun c1 => ?_) (fun c1 => ?_)
  · exact absurd c1 hy.1
  · refine t_go (op := o_iload 5 1) (fe_X11_move 4) (fun _ _ => rfl) ?_
    refine t_go (op := o_ci 6 1) (fe_X11_move 5) (fun _ _ => rfl) ?_
    refine t_ite (op := o_icmp 9 11 (fun x y => x ≤ y) (fun _ _ => inferInstance)) (fe_X11_move 6) g_icmp (fun c2 => ?_) (fun c2 => ?_)
    · refine t_go (op := o_aload 12 0) (fe_X11_move 11) (fun _ _ => rfl) ?_
      refine t_go (op := o_getR 15 10 5) (fe_X11_move 12) (g_getR hS (show (lay 1).1 = 10 by decide) (by decide) (fr_10_5 hS) (by decide)) ?_
      refine t_go (op := o_aload 16 0) (fe_X11_move 15) (fun _ _ => rfl) ?_
      refine t_go (op := o_getR 19 10 7) (fe_X11_move 16) (g_getR hS (show (lay 1).1 = 10 by decide) (by decide) hg7 hgp) ?_
      refine t_go (op := o_aload 20 0) (fe_X11_move 19) (fun _ _ => rfl) ?_
      refine t_go (op := o_getR 23 10 2) (fe_X11_move 20) (g_getR hS (show (lay 1).1 = 10 by decide) (by decide) (fr_10_2 hS) (by decide)) ?_
      refine t_call (op := o_callV 26 38 3 2) (fe_X11_move 23) (g_callV hS (by decide) (by decide) rfl rfl rfl (Nat.le_of_ble_eq_true rfl)) ?_
      refine M_mono ?_ (m_bestMove hS hg hL X.rf hN hzz hN2)
      rintro _ h2 ⟨rfl, hX, hN3⟩
      refine t_go (op := o_istore 27 2) (fe_X11_move 26) (fun _ _ => rfl) ?_
      refine t_go (op := o_iload 28 2) (fe_X11_move 27) (fun _ _ => rfl) ?_
      refine t_go (op := o_ci 29 (-1)) (fe_X11_move 28) (fun _ _ => rfl) ?_
      refine t_ite (op := o_icmp 34 32 (fun x y => x = y) (fun _ _ => inferInstance)) (fe_X11_move 29) g_icmp (fun c3 => ?_) (fun c3 => ?_)
      · refine t_go (op := o_ci 33 (-1)) (fe_X11_move 32) (fun _ _ => rfl) ?_
        refine t_ret (op := o_iret) (fe_X11_move 33) (fun _ _ => rfl) ?_
        exact ⟨congrArg (fun z => some (Value.int z)) (((moveE_eq (moveG_n 84 0 _ (by omega) (Or.inl rfl))).symm.trans (if_pos c3))).symm, hX⟩
      · refine t_go (op := o_iload 35 1) (fe_X11_move 34) (fun _ _ => rfl) ?_
        refine t_ite (op := o_if 45 38 (fun x => x = 0) (fun _ => inferInstance)) (fe_X11_move 35) g_if (fun c4 => ?_) (fun c4 => ?_)
        · refine t_go (op := o_iload 39 2) (fe_X11_move 38) (fun _ _ => rfl) ?_
          refine t_go (op := o_ci 41 12) (fe_X11_move 39) (fun _ _ => rfl) ?_
          refine t_go (op := o_i2d 42 (fun x y => x / y)) (fe_X11_move 41) (g_i2d (by decide)) ?_
          refine t_go (op := o_goto 49) (fe_X11_move 42) (fun _ _ => rfl) ?_
          refine t_ret (op := o_iret) (fe_X11_move 49) (fun _ _ => rfl) ?_
          exact ⟨congrArg (fun z => some (Value.int z)) (((moveE_eq (moveG_n 84 0 _ (by omega) (Or.inl rfl))).symm.trans (Eq.trans (if_neg c3) (if_pos c4)))).symm, hX⟩
        · refine t_go (op := o_iload 46 2) (fe_X11_move 45) (fun _ _ => rfl) ?_
          refine t_go (op := o_ci 48 12) (fe_X11_move 46) (fun _ _ => rfl) ?_
          refine t_go (op := o_i2d 49 (fun x y => x - x / y * y)) (fe_X11_move 48) (g_i2d (by decide)) ?_
          refine t_ret (op := o_iret) (fe_X11_move 49) (fun _ _ => rfl) ?_
          exact ⟨congrArg (fun z => some (Value.int z)) (((moveE_eq (moveG_n 84 0 _ (by omega) (Or.inl rfl))).symm.trans (Eq.trans (if_neg c3) (if_neg c4)))).symm, hX⟩
    · exact absurd (Int32.not_le.mp c2) hy.2
theorem c_moveF {d : Nat} {h : AHP} {g n m : Nat} (hS : Std h) (hg : (lay g).1 = 3) (hg7 : h.2.2.1 1 7 = g) (hL : LawOK h g n) (hM : h.1 g 4 = nI m) (hm : m ≤ 7) (hz : NZ h) {y : Int32} (hn : ¬ (¬ y < 0 ∧ ¬ 1 < y)) : MM (d + 7) 126 [.ref 1, .int y] h (fun v h2 => v = some (.int (-1)) ∧ X h h2) := by
  refine ⟨Nat.le_of_ble_eq_true rfl, ?_⟩
  obtain ⟨hN2, hzz⟩ := NZ_F hS hz (f := 5) (by decide)
  have hN := (NZ_F hS hz (f := 136) (by decide)).1
  have hR := (NZ_F hS hz (f := 143) (by decide)).1
  have hgp : 0 < g := (lay_lt hg (by decide)).1
  have hF : fs h 5 = fs h 5 := rfl
  refine t_go (op := o_iload 1 1) (fe_X11_move 0) (fun _ _ => rfl) ?_
  refine t_ite (op := o_if 4 9 (fun x => x < 0) (fun _ => inferInstance)) (fe_X11_move 1) g_if (fun c1 => ?_) (fun c1 => ?_)
  · refine t_go (op := o_ci 10 (-1)) (fe_X11_move 9) (fun _ _ => rfl) ?_
    refine t_ret (op := o_iret) (fe_X11_move 10) (fun _ _ => rfl) ?_
    exact ⟨rfl, X.rf⟩
  · refine t_go (op := o_iload 5 1) (fe_X11_move 4) (fun _ _ => rfl) ?_
    refine t_go (op := o_ci 6 1) (fe_X11_move 5) (fun _ _ => rfl) ?_
    refine t_ite (op := o_icmp 9 11 (fun x y => x ≤ y) (fun _ _ => inferInstance)) (fe_X11_move 6) g_icmp (fun c2 => ?_) (fun c2 => ?_)
    · exact absurd ⟨c1, Int32.not_lt.mpr c2⟩ hn
    · refine t_go (op := o_ci 10 (-1)) (fe_X11_move 9) (fun _ _ => rfl) ?_
      refine t_ret (op := o_iret) (fe_X11_move 10) (fun _ _ => rfl) ?_
      exact ⟨rfl, X.rf⟩
theorem c_stir {d : Nat} {h : AHP} {g n m : Nat} (hS : Std h) (hg : (lay g).1 = 3) (hg7 : h.2.2.1 1 7 = g) (hL : LawOK h g n) (hM : h.1 g 4 = nI m) (hm : m ≤ 7) (hz : NZ h) {q : Nat} (hq1 : 1 ≤ q) (hq6 : q ≤ 12) : MM (d + 6) 128 [.ref 1, .int (nI q)] h (fun v h2 => v = some (.int ((it (stirS h g n (fs h 5) q) 7 0 (-1, -1)).1)) ∧ X h h2) := by
  refine ⟨Nat.le_of_ble_eq_true rfl, ?_⟩
  obtain ⟨hN2, hzz⟩ := NZ_F hS hz (f := 5) (by decide)
  have hN := (NZ_F hS hz (f := 136) (by decide)).1
  have hR := (NZ_F hS hz (f := 143) (by decide)).1
  have hgp : 0 < g := (lay_lt hg (by decide)).1
  have hF : fs h 5 = fs h 5 := rfl
  refine t_go (op := o_iload 1 1) (fe_X11_stir 0) (fun _ _ => rfl) ?_
  refine t_go (op := o_ci 2 1) (fe_X11_stir 1) (fun _ _ => rfl) ?_
  refine t_ite (op := o_icmp 5 11 (fun x y => x < y) (fun _ _ => inferInstance)) (fe_X11_stir 2) g_icmp (fun c1 => ?_) (fun c1 => ?_)
  · exact absurd c1 (nI_nlt (b := 1) hq1 (by omega))
  · refine t_go (op := o_iload 6 1) (fe_X11_stir 5) (fun _ _ => rfl) ?_
    refine t_go (op := o_ci 8 12) (fe_X11_stir 6) (fun _ _ => rfl) ?_
    refine t_ite (op := o_icmp 11 15 (fun x y => x ≤ y) (fun _ _ => inferInstance)) (fe_X11_stir 8) g_icmp (fun c2 => ?_) (fun c2 => ?_)
    · refine t_go (op := o_aload 16 0) (fe_X11_stir 15) (fun _ _ => rfl) ?_
      refine t_go (op := o_getR 19 10 5) (fe_X11_stir 16) (g_getR hS (show (lay 1).1 = 10 by decide) (by decide) (fr_10_5 hS) (by decide)) ?_
      refine t_go (op := o_aload 20 0) (fe_X11_stir 19) (fun _ _ => rfl) ?_
      refine t_go (op := o_getR 23 10 7) (fe_X11_stir 20) (g_getR hS (show (lay 1).1 = 10 by decide) (by decide) hg7 hgp) ?_
      refine t_go (op := o_aload 24 0) (fe_X11_stir 23) (fun _ _ => rfl) ?_
      refine t_go (op := o_getR 27 10 2) (fe_X11_stir 24) (g_getR hS (show (lay 1).1 = 10 by decide) (by decide) (fr_10_2 hS) (by decide)) ?_
      refine t_go (op := o_iload 28 1) (fe_X11_stir 27) (fun _ _ => rfl) ?_
      refine t_call (op := o_callV 31 40 4 2) (fe_X11_stir 28) (g_callV hS (by decide) (by decide) rfl rfl rfl (Nat.le_of_ble_eq_true rfl)) ?_
      refine M_mono ?_ (m_bestPoke hS hg hL X.rf hN hzz hN2 (by omega))
      rintro _ h2 ⟨rfl, hX, hN3⟩
      refine t_ret (op := o_iret) (fe_X11_stir 31) (fun _ _ => rfl) ?_
      exact ⟨rfl, hX⟩
    · exact absurd (show nI q ≤ 12 from nI_le (b := 12) hq6 (by omega)) c2
theorem c_stirF {d : Nat} {h : AHP} {g n m : Nat} (hS : Std h) (hg : (lay g).1 = 3) (hg7 : h.2.2.1 1 7 = g) (hL : LawOK h g n) (hM : h.1 g 4 = nI m) (hm : m ≤ 7) (hz : NZ h) {x : Int32} (hn : ¬ (¬ x < 1 ∧ ¬ 12 < x)) : MM (d + 6) 128 [.ref 1, .int x] h (fun v h2 => v = some (.int (-1)) ∧ X h h2) := by
  refine ⟨Nat.le_of_ble_eq_true rfl, ?_⟩
  obtain ⟨hN2, hzz⟩ := NZ_F hS hz (f := 5) (by decide)
  have hN := (NZ_F hS hz (f := 136) (by decide)).1
  have hR := (NZ_F hS hz (f := 143) (by decide)).1
  have hgp : 0 < g := (lay_lt hg (by decide)).1
  have hF : fs h 5 = fs h 5 := rfl
  refine t_go (op := o_iload 1 1) (fe_X11_stir 0) (fun _ _ => rfl) ?_
  refine t_go (op := o_ci 2 1) (fe_X11_stir 1) (fun _ _ => rfl) ?_
  refine t_ite (op := o_icmp 5 11 (fun x y => x < y) (fun _ _ => inferInstance)) (fe_X11_stir 2) g_icmp (fun c1 => ?_) (fun c1 => ?_)
  · refine t_go (op := o_ci 12 (-1)) (fe_X11_stir 11) (fun _ _ => rfl) ?_
    refine t_go (op := o_goto 31) (fe_X11_stir 12) (fun _ _ => rfl) ?_
    refine t_ret (op := o_iret) (fe_X11_stir 31) (fun _ _ => rfl) ?_
    exact ⟨rfl, X.rf⟩
  · refine t_go (op := o_iload 6 1) (fe_X11_stir 5) (fun _ _ => rfl) ?_
    refine t_go (op := o_ci 8 12) (fe_X11_stir 6) (fun _ _ => rfl) ?_
    refine t_ite (op := o_icmp 11 15 (fun x y => x ≤ y) (fun _ _ => inferInstance)) (fe_X11_stir 8) g_icmp (fun c2 => ?_) (fun c2 => ?_)
    · exact absurd ⟨c1, Int32.not_lt.mpr c2⟩ hn
    · refine t_go (op := o_ci 12 (-1)) (fe_X11_stir 11) (fun _ _ => rfl) ?_
      refine t_go (op := o_goto 31) (fe_X11_stir 12) (fun _ _ => rfl) ?_
      refine t_ret (op := o_iret) (fe_X11_stir 31) (fun _ _ => rfl) ?_
      exact ⟨rfl, X.rf⟩
theorem c_longView {d : Nat} {h : AHP} {x : Int32} : MM d 152 [.int x] h (fun v h2 => v = some (.int (b2i (¬ x < 0 ∧ ¬ 40 < x))) ∧ h2 = h) := by
  refine ⟨Nat.le_of_ble_eq_true rfl, ?_⟩
  refine t_go (op := o_iload 1 0) (fe_X11_isLongView 0) (fun _ _ => rfl) ?_
  refine t_ite (op := o_if 4 14 (fun x => x < 0) (fun _ => inferInstance)) (fe_X11_isLongView 1) g_if (fun c1 => ?_) (fun c1 => ?_)
  · refine t_go (op := o_ci 15 0) (fe_X11_isLongView 14) (fun _ _ => rfl) ?_
    refine t_ret (op := o_zret) (fe_X11_isLongView 15) (g_zret (Or.inl rfl)) ?_
    exact ⟨by rw [b2i_f fun q => q.1 c1], rfl⟩
  · refine t_go (op := o_iload 5 0) (fe_X11_isLongView 4) (fun _ _ => rfl) ?_
    refine t_go (op := o_ci 7 40) (fe_X11_isLongView 5) (fun _ _ => rfl) ?_
    refine t_ite (op := o_icmp 10 14 (fun x y => y < x) (fun _ _ => inferInstance)) (fe_X11_isLongView 7) g_icmp (fun c2 => ?_) (fun c2 => ?_)
    · refine t_go (op := o_ci 15 0) (fe_X11_isLongView 14) (fun _ _ => rfl) ?_
      refine t_ret (op := o_zret) (fe_X11_isLongView 15) (g_zret (Or.inl rfl)) ?_
      exact ⟨by rw [b2i_f fun q => q.2 c2], rfl⟩
    · refine t_go (op := o_ci 11 1) (fe_X11_isLongView 10) (fun _ _ => rfl) ?_
      refine t_go (op := o_goto 15) (fe_X11_isLongView 11) (fun _ _ => rfl) ?_
      refine t_ret (op := o_zret) (fe_X11_isLongView 15) (g_zret (Or.inr rfl)) ?_
      exact ⟨by rw [b2i_t ⟨c1, c2⟩], rfl⟩
theorem a_ashBits {d : Nat} {k : AHP} {f g : Nat} {F : FS} (hS : Std k) (hf : (lay f).1 = 1) (hg : (lay g).1 = 3) (hF : fs k f = F) : MM (d + 1) 19 [.ref f, .ref g] k (fun v h2 => v = some (.int (it (ashS F (k.1 g 4)) 7 0 0)) ∧ h2 = k) := by
  have q := m_ashBits (d := d) (h := k) (f := f) (g := g) (F := F) hS hf hg
  rw [← hF, setF_fs] at q
  rw [← hF]
  exact q
theorem c_alight {d : Nat} {h : AHP} {g n m : Nat} (hS : Std h) (hg : (lay g).1 = 3) (hg7 : h.2.2.1 1 7 = g) (hL : LawOK h g n) (hM : h.1 g 4 = nI m) (hm : m ≤ 7) (hz : NZ h) {q : Nat} (hq6 : q ≤ 40) : MM (d + 6) 139 [.ref 1, .int (nI q)] h (fun v h2 => v = some (.int (litH h g n (HN h g n q (fs h 5)))) ∧ X h h2) := by
  refine ⟨Nat.le_of_ble_eq_true rfl, ?_⟩
  obtain ⟨hN2, hzz⟩ := NZ_F hS hz (f := 5) (by decide)
  have hN := (NZ_F hS hz (f := 136) (by decide)).1
  have hR := (NZ_F hS hz (f := 143) (by decide)).1
  have hgp : 0 < g := (lay_lt hg (by decide)).1
  have hF : fs h 5 = fs h 5 := rfl
  refine t_go (op := o_iload 1 1) (fe_X11_alight 0) (fun _ _ => rfl) ?_
  refine t_call (op := o_callS 4 152 1) (fe_X11_alight 1) (g_callS rfl rfl rfl (Nat.le_of_ble_eq_true rfl)) ?_
  refine M_eq c_longView ?_
  refine t_ite (op := o_if 7 33 (fun x => x = 0) (fun _ => inferInstance)) (fe_X11_alight 4) g_if (fun c1 => ?_) (fun c1 => ?_)
  · exact absurd (show ¬ nI q < 0 ∧ ¬ (40 : Int32) < nI q from ⟨nI_pos (by omega), nI_nlt (a := 40) (by omega) (by omega)⟩) (b2i_z c1)
  · replace c1 := b2i_nn c1
    refine t_go (op := o_aload 8 0) (fe_X11_alight 7) (fun _ _ => rfl) ?_
    refine t_go (op := o_getR 11 10 5) (fe_X11_alight 8) (g_getR hS (show (lay 1).1 = 10 by decide) (by decide) (fr_10_5 hS) (by decide)) ?_
    refine t_go (op := o_aload 12 0) (fe_X11_alight 11) (fun _ _ => rfl) ?_
    refine t_go (op := o_getR 15 10 7) (fe_X11_alight 12) (g_getR hS (show (lay 1).1 = 10 by decide) (by decide) hg7 hgp) ?_
    refine t_go (op := o_aload 16 0) (fe_X11_alight 15) (fun _ _ => rfl) ?_
    refine t_go (op := o_getR 19 10 2) (fe_X11_alight 16) (g_getR hS (show (lay 1).1 = 10 by decide) (by decide) (fr_10_2 hS) (by decide)) ?_
    refine t_go (op := o_iload 20 1) (fe_X11_alight 19) (fun _ _ => rfl) ?_
    refine t_call (op := o_callV 23 31 4 2) (fe_X11_alight 20) (g_callV hS (by decide) (by decide) rfl rfl rfl (Nat.le_of_ble_eq_true rfl)) ?_
    refine M_mono ?_ (m_behind hS hg hL X.rf hN hzz hN2 (m := q) (by omega))
    rintro _ h2 ⟨rfl, hX, hF2⟩
    have hS0 := hS
    replace hS := hX.std hS
    have hg72 : h2.2.2.1 1 7 = g := by rw [hX.1]; exact hg7
    refine t_go (op := o_aload 24 0) (fe_X11_alight 23) (fun _ _ => rfl) ?_
    refine t_go (op := o_getR 27 10 7) (fe_X11_alight 24) (g_getR hS (show (lay 1).1 = 10 by decide) (by decide) hg72 hgp) ?_
    refine t_call (op := o_callV 30 18 2 1) (fe_X11_alight 27) (g_callV hS (show (lay 136).1 = 1 by decide) (by decide) rfl rfl rfl (Nat.le_of_ble_eq_true rfl)) ?_
    refine M_eq (a_litBits hS0 hg hX (by decide) hF2) ?_
    refine t_go (op := o_goto 34) (fe_X11_alight 30) (fun _ _ => rfl) ?_
    refine t_ret (op := o_iret) (fe_X11_alight 34) (fun _ _ => rfl) ?_
    exact ⟨rfl, hX⟩
theorem c_alightF {d : Nat} {h : AHP} {g n m : Nat} (hS : Std h) (hg : (lay g).1 = 3) (hg7 : h.2.2.1 1 7 = g) (hL : LawOK h g n) (hM : h.1 g 4 = nI m) (hm : m ≤ 7) (hz : NZ h) {x : Int32} (hn : ¬ (¬ x < 0 ∧ ¬ 40 < x)) : MM (d + 6) 139 [.ref 1, .int x] h (fun v h2 => v = some (.int (-1)) ∧ X h h2) := by
  refine ⟨Nat.le_of_ble_eq_true rfl, ?_⟩
  obtain ⟨hN2, hzz⟩ := NZ_F hS hz (f := 5) (by decide)
  have hN := (NZ_F hS hz (f := 136) (by decide)).1
  have hR := (NZ_F hS hz (f := 143) (by decide)).1
  have hgp : 0 < g := (lay_lt hg (by decide)).1
  have hF : fs h 5 = fs h 5 := rfl
  refine t_go (op := o_iload 1 1) (fe_X11_alight 0) (fun _ _ => rfl) ?_
  refine t_call (op := o_callS 4 152 1) (fe_X11_alight 1) (g_callS rfl rfl rfl (Nat.le_of_ble_eq_true rfl)) ?_
  refine M_eq c_longView ?_
  refine t_ite (op := o_if 7 33 (fun x => x = 0) (fun _ => inferInstance)) (fe_X11_alight 4) g_if (fun c1 => ?_) (fun c1 => ?_)
  · replace c1 := b2i_z c1
    refine t_go (op := o_ci 34 (-1)) (fe_X11_alight 33) (fun _ _ => rfl) ?_
    refine t_ret (op := o_iret) (fe_X11_alight 34) (fun _ _ => rfl) ?_
    exact ⟨rfl, X.rf⟩
  · exact absurd (b2i_nn c1) hn
theorem c_ash {d : Nat} {h : AHP} {g n m : Nat} (hS : Std h) (hg : (lay g).1 = 3) (hg7 : h.2.2.1 1 7 = g) (hL : LawOK h g n) (hM : h.1 g 4 = nI m) (hm : m ≤ 7) (hz : NZ h) {q : Nat} (hq6 : q ≤ 40) : MM (d + 6) 141 [.ref 1, .int (nI q)] h (fun v h2 => v = some (.int (it (ashS (HN h g n q (fs h 5)) (nI m)) 7 0 0)) ∧ X h h2) := by
  refine ⟨Nat.le_of_ble_eq_true rfl, ?_⟩
  obtain ⟨hN2, hzz⟩ := NZ_F hS hz (f := 5) (by decide)
  have hN := (NZ_F hS hz (f := 136) (by decide)).1
  have hR := (NZ_F hS hz (f := 143) (by decide)).1
  have hgp : 0 < g := (lay_lt hg (by decide)).1
  have hF : fs h 5 = fs h 5 := rfl
  refine t_go (op := o_iload 1 1) (fe_X11_ash 0) (fun _ _ => rfl) ?_
  refine t_call (op := o_callS 4 152 1) (fe_X11_ash 1) (g_callS rfl rfl rfl (Nat.le_of_ble_eq_true rfl)) ?_
  refine M_eq c_longView ?_
  refine t_ite (op := o_if 7 33 (fun x => x = 0) (fun _ => inferInstance)) (fe_X11_ash 4) g_if (fun c1 => ?_) (fun c1 => ?_)
  · exact absurd (show ¬ nI q < 0 ∧ ¬ (40 : Int32) < nI q from ⟨nI_pos (by omega), nI_nlt (a := 40) (by omega) (by omega)⟩) (b2i_z c1)
  · replace c1 := b2i_nn c1
    refine t_go (op := o_aload 8 0) (fe_X11_ash 7) (fun _ _ => rfl) ?_
    refine t_go (op := o_getR 11 10 5) (fe_X11_ash 8) (g_getR hS (show (lay 1).1 = 10 by decide) (by decide) (fr_10_5 hS) (by decide)) ?_
    refine t_go (op := o_aload 12 0) (fe_X11_ash 11) (fun _ _ => rfl) ?_
    refine t_go (op := o_getR 15 10 7) (fe_X11_ash 12) (g_getR hS (show (lay 1).1 = 10 by decide) (by decide) hg7 hgp) ?_
    refine t_go (op := o_aload 16 0) (fe_X11_ash 15) (fun _ _ => rfl) ?_
    refine t_go (op := o_getR 19 10 2) (fe_X11_ash 16) (g_getR hS (show (lay 1).1 = 10 by decide) (by decide) (fr_10_2 hS) (by decide)) ?_
    refine t_go (op := o_iload 20 1) (fe_X11_ash 19) (fun _ _ => rfl) ?_
    refine t_call (op := o_callV 23 31 4 2) (fe_X11_ash 20) (g_callV hS (by decide) (by decide) rfl rfl rfl (Nat.le_of_ble_eq_true rfl)) ?_
    refine M_mono ?_ (m_behind hS hg hL X.rf hN hzz hN2 (m := q) (by omega))
    rintro _ h2 ⟨rfl, hX, hF2⟩
    replace hS := hX.std hS
    have hg72 : h2.2.2.1 1 7 = g := by rw [hX.1]; exact hg7
    refine t_go (op := o_aload 24 0) (fe_X11_ash 23) (fun _ _ => rfl) ?_
    refine t_go (op := o_getR 27 10 7) (fe_X11_ash 24) (g_getR hS (show (lay 1).1 = 10 by decide) (by decide) hg72 hgp) ?_
    refine t_call (op := o_callV 30 19 2 1) (fe_X11_ash 27) (g_callV hS (show (lay 136).1 = 1 by decide) (by decide) rfl rfl rfl (Nat.le_of_ble_eq_true rfl)) ?_
    refine M_eq (a_ashBits hS (by decide) hg hF2) ?_
    refine t_go (op := o_goto 34) (fe_X11_ash 30) (fun _ _ => rfl) ?_
    refine t_ret (op := o_iret) (fe_X11_ash 34) (fun _ _ => rfl) ?_
    exact ⟨by rw [show h2.1 g 4 = nI m from by rw [hX.2.2 g (by rcases grate_scr hg with q | q <;> subst q <;> omega)]; exact hM], hX⟩
theorem c_ashF {d : Nat} {h : AHP} {g n m : Nat} (hS : Std h) (hg : (lay g).1 = 3) (hg7 : h.2.2.1 1 7 = g) (hL : LawOK h g n) (hM : h.1 g 4 = nI m) (hm : m ≤ 7) (hz : NZ h) {x : Int32} (hn : ¬ (¬ x < 0 ∧ ¬ 40 < x)) : MM (d + 6) 141 [.ref 1, .int x] h (fun v h2 => v = some (.int (-1)) ∧ X h h2) := by
  refine ⟨Nat.le_of_ble_eq_true rfl, ?_⟩
  obtain ⟨hN2, hzz⟩ := NZ_F hS hz (f := 5) (by decide)
  have hN := (NZ_F hS hz (f := 136) (by decide)).1
  have hR := (NZ_F hS hz (f := 143) (by decide)).1
  have hgp : 0 < g := (lay_lt hg (by decide)).1
  have hF : fs h 5 = fs h 5 := rfl
  refine t_go (op := o_iload 1 1) (fe_X11_ash 0) (fun _ _ => rfl) ?_
  refine t_call (op := o_callS 4 152 1) (fe_X11_ash 1) (g_callS rfl rfl rfl (Nat.le_of_ble_eq_true rfl)) ?_
  refine M_eq c_longView ?_
  refine t_ite (op := o_if 7 33 (fun x => x = 0) (fun _ => inferInstance)) (fe_X11_ash 4) g_if (fun c1 => ?_) (fun c1 => ?_)
  · replace c1 := b2i_z c1
    refine t_go (op := o_ci 34 (-1)) (fe_X11_ash 33) (fun _ _ => rfl) ?_
    refine t_ret (op := o_iret) (fe_X11_ash 34) (fun _ _ => rfl) ?_
    exact ⟨rfl, X.rf⟩
  · exact absurd (b2i_nn c1) hn
theorem a_touching {d : Nat} {k : AHP} {f : Nat} {F : FS} {e : Int32} (hS : Std k) (hf : (lay f).1 = 1) (hF : fs k f = F) : MM (d + 2) 24 [.ref f, .int e] k (fun v h2 => v = some (.int (touchB F e)) ∧ h2 = k) := by
  have q := m_touching (d := d) (h := k) (f := f) (F := F) (e := e) hS hf
  rw [← hF, setF_fs] at q
  rw [← hF]
  exact q
theorem a_hanging {d : Nat} {k : AHP} {f : Nat} {F : FS} {e : Int32} (hS : Std k) (hf : (lay f).1 = 1) (hF : fs k f = F) : MM (d + 3) 25 [.ref f, .int e] k (fun v h2 => v = some (.int (hallB F e)) ∧ h2 = k) := by
  have q := m_hangingWith (d := d) (h := k) (f := f) (F := F) (e := e) hS hf
  rw [← hF, setF_fs] at q
  rw [← hF]
  exact q
theorem a_heatBeside {d : Nat} {k : AHP} {f : Nat} {F : FS} {c : Int32} (hS : Std k) (hf : (lay f).1 = 1) (hF : fs k f = F) : MM (d + 2) 23 [.ref f, .int c] k (fun v h2 => v = some (.int (it (besideS F (besV c)) 7 0 0)) ∧ h2 = k) := by
  have q := m_heatBeside (d := d) (h := k) (f := f) (F := F) (c := c) hS hf
  rw [← hF, setF_fs] at q
  rw [← hF]
  exact q
theorem a_fuelOfAll {d : Nat} {k : AHP} {f : Nat} {F : FS} (hS : Std k) (hf : (lay f).1 = 1) (hF : fs k f = F) : MM d 22 [.ref f] k (fun v h2 => v = some (.int (it (sumS F.2.2.1) 7 0 0)) ∧ h2 = k) := by
  have q := m_fuelOfAll (d := d) (h := k) (f := f) (F := F) hS hf
  rw [← hF, setF_fs] at q
  rw [← hF]
  exact q
theorem c_spare {d : Nat} {h : AHP} {g n m : Nat} (hS : Std h) (hg : (lay g).1 = 3) (hg7 : h.2.2.1 1 7 = g) (hL : LawOK h g n) (hM : h.1 g 4 = nI m) (hm : m ≤ 7) (hz : NZ h) {x : Int32} (hh : hasF (fs h 5) x) : MM (d + 7) 143 [.ref 1, .int x] h (fun v h2 => v = some (.int (lastsV h g n (-1) 41 0 (fs h 5) - lastsV h g n (-1) 41 0 (takeOutF (fs h 5) x))) ∧ X h h2) := by
  refine ⟨Nat.le_of_ble_eq_true rfl, ?_⟩
  obtain ⟨hN2, hzz⟩ := NZ_F hS hz (f := 5) (by decide)
  have hN := (NZ_F hS hz (f := 136) (by decide)).1
  have hR := (NZ_F hS hz (f := 143) (by decide)).1
  have hgp : 0 < g := (lay_lt hg (by decide)).1
  have hF : fs h 5 = fs h 5 := rfl
  refine t_go (op := o_aload 1 0) (fe_X11_spare 0) (fun _ _ => rfl) ?_
  refine t_go (op := o_getR 4 10 2) (fe_X11_spare 1) (g_getR hS (show (lay 1).1 = 10 by decide) (by decide) (fr_10_2 hS) (by decide)) ?_
  refine t_go (op := o_iload 5 1) (fe_X11_spare 4) (fun _ _ => rfl) ?_
  refine t_call (op := o_callV 8 8 2 1) (fe_X11_spare 5) (g_callV hS (by decide) (by decide) rfl rfl rfl (Nat.le_of_ble_eq_true rfl)) ?_
  refine M_eq (a_has hS (by decide) hF) ?_
  refine t_ite (op := o_if 11 30 (fun x => x = 0) (fun _ => inferInstance)) (fe_X11_spare 8) g_if (fun c1 => ?_) (fun c1 => ?_)
  · exact absurd hh (b2i_z c1)
  · replace c1 := b2i_nn c1
    refine t_go (op := o_aload 12 0) (fe_X11_spare 11) (fun _ _ => rfl) ?_
    refine t_go (op := o_getR 15 10 5) (fe_X11_spare 12) (g_getR hS (show (lay 1).1 = 10 by decide) (by decide) (fr_10_5 hS) (by decide)) ?_
    refine t_go (op := o_aload 16 0) (fe_X11_spare 15) (fun _ _ => rfl) ?_
    refine t_go (op := o_getR 19 10 7) (fe_X11_spare 16) (g_getR hS (show (lay 1).1 = 10 by decide) (by decide) hg7 hgp) ?_
    refine t_go (op := o_aload 20 0) (fe_X11_spare 19) (fun _ _ => rfl) ?_
    refine t_go (op := o_getR 23 10 2) (fe_X11_spare 20) (g_getR hS (show (lay 1).1 = 10 by decide) (by decide) (fr_10_2 hS) (by decide)) ?_
    refine t_go (op := o_iload 24 1) (fe_X11_spare 23) (fun _ _ => rfl) ?_
    refine t_call (op := o_callV 27 42 4 2) (fe_X11_spare 24) (g_callV hS (by decide) (by decide) rfl rfl rfl (Nat.le_of_ble_eq_true rfl)) ?_
    refine M_mono ?_ (m_gainBy hS hg hL X.rf hN hzz hN2)
    rintro _ h2 ⟨rfl, hX, hN3⟩
    refine t_go (op := o_goto 33) (fe_X11_spare 27) (fun _ _ => rfl) ?_
    refine t_ret (op := o_iret) (fe_X11_spare 33) (fun _ _ => rfl) ?_
    exact ⟨rfl, hX⟩
theorem c_spareF {d : Nat} {h : AHP} {g n m : Nat} (hS : Std h) (hg : (lay g).1 = 3) (hg7 : h.2.2.1 1 7 = g) (hL : LawOK h g n) (hM : h.1 g 4 = nI m) (hm : m ≤ 7) (hz : NZ h) {x : Int32} (hh : ¬ hasF (fs h 5) x) : MM (d + 7) 143 [.ref 1, .int x] h (fun v h2 => v = some (.int (-1000)) ∧ X h h2) := by
  refine ⟨Nat.le_of_ble_eq_true rfl, ?_⟩
  obtain ⟨hN2, hzz⟩ := NZ_F hS hz (f := 5) (by decide)
  have hN := (NZ_F hS hz (f := 136) (by decide)).1
  have hR := (NZ_F hS hz (f := 143) (by decide)).1
  have hgp : 0 < g := (lay_lt hg (by decide)).1
  have hF : fs h 5 = fs h 5 := rfl
  refine t_go (op := o_aload 1 0) (fe_X11_spare 0) (fun _ _ => rfl) ?_
  refine t_go (op := o_getR 4 10 2) (fe_X11_spare 1) (g_getR hS (show (lay 1).1 = 10 by decide) (by decide) (fr_10_2 hS) (by decide)) ?_
  refine t_go (op := o_iload 5 1) (fe_X11_spare 4) (fun _ _ => rfl) ?_
  refine t_call (op := o_callV 8 8 2 1) (fe_X11_spare 5) (g_callV hS (by decide) (by decide) rfl rfl rfl (Nat.le_of_ble_eq_true rfl)) ?_
  refine M_eq (a_has hS (by decide) hF) ?_
  refine t_ite (op := o_if 11 30 (fun x => x = 0) (fun _ => inferInstance)) (fe_X11_spare 8) g_if (fun c1 => ?_) (fun c1 => ?_)
  · replace c1 := b2i_z c1
    refine t_go (op := o_ci 33 (-1000)) (fe_X11_spare 30) (fun _ _ => rfl) ?_
    refine t_ret (op := o_iret) (fe_X11_spare 33) (fun _ _ => rfl) ?_
    exact ⟨rfl, X.rf⟩
  · exact absurd (b2i_nn c1) hh
theorem c_save {d : Nat} {h : AHP} {g n m : Nat} (hS : Std h) (hg : (lay g).1 = 3) (hg7 : h.2.2.1 1 7 = g) (hL : LawOK h g n) (hM : h.1 g 4 = nI m) (hm : m ≤ 7) (hz : NZ h) {x : Int32} (hh : hasF (fs h 5) x) : MM (d + 7) 130 [.ref 1, .int x] h (fun v h2 => v = some (.int (serV (ser2 (takeP h g n (it (hereS (fs h 5)) 7 0 0 &&& ((1 <<< (x &&& 31)) ^^^ -1)) x) 128 7 0))) ∧ X h h2) := by
  refine ⟨Nat.le_of_ble_eq_true rfl, ?_⟩
  obtain ⟨hN2, hzz⟩ := NZ_F hS hz (f := 5) (by decide)
  have hN := (NZ_F hS hz (f := 136) (by decide)).1
  have hR := (NZ_F hS hz (f := 143) (by decide)).1
  have hgp : 0 < g := (lay_lt hg (by decide)).1
  have hF : fs h 5 = fs h 5 := rfl
  refine t_go (op := o_aload 1 0) (fe_X11_save 0) (fun _ _ => rfl) ?_
  refine t_go (op := o_getR 4 10 2) (fe_X11_save 1) (g_getR hS (show (lay 1).1 = 10 by decide) (by decide) (fr_10_2 hS) (by decide)) ?_
  refine t_go (op := o_iload 5 1) (fe_X11_save 4) (fun _ _ => rfl) ?_
  refine t_call (op := o_callV 8 8 2 1) (fe_X11_save 5) (g_callV hS (by decide) (by decide) rfl rfl rfl (Nat.le_of_ble_eq_true rfl)) ?_
  refine M_eq (a_has hS (by decide) hF) ?_
  refine t_ite (op := o_if 11 30 (fun x => x = 0) (fun _ => inferInstance)) (fe_X11_save 8) g_if (fun c1 => ?_) (fun c1 => ?_)
  · exact absurd hh (b2i_z c1)
  · replace c1 := b2i_nn c1
    refine t_go (op := o_aload 12 0) (fe_X11_save 11) (fun _ _ => rfl) ?_
    refine t_go (op := o_getR 15 10 6) (fe_X11_save 12) (g_getR hS (show (lay 1).1 = 10 by decide) (by decide) (fr_10_6 hS) (by decide)) ?_
    refine t_go (op := o_aload 16 0) (fe_X11_save 15) (fun _ _ => rfl) ?_
    refine t_go (op := o_getR 19 10 7) (fe_X11_save 16) (g_getR hS (show (lay 1).1 = 10 by decide) (by decide) hg7 hgp) ?_
    refine t_go (op := o_aload 20 0) (fe_X11_save 19) (fun _ _ => rfl) ?_
    refine t_go (op := o_getR 23 10 2) (fe_X11_save 20) (g_getR hS (show (lay 1).1 = 10 by decide) (by decide) (fr_10_2 hS) (by decide)) ?_
    refine t_go (op := o_iload 24 1) (fe_X11_save 23) (fun _ _ => rfl) ?_
    refine t_call (op := o_callV 27 87 4 7) (fe_X11_save 24) (g_callV hS (by decide) (by decide) rfl rfl rfl (Nat.le_of_ble_eq_true rfl)) ?_
    refine M_mono ?_ (m_fewestTaken hS hg hL X.rf hR hzz hN2)
    rintro _ h2 ⟨rfl, hX, hN3⟩
    refine t_go (op := o_goto 31) (fe_X11_save 27) (fun _ _ => rfl) ?_
    refine t_ret (op := o_iret) (fe_X11_save 31) (fun _ _ => rfl) ?_
    exact ⟨rfl, hX⟩
theorem c_saveF {d : Nat} {h : AHP} {g n m : Nat} (hS : Std h) (hg : (lay g).1 = 3) (hg7 : h.2.2.1 1 7 = g) (hL : LawOK h g n) (hM : h.1 g 4 = nI m) (hm : m ≤ 7) (hz : NZ h) {x : Int32} (hh : ¬ hasF (fs h 5) x) : MM (d + 7) 130 [.ref 1, .int x] h (fun v h2 => v = some (.int (-1)) ∧ X h h2) := by
  refine ⟨Nat.le_of_ble_eq_true rfl, ?_⟩
  obtain ⟨hN2, hzz⟩ := NZ_F hS hz (f := 5) (by decide)
  have hN := (NZ_F hS hz (f := 136) (by decide)).1
  have hR := (NZ_F hS hz (f := 143) (by decide)).1
  have hgp : 0 < g := (lay_lt hg (by decide)).1
  have hF : fs h 5 = fs h 5 := rfl
  refine t_go (op := o_aload 1 0) (fe_X11_save 0) (fun _ _ => rfl) ?_
  refine t_go (op := o_getR 4 10 2) (fe_X11_save 1) (g_getR hS (show (lay 1).1 = 10 by decide) (by decide) (fr_10_2 hS) (by decide)) ?_
  refine t_go (op := o_iload 5 1) (fe_X11_save 4) (fun _ _ => rfl) ?_
  refine t_call (op := o_callV 8 8 2 1) (fe_X11_save 5) (g_callV hS (by decide) (by decide) rfl rfl rfl (Nat.le_of_ble_eq_true rfl)) ?_
  refine M_eq (a_has hS (by decide) hF) ?_
  refine t_ite (op := o_if 11 30 (fun x => x = 0) (fun _ => inferInstance)) (fe_X11_save 8) g_if (fun c1 => ?_) (fun c1 => ?_)
  · replace c1 := b2i_z c1
    refine t_go (op := o_ci 31 (-1)) (fe_X11_save 30) (fun _ _ => rfl) ?_
    refine t_ret (op := o_iret) (fe_X11_save 31) (fun _ _ => rfl) ?_
    exact ⟨rfl, X.rf⟩
  · exact absurd (b2i_nn c1) hh
theorem c_touch {d : Nat} {h : AHP} {g n m : Nat} (hS : Std h) (hg : (lay g).1 = 3) (hg7 : h.2.2.1 1 7 = g) (hL : LawOK h g n) (hM : h.1 g 4 = nI m) (hm : m ≤ 7) (hz : NZ h) {x : Int32} (hh : hasF (fs h 5) x) : MM (d + 4) 135 [.ref 1, .int x] h (fun v h2 => v = some (.int (touchB (fs h 5) x)) ∧ X h h2) := by
  refine ⟨Nat.le_of_ble_eq_true rfl, ?_⟩
  obtain ⟨hN2, hzz⟩ := NZ_F hS hz (f := 5) (by decide)
  have hN := (NZ_F hS hz (f := 136) (by decide)).1
  have hR := (NZ_F hS hz (f := 143) (by decide)).1
  have hgp : 0 < g := (lay_lt hg (by decide)).1
  have hF : fs h 5 = fs h 5 := rfl
  refine t_go (op := o_aload 1 0) (fe_X11_touch 0) (fun _ _ => rfl) ?_
  refine t_go (op := o_getR 4 10 2) (fe_X11_touch 1) (g_getR hS (show (lay 1).1 = 10 by decide) (by decide) (fr_10_2 hS) (by decide)) ?_
  refine t_go (op := o_iload 5 1) (fe_X11_touch 4) (fun _ _ => rfl) ?_
  refine t_call (op := o_callV 8 8 2 1) (fe_X11_touch 5) (g_callV hS (by decide) (by decide) rfl rfl rfl (Nat.le_of_ble_eq_true rfl)) ?_
  refine M_eq (a_has hS (by decide) hF) ?_
  refine t_ite (op := o_if 11 22 (fun x => x = 0) (fun _ => inferInstance)) (fe_X11_touch 8) g_if (fun c1 => ?_) (fun c1 => ?_)
  · exact absurd hh (b2i_z c1)
  · replace c1 := b2i_nn c1
    refine t_go (op := o_aload 12 0) (fe_X11_touch 11) (fun _ _ => rfl) ?_
    refine t_go (op := o_getR 15 10 2) (fe_X11_touch 12) (g_getR hS (show (lay 1).1 = 10 by decide) (by decide) (fr_10_2 hS) (by decide)) ?_
    refine t_go (op := o_iload 16 1) (fe_X11_touch 15) (fun _ _ => rfl) ?_
    refine t_call (op := o_callV 19 24 2 1) (fe_X11_touch 16) (g_callV hS (by decide) (by decide) rfl rfl rfl (Nat.le_of_ble_eq_true rfl)) ?_
    refine M_eq (a_touching hS (by decide) hF) ?_
    refine t_go (op := o_goto 23) (fe_X11_touch 19) (fun _ _ => rfl) ?_
    refine t_ret (op := o_iret) (fe_X11_touch 23) (fun _ _ => rfl) ?_
    exact ⟨rfl, X.rf⟩
theorem c_touchF {d : Nat} {h : AHP} {g n m : Nat} (hS : Std h) (hg : (lay g).1 = 3) (hg7 : h.2.2.1 1 7 = g) (hL : LawOK h g n) (hM : h.1 g 4 = nI m) (hm : m ≤ 7) (hz : NZ h) {x : Int32} (hh : ¬ hasF (fs h 5) x) : MM (d + 4) 135 [.ref 1, .int x] h (fun v h2 => v = some (.int (-1)) ∧ X h h2) := by
  refine ⟨Nat.le_of_ble_eq_true rfl, ?_⟩
  obtain ⟨hN2, hzz⟩ := NZ_F hS hz (f := 5) (by decide)
  have hN := (NZ_F hS hz (f := 136) (by decide)).1
  have hR := (NZ_F hS hz (f := 143) (by decide)).1
  have hgp : 0 < g := (lay_lt hg (by decide)).1
  have hF : fs h 5 = fs h 5 := rfl
  refine t_go (op := o_aload 1 0) (fe_X11_touch 0) (fun _ _ => rfl) ?_
  refine t_go (op := o_getR 4 10 2) (fe_X11_touch 1) (g_getR hS (show (lay 1).1 = 10 by decide) (by decide) (fr_10_2 hS) (by decide)) ?_
  refine t_go (op := o_iload 5 1) (fe_X11_touch 4) (fun _ _ => rfl) ?_
  refine t_call (op := o_callV 8 8 2 1) (fe_X11_touch 5) (g_callV hS (by decide) (by decide) rfl rfl rfl (Nat.le_of_ble_eq_true rfl)) ?_
  refine M_eq (a_has hS (by decide) hF) ?_
  refine t_ite (op := o_if 11 22 (fun x => x = 0) (fun _ => inferInstance)) (fe_X11_touch 8) g_if (fun c1 => ?_) (fun c1 => ?_)
  · replace c1 := b2i_z c1
    refine t_go (op := o_ci 23 (-1)) (fe_X11_touch 22) (fun _ _ => rfl) ?_
    refine t_ret (op := o_iret) (fe_X11_touch 23) (fun _ _ => rfl) ?_
    exact ⟨rfl, X.rf⟩
  · exact absurd (b2i_nn c1) hh
theorem c_hall {d : Nat} {h : AHP} {g n m : Nat} (hS : Std h) (hg : (lay g).1 = 3) (hg7 : h.2.2.1 1 7 = g) (hL : LawOK h g n) (hM : h.1 g 4 = nI m) (hm : m ≤ 7) (hz : NZ h) {x : Int32} (hh : hasF (fs h 5) x) : MM (d + 4) 136 [.ref 1, .int x] h (fun v h2 => v = some (.int (hallB (fs h 5) x)) ∧ X h h2) := by
  refine ⟨Nat.le_of_ble_eq_true rfl, ?_⟩
  obtain ⟨hN2, hzz⟩ := NZ_F hS hz (f := 5) (by decide)
  have hN := (NZ_F hS hz (f := 136) (by decide)).1
  have hR := (NZ_F hS hz (f := 143) (by decide)).1
  have hgp : 0 < g := (lay_lt hg (by decide)).1
  have hF : fs h 5 = fs h 5 := rfl
  refine t_go (op := o_aload 1 0) (fe_X11_hall 0) (fun _ _ => rfl) ?_
  refine t_go (op := o_getR 4 10 2) (fe_X11_hall 1) (g_getR hS (show (lay 1).1 = 10 by decide) (by decide) (fr_10_2 hS) (by decide)) ?_
  refine t_go (op := o_iload 5 1) (fe_X11_hall 4) (fun _ _ => rfl) ?_
  refine t_call (op := o_callV 8 8 2 1) (fe_X11_hall 5) (g_callV hS (by decide) (by decide) rfl rfl rfl (Nat.le_of_ble_eq_true rfl)) ?_
  refine M_eq (a_has hS (by decide) hF) ?_
  refine t_ite (op := o_if 11 22 (fun x => x = 0) (fun _ => inferInstance)) (fe_X11_hall 8) g_if (fun c1 => ?_) (fun c1 => ?_)
  · exact absurd hh (b2i_z c1)
  · replace c1 := b2i_nn c1
    refine t_go (op := o_aload 12 0) (fe_X11_hall 11) (fun _ _ => rfl) ?_
    refine t_go (op := o_getR 15 10 2) (fe_X11_hall 12) (g_getR hS (show (lay 1).1 = 10 by decide) (by decide) (fr_10_2 hS) (by decide)) ?_
    refine t_go (op := o_iload 16 1) (fe_X11_hall 15) (fun _ _ => rfl) ?_
    refine t_call (op := o_callV 19 25 2 1) (fe_X11_hall 16) (g_callV hS (by decide) (by decide) rfl rfl rfl (Nat.le_of_ble_eq_true rfl)) ?_
    refine M_eq (a_hanging hS (by decide) hF) ?_
    refine t_go (op := o_goto 23) (fe_X11_hall 19) (fun _ _ => rfl) ?_
    refine t_ret (op := o_iret) (fe_X11_hall 23) (fun _ _ => rfl) ?_
    exact ⟨rfl, X.rf⟩
theorem c_hallF {d : Nat} {h : AHP} {g n m : Nat} (hS : Std h) (hg : (lay g).1 = 3) (hg7 : h.2.2.1 1 7 = g) (hL : LawOK h g n) (hM : h.1 g 4 = nI m) (hm : m ≤ 7) (hz : NZ h) {x : Int32} (hh : ¬ hasF (fs h 5) x) : MM (d + 4) 136 [.ref 1, .int x] h (fun v h2 => v = some (.int (-1)) ∧ X h h2) := by
  refine ⟨Nat.le_of_ble_eq_true rfl, ?_⟩
  obtain ⟨hN2, hzz⟩ := NZ_F hS hz (f := 5) (by decide)
  have hN := (NZ_F hS hz (f := 136) (by decide)).1
  have hR := (NZ_F hS hz (f := 143) (by decide)).1
  have hgp : 0 < g := (lay_lt hg (by decide)).1
  have hF : fs h 5 = fs h 5 := rfl
  refine t_go (op := o_aload 1 0) (fe_X11_hall 0) (fun _ _ => rfl) ?_
  refine t_go (op := o_getR 4 10 2) (fe_X11_hall 1) (g_getR hS (show (lay 1).1 = 10 by decide) (by decide) (fr_10_2 hS) (by decide)) ?_
  refine t_go (op := o_iload 5 1) (fe_X11_hall 4) (fun _ _ => rfl) ?_
  refine t_call (op := o_callV 8 8 2 1) (fe_X11_hall 5) (g_callV hS (by decide) (by decide) rfl rfl rfl (Nat.le_of_ble_eq_true rfl)) ?_
  refine M_eq (a_has hS (by decide) hF) ?_
  refine t_ite (op := o_if 11 22 (fun x => x = 0) (fun _ => inferInstance)) (fe_X11_hall 8) g_if (fun c1 => ?_) (fun c1 => ?_)
  · replace c1 := b2i_z c1
    refine t_go (op := o_ci 23 (-1)) (fe_X11_hall 22) (fun _ _ => rfl) ?_
    refine t_ret (op := o_iret) (fe_X11_hall 23) (fun _ _ => rfl) ?_
    exact ⟨rfl, X.rf⟩
  · exact absurd (b2i_nn c1) hh
theorem lc_halls {d : Nat} {k : AHP} {F : FS} (hS : Std k) (hF : fs k 5 = F) {Q : Option Value → AHP → Prop} : ∀ (j i : Nat) (s : Int32), i + j = 7 → Q (some (.int (it (hallsS F) j i s))) k → TT (d + 4) 137 4 [some (.ref 1), some (.int s), some (.int (nI i))] [] k Q := by
  intro j
  induction j with
  | zero =>
    intro i s hi  hq
    have hN : i = 7 := by omega
    refine t_go (op := o_iload 5 2) (fe_X11_halls 4) (fun _ _ => rfl) ?_
    refine t_go (op := o_ci 7 7) (fe_X11_halls 5) (fun _ _ => rfl) ?_
    refine t_ite (op := o_icmp 10 47 (fun x y => y ≤ x) (fun _ _ => inferInstance)) (fe_X11_halls 7) g_icmp (fun c1 => ?_) (fun c1 => ?_)
    · refine t_go (op := o_iload 48 1) (fe_X11_halls 47) (fun _ _ => rfl) ?_
      refine t_ret (op := o_iret) (fe_X11_halls 48) (fun _ _ => rfl) ?_
      exact hq
    · exact absurd (by rw [hN]; exact Int32.le_refl _) c1
  | succ j ih =>
    intro i s hi  hq
    have hi7 : i < 7 := by omega
    refine t_go (op := o_iload 5 2) (fe_X11_halls 4) (fun _ _ => rfl) ?_
    refine t_go (op := o_ci 7 7) (fe_X11_halls 5) (fun _ _ => rfl) ?_
    refine t_ite (op := o_icmp 10 47 (fun x y => y ≤ x) (fun _ _ => inferInstance)) (fe_X11_halls 7) g_icmp (fun c1 => ?_) (fun c1 => ?_)
    · exact absurd c1 (nI_ge hi7 (by decide))
    · refine t_go (op := o_aload 11 0) (fe_X11_halls 10) (fun _ _ => rfl) ?_
      refine t_go (op := o_getR 14 10 2) (fe_X11_halls 11) (g_getR hS (show (lay 1).1 = 10 by decide) (by decide) (fr_10_2 hS) (by decide)) ?_
      refine t_go (op := o_iload 15 2) (fe_X11_halls 14) (fun _ _ => rfl) ?_
      refine t_call (op := o_callV 18 8 2 1) (fe_X11_halls 15) (g_callV hS (by decide) (by decide) rfl rfl rfl (Nat.le_of_ble_eq_true rfl)) ?_
      refine M_eq (a_has hS (by decide) hF) ?_
      refine t_ite (op := o_if 21 41 (fun x => x = 0) (fun _ => inferInstance)) (fe_X11_halls 18) g_if (fun c2 => ?_) (fun c2 => ?_)
      · replace c2 := b2i_z c2
        refine t_go (op := o_iinc 44 2 1) (fe_X11_halls 41) (fun _ _ => rfl) ?_
        refine t_go (op := o_goto 4) (fe_X11_halls 44) (fun _ _ => rfl) ?_
        rw [it_step, hallsS, if_neg fun q => c2 q.1] at hq
        rw [nI_1]
        exact ih (i + 1) _ (by omega) hq
      · replace c2 := b2i_nn c2
        refine t_go (op := o_aload 22 0) (fe_X11_halls 21) (fun _ _ => rfl) ?_
        refine t_go (op := o_getR 25 10 2) (fe_X11_halls 22) (g_getR hS (show (lay 1).1 = 10 by decide) (by decide) (fr_10_2 hS) (by decide)) ?_
        refine t_go (op := o_iload 26 2) (fe_X11_halls 25) (fun _ _ => rfl) ?_
        refine t_call (op := o_callV 29 25 2 1) (fe_X11_halls 26) (g_callV hS (by decide) (by decide) rfl rfl rfl (Nat.le_of_ble_eq_true rfl)) ?_
        refine M_eq (a_hanging hS (by decide) hF) ?_
        refine t_go (op := o_ci 30 1) (fe_X11_halls 29) (fun _ _ => rfl) ?_
        refine t_go (op := o_iload 31 2) (fe_X11_halls 30) (fun _ _ => rfl) ?_
        refine t_go (op := o_i2 32 (fun x y => x <<< (y &&& 31))) (fe_X11_halls 31) (fun _ _ => rfl) ?_
        refine t_go (op := o_ci 33 1) (fe_X11_halls 32) (fun _ _ => rfl) ?_
        refine t_go (op := o_i2 34 (fun x y => x - y)) (fe_X11_halls 33) (fun _ _ => rfl) ?_
        refine t_go (op := o_i2 35 (fun x y => x &&& y)) (fe_X11_halls 34) (fun _ _ => rfl) ?_
        refine t_ite (op := o_if 41 38 (fun x => x = 0) (fun _ => inferInstance)) (fe_X11_halls 35) g_if (fun c3 => ?_) (fun c3 => ?_)
        · refine t_go (op := o_iinc 41 1 1) (fe_X11_halls 38) (fun _ _ => rfl) ?_
          refine t_go (op := o_iinc 44 2 1) (fe_X11_halls 41) (fun _ _ => rfl) ?_
          refine t_go (op := o_goto 4) (fe_X11_halls 44) (fun _ _ => rfl) ?_
          rw [it_step, hallsS, if_pos ⟨c2, c3⟩] at hq
          rw [nI_1]
          exact ih (i + 1) _ (by omega) hq
        · refine t_go (op := o_iinc 44 2 1) (fe_X11_halls 41) (fun _ _ => rfl) ?_
          refine t_go (op := o_goto 4) (fe_X11_halls 44) (fun _ _ => rfl) ?_
          rw [it_step, hallsS, if_neg fun q => c3 q.2] at hq
          rw [nI_1]
          exact ih (i + 1) _ (by omega) hq
theorem c_halls {d : Nat} {h : AHP} {g n m : Nat} (hS : Std h) (hg : (lay g).1 = 3) (hg7 : h.2.2.1 1 7 = g) (hL : LawOK h g n) (hM : h.1 g 4 = nI m) (hm : m ≤ 7) (hz : NZ h)  : MM (d + 4) 137 [.ref 1] h (fun v h2 => v = some (.int (it (hallsS (fs h 5)) 7 0 0)) ∧ X h h2) := by
  refine ⟨Nat.le_of_ble_eq_true rfl, ?_⟩
  obtain ⟨hN2, hzz⟩ := NZ_F hS hz (f := 5) (by decide)
  have hN := (NZ_F hS hz (f := 136) (by decide)).1
  have hR := (NZ_F hS hz (f := 143) (by decide)).1
  have hgp : 0 < g := (lay_lt hg (by decide)).1
  have hF : fs h 5 = fs h 5 := rfl
  refine t_go (op := o_ci 1 0) (fe_X11_halls 0) (fun _ _ => rfl) ?_
  refine t_go (op := o_istore 2 1) (fe_X11_halls 1) (fun _ _ => rfl) ?_
  refine t_go (op := o_ci 3 0) (fe_X11_halls 2) (fun _ _ => rfl) ?_
  refine t_go (op := o_istore 4 2) (fe_X11_halls 3) (fun _ _ => rfl) ?_
  exact lc_halls hS hF 7 0 0 (by omega) ⟨rfl, X.rf⟩
theorem lc_lone {d : Nat} {k : AHP} {F : FS} (hS : Std k) (hF : fs k 5 = F) {Q : Option Value → AHP → Prop} : ∀ (j i : Nat) (s : Int32), i + j = 7 → Q (some (.int (it (loneS F) j i s))) k → TT (d + 3) 144 4 [some (.ref 1), some (.int s), some (.int (nI i))] [] k Q := by
  intro j
  induction j with
  | zero =>
    intro i s hi  hq
    have hN : i = 7 := by omega
    refine t_go (op := o_iload 5 2) (fe_X11_lone 4) (fun _ _ => rfl) ?_
    refine t_go (op := o_ci 7 7) (fe_X11_lone 5) (fun _ _ => rfl) ?_
    refine t_ite (op := o_icmp 10 44 (fun x y => y ≤ x) (fun _ _ => inferInstance)) (fe_X11_lone 7) g_icmp (fun c1 => ?_) (fun c1 => ?_)
    · refine t_go (op := o_iload 45 1) (fe_X11_lone 44) (fun _ _ => rfl) ?_
      refine t_ret (op := o_iret) (fe_X11_lone 45) (fun _ _ => rfl) ?_
      exact hq
    · exact absurd (by rw [hN]; exact Int32.le_refl _) c1
  | succ j ih =>
    intro i s hi  hq
    have hi7 : i < 7 := by omega
    refine t_go (op := o_iload 5 2) (fe_X11_lone 4) (fun _ _ => rfl) ?_
    refine t_go (op := o_ci 7 7) (fe_X11_lone 5) (fun _ _ => rfl) ?_
    refine t_ite (op := o_icmp 10 44 (fun x y => y ≤ x) (fun _ _ => inferInstance)) (fe_X11_lone 7) g_icmp (fun c1 => ?_) (fun c1 => ?_)
    · exact absurd c1 (nI_ge hi7 (by decide))
    · refine t_go (op := o_aload 11 0) (fe_X11_lone 10) (fun _ _ => rfl) ?_
      refine t_go (op := o_getR 14 10 2) (fe_X11_lone 11) (g_getR hS (show (lay 1).1 = 10 by decide) (by decide) (fr_10_2 hS) (by decide)) ?_
      refine t_go (op := o_iload 15 2) (fe_X11_lone 14) (fun _ _ => rfl) ?_
      refine t_call (op := o_callV 18 8 2 1) (fe_X11_lone 15) (g_callV hS (by decide) (by decide) rfl rfl rfl (Nat.le_of_ble_eq_true rfl)) ?_
      refine M_eq (a_has hS (by decide) hF) ?_
      refine t_ite (op := o_if 21 38 (fun x => x = 0) (fun _ => inferInstance)) (fe_X11_lone 18) g_if (fun c2 => ?_) (fun c2 => ?_)
      · replace c2 := b2i_z c2
        refine t_go (op := o_iinc 41 2 1) (fe_X11_lone 38) (fun _ _ => rfl) ?_
        refine t_go (op := o_goto 4) (fe_X11_lone 41) (fun _ _ => rfl) ?_
        rw [it_step, loneS, if_neg fun q => c2 q.1] at hq
        rw [nI_1]
        exact ih (i + 1) _ (by omega) hq
      · replace c2 := b2i_nn c2
        refine t_go (op := o_aload 22 0) (fe_X11_lone 21) (fun _ _ => rfl) ?_
        refine t_go (op := o_getR 25 10 2) (fe_X11_lone 22) (g_getR hS (show (lay 1).1 = 10 by decide) (by decide) (fr_10_2 hS) (by decide)) ?_
        refine t_go (op := o_iload 26 2) (fe_X11_lone 25) (fun _ _ => rfl) ?_
        refine t_call (op := o_callV 29 24 2 1) (fe_X11_lone 26) (g_callV hS (by decide) (by decide) rfl rfl rfl (Nat.le_of_ble_eq_true rfl)) ?_
        refine M_eq (a_touching hS (by decide) hF) ?_
        refine t_ite (op := o_if 38 32 (fun x => x = 0) (fun _ => inferInstance)) (fe_X11_lone 29) g_if (fun c3 => ?_) (fun c3 => ?_)
        · refine t_go (op := o_iload 33 1) (fe_X11_lone 32) (fun _ _ => rfl) ?_
          refine t_go (op := o_ci 34 1) (fe_X11_lone 33) (fun _ _ => rfl) ?_
          refine t_go (op := o_iload 35 2) (fe_X11_lone 34) (fun _ _ => rfl) ?_
          refine t_go (op := o_i2 36 (fun x y => x <<< (y &&& 31))) (fe_X11_lone 35) (fun _ _ => rfl) ?_
          refine t_go (op := o_i2 37 (fun x y => x ||| y)) (fe_X11_lone 36) (fun _ _ => rfl) ?_
          refine t_go (op := o_istore 38 1) (fe_X11_lone 37) (fun _ _ => rfl) ?_
          refine t_go (op := o_iinc 41 2 1) (fe_X11_lone 38) (fun _ _ => rfl) ?_
          refine t_go (op := o_goto 4) (fe_X11_lone 41) (fun _ _ => rfl) ?_
          rw [it_step, loneS, if_pos ⟨c2, c3⟩] at hq
          rw [nI_1]
          exact ih (i + 1) _ (by omega) hq
        · refine t_go (op := o_iinc 41 2 1) (fe_X11_lone 38) (fun _ _ => rfl) ?_
          refine t_go (op := o_goto 4) (fe_X11_lone 41) (fun _ _ => rfl) ?_
          rw [it_step, loneS, if_neg fun q => c3 q.2] at hq
          rw [nI_1]
          exact ih (i + 1) _ (by omega) hq
theorem c_lone {d : Nat} {h : AHP} {g n m : Nat} (hS : Std h) (hg : (lay g).1 = 3) (hg7 : h.2.2.1 1 7 = g) (hL : LawOK h g n) (hM : h.1 g 4 = nI m) (hm : m ≤ 7) (hz : NZ h)  : MM (d + 3) 144 [.ref 1] h (fun v h2 => v = some (.int (it (loneS (fs h 5)) 7 0 0)) ∧ X h h2) := by
  refine ⟨Nat.le_of_ble_eq_true rfl, ?_⟩
  obtain ⟨hN2, hzz⟩ := NZ_F hS hz (f := 5) (by decide)
  have hN := (NZ_F hS hz (f := 136) (by decide)).1
  have hR := (NZ_F hS hz (f := 143) (by decide)).1
  have hgp : 0 < g := (lay_lt hg (by decide)).1
  have hF : fs h 5 = fs h 5 := rfl
  refine t_go (op := o_ci 1 0) (fe_X11_lone 0) (fun _ _ => rfl) ?_
  refine t_go (op := o_istore 2 1) (fe_X11_lone 1) (fun _ _ => rfl) ?_
  refine t_go (op := o_ci 3 0) (fe_X11_lone 2) (fun _ _ => rfl) ?_
  refine t_go (op := o_istore 4 2) (fe_X11_lone 3) (fun _ _ => rfl) ?_
  exact lc_lone hS hF 7 0 0 (by omega) ⟨rfl, X.rf⟩
theorem tow_max (x s : Int32) : (if s < x then x else s) = if x ≤ s then s else x := by
  by_cases h : s < x
  · rw [if_pos h, if_neg (Int32.not_le.mpr h)]
  · rw [if_neg h, if_pos (Int32.not_lt.mp h)]
theorem lc_tower {d : Nat} {k : AHP} {F : FS} (hS : Std k) (hF : fs k 5 = F) {Q : Option Value → AHP → Prop} : ∀ (j i : Nat) (s : Int32), i + j = 4 → Q (some (.int (it (towS F) j i s))) k → TT (d + 1) 138 4 [some (.ref 1), some (.int s), some (.int (nI i))] [] k Q := by
  intro j
  induction j with
  | zero =>
    intro i s hi  hq
    have hN : i = 4 := by omega
    refine t_go (op := o_iload 5 2) (fe_X11_tower 4) (fun _ _ => rfl) ?_
    refine t_go (op := o_ci 6 4) (fe_X11_tower 5) (fun _ _ => rfl) ?_
    refine t_ite (op := o_icmp 9 28 (fun x y => y ≤ x) (fun _ _ => inferInstance)) (fe_X11_tower 6) g_icmp (fun c1 => ?_) (fun c1 => ?_)
    · refine t_go (op := o_iload 29 1) (fe_X11_tower 28) (fun _ _ => rfl) ?_
      refine t_ret (op := o_iret) (fe_X11_tower 29) (fun _ _ => rfl) ?_
      exact hq
    · exact absurd (by rw [hN]; exact Int32.le_refl _) c1
  | succ j ih =>
    intro i s hi  hq
    have hi7 : i < 4 := by omega
    refine t_go (op := o_iload 5 2) (fe_X11_tower 4) (fun _ _ => rfl) ?_
    refine t_go (op := o_ci 6 4) (fe_X11_tower 5) (fun _ _ => rfl) ?_
    refine t_ite (op := o_icmp 9 28 (fun x y => y ≤ x) (fun _ _ => inferInstance)) (fe_X11_tower 6) g_icmp (fun c1 => ?_) (fun c1 => ?_)
    · exact absurd c1 (nI_ge hi7 (by decide))
    · refine t_go (op := o_iload 10 1) (fe_X11_tower 9) (fun _ _ => rfl) ?_
      refine t_go (op := o_aload 11 0) (fe_X11_tower 10) (fun _ _ => rfl) ?_
      refine t_go (op := o_getR 14 10 2) (fe_X11_tower 11) (g_getR hS (show (lay 1).1 = 10 by decide) (by decide) (fr_10_2 hS) (by decide)) ?_
      refine t_go (op := o_iload 15 2) (fe_X11_tower 14) (fun _ _ => rfl) ?_
      refine t_call (op := o_callV 18 26 2 1) (fe_X11_tower 15) (g_callV hS (by decide) (by decide) rfl rfl rfl (Nat.le_of_ble_eq_true rfl)) ?_
      refine M_eq (m_stackOf hS (by decide) (c := i) (by omega)) ?_
      refine t_go (op := o_max 21) (fe_X11_tower 18) (g_max (Nat.le_of_ble_eq_true rfl)) ?_
      refine t_go (op := o_istore 22 1) (fe_X11_tower 21) (fun _ _ => rfl) ?_
      refine t_go (op := o_iinc 25 2 1) (fe_X11_tower 22) (fun _ _ => rfl) ?_
      refine t_go (op := o_goto 4) (fe_X11_tower 25) (fun _ _ => rfl) ?_
      rw [it_step, towS, ← tow_max, ← hF] at hq
      rw [nI_1]
      rw [← hF] at ih
      exact ih (i + 1) _ (by omega) hq
theorem c_tower {d : Nat} {h : AHP} {g n m : Nat} (hS : Std h) (hg : (lay g).1 = 3) (hg7 : h.2.2.1 1 7 = g) (hL : LawOK h g n) (hM : h.1 g 4 = nI m) (hm : m ≤ 7) (hz : NZ h)  : MM (d + 1) 138 [.ref 1] h (fun v h2 => v = some (.int (it (towS (fs h 5)) 4 0 0)) ∧ X h h2) := by
  refine ⟨Nat.le_of_ble_eq_true rfl, ?_⟩
  obtain ⟨hN2, hzz⟩ := NZ_F hS hz (f := 5) (by decide)
  have hN := (NZ_F hS hz (f := 136) (by decide)).1
  have hR := (NZ_F hS hz (f := 143) (by decide)).1
  have hgp : 0 < g := (lay_lt hg (by decide)).1
  have hF : fs h 5 = fs h 5 := rfl
  refine t_go (op := o_ci 1 0) (fe_X11_tower 0) (fun _ _ => rfl) ?_
  refine t_go (op := o_istore 2 1) (fe_X11_tower 1) (fun _ _ => rfl) ?_
  refine t_go (op := o_ci 3 0) (fe_X11_tower 2) (fun _ _ => rfl) ?_
  refine t_go (op := o_istore 4 2) (fe_X11_tower 3) (fun _ _ => rfl) ?_
  exact lc_tower hS hF 4 0 0 (by omega) ⟨rfl, X.rf⟩
theorem lc_warm {d : Nat} {k : AHP} {F : FS} (hS : Std k) (hF : fs k 5 = F) {Q : Option Value → AHP → Prop} : ∀ (j i : Nat) (a : Int32) (b : Int32) (x4 : Option Value), i + j = 12 → Q (some (.int (it (bestS (wmV F)) j i (a, b)).1)) k → TT (d + 3) 145 6 [some (.ref 1), some (.int a), some (.int b), some (.int (nI i)), x4] [] k Q := by
  intro j
  induction j with
  | zero =>
    intro i a b x4 hi  hq
    have hN : i = 12 := by omega
    refine t_go (op := o_iload 7 3) (fe_X11_warmest 6) (fun _ _ => rfl) ?_
    refine t_go (op := o_ci 9 12) (fe_X11_warmest 7) (fun _ _ => rfl) ?_
    refine t_ite (op := o_icmp 12 54 (fun x y => y ≤ x) (fun _ _ => inferInstance)) (fe_X11_warmest 9) g_icmp (fun c1 => ?_) (fun c1 => ?_)
    · refine t_go (op := o_iload 55 1) (fe_X11_warmest 54) (fun _ _ => rfl) ?_
      refine t_ret (op := o_iret) (fe_X11_warmest 55) (fun _ _ => rfl) ?_
      exact hq
    · exact absurd (by rw [hN]; exact Int32.le_refl _) c1
  | succ j ih =>
    intro i a b x4 hi  hq
    have hi7 : i < 12 := by omega
    refine t_go (op := o_iload 7 3) (fe_X11_warmest 6) (fun _ _ => rfl) ?_
    refine t_go (op := o_ci 9 12) (fe_X11_warmest 7) (fun _ _ => rfl) ?_
    refine t_ite (op := o_icmp 12 54 (fun x y => y ≤ x) (fun _ _ => inferInstance)) (fe_X11_warmest 9) g_icmp (fun c1 => ?_) (fun c1 => ?_)
    · exact absurd c1 (nI_ge hi7 (by decide))
    · refine t_go (op := o_aload 13 0) (fe_X11_warmest 12) (fun _ _ => rfl) ?_
      refine t_go (op := o_getR 16 10 2) (fe_X11_warmest 13) (g_getR hS (show (lay 1).1 = 10 by decide) (by decide) (fr_10_2 hS) (by decide)) ?_
      refine t_go (op := o_iload 17 3) (fe_X11_warmest 16) (fun _ _ => rfl) ?_
      refine t_call (op := o_callV 20 9 2 1) (fe_X11_warmest 17) (g_callV hS (by decide) (by decide) rfl rfl rfl (Nat.le_of_ble_eq_true rfl)) ?_
      refine M_eq (a_isFree hS (by decide) hF) ?_
      refine t_ite (op := o_if 23 34 (fun x => x = 0) (fun _ => inferInstance)) (fe_X11_warmest 20) g_if (fun c2 => ?_) (fun c2 => ?_)
      · replace c2 := b2i_z c2
        refine t_go (op := o_ci 35 0) (fe_X11_warmest 34) (fun _ _ => rfl) ?_
        refine t_go (op := o_istore 37 4) (fe_X11_warmest 35) (fun _ _ => rfl) ?_
        refine t_go (op := o_iload 39 4) (fe_X11_warmest 37) (fun _ _ => rfl) ?_
        refine t_go (op := o_iload 40 2) (fe_X11_warmest 39) (fun _ _ => rfl) ?_
        refine t_ite (op := o_icmp 43 48 (fun x y => x ≤ y) (fun _ _ => inferInstance)) (fe_X11_warmest 40) g_icmp (fun c3 => ?_) (fun c3 => ?_)
        · refine t_go (op := o_iinc 51 3 1) (fe_X11_warmest 48) (fun _ _ => rfl) ?_
          refine t_go (op := o_goto 6) (fe_X11_warmest 51) (fun _ _ => rfl) ?_
          have ew : wmV F i = 0 := if_neg c2
          rw [it_step, bestS_t (v := wmV F) (e := i) (a := a) (b := b) (by rw [ew]; exact c3)] at hq
          rw [nI_1]
          exact ih (i + 1) _ _ _ (by omega) hq
        · refine t_go (op := o_iload 45 4) (fe_X11_warmest 43) (fun _ _ => rfl) ?_
          refine t_go (op := o_istore 46 2) (fe_X11_warmest 45) (fun _ _ => rfl) ?_
          refine t_go (op := o_iload 47 3) (fe_X11_warmest 46) (fun _ _ => rfl) ?_
          refine t_go (op := o_istore 48 1) (fe_X11_warmest 47) (fun _ _ => rfl) ?_
          refine t_go (op := o_iinc 51 3 1) (fe_X11_warmest 48) (fun _ _ => rfl) ?_
          refine t_go (op := o_goto 6) (fe_X11_warmest 51) (fun _ _ => rfl) ?_
          have ew : wmV F i = 0 := if_neg c2
          rw [it_step, bestS_f (v := wmV F) (e := i) (a := a) (b := b) (by rw [ew]; exact c3)] at hq
          rw [ew] at hq
          rw [nI_1]
          exact ih (i + 1) _ _ _ (by omega) hq
      · replace c2 := b2i_nn c2
        refine t_go (op := o_aload 24 0) (fe_X11_warmest 23) (fun _ _ => rfl) ?_
        refine t_go (op := o_getR 27 10 2) (fe_X11_warmest 24) (g_getR hS (show (lay 1).1 = 10 by decide) (by decide) (fr_10_2 hS) (by decide)) ?_
        refine t_go (op := o_iload 28 3) (fe_X11_warmest 27) (fun _ _ => rfl) ?_
        refine t_call (op := o_callV 31 23 2 1) (fe_X11_warmest 28) (g_callV hS (by decide) (by decide) rfl rfl rfl (Nat.le_of_ble_eq_true rfl)) ?_
        refine M_eq (a_heatBeside hS (by decide) hF) ?_
        refine t_go (op := o_goto 35) (fe_X11_warmest 31) (fun _ _ => rfl) ?_
        refine t_go (op := o_istore 37 4) (fe_X11_warmest 35) (fun _ _ => rfl) ?_
        refine t_go (op := o_iload 39 4) (fe_X11_warmest 37) (fun _ _ => rfl) ?_
        refine t_go (op := o_iload 40 2) (fe_X11_warmest 39) (fun _ _ => rfl) ?_
        refine t_ite (op := o_icmp 43 48 (fun x y => x ≤ y) (fun _ _ => inferInstance)) (fe_X11_warmest 40) g_icmp (fun c4 => ?_) (fun c4 => ?_)
        · refine t_go (op := o_iinc 51 3 1) (fe_X11_warmest 48) (fun _ _ => rfl) ?_
          refine t_go (op := o_goto 6) (fe_X11_warmest 51) (fun _ _ => rfl) ?_
          have ew : wmV F i = it (besideS F (besV (nI i))) 7 0 0 := if_pos c2
          rw [it_step, bestS_t (v := wmV F) (e := i) (a := a) (b := b) (by rw [ew]; exact c4)] at hq
          rw [nI_1]
          exact ih (i + 1) _ _ _ (by omega) hq
        · refine t_go (op := o_iload 45 4) (fe_X11_warmest 43) (fun _ _ => rfl) ?_
          refine t_go (op := o_istore 46 2) (fe_X11_warmest 45) (fun _ _ => rfl) ?_
          refine t_go (op := o_iload 47 3) (fe_X11_warmest 46) (fun _ _ => rfl) ?_
          refine t_go (op := o_istore 48 1) (fe_X11_warmest 47) (fun _ _ => rfl) ?_
          refine t_go (op := o_iinc 51 3 1) (fe_X11_warmest 48) (fun _ _ => rfl) ?_
          refine t_go (op := o_goto 6) (fe_X11_warmest 51) (fun _ _ => rfl) ?_
          have ew : wmV F i = it (besideS F (besV (nI i))) 7 0 0 := if_pos c2
          rw [it_step, bestS_f (v := wmV F) (e := i) (a := a) (b := b) (by rw [ew]; exact c4)] at hq
          rw [ew] at hq
          rw [nI_1]
          exact ih (i + 1) _ _ _ (by omega) hq
theorem c_warmest {d : Nat} {h : AHP} {g n m : Nat} (hS : Std h) (hg : (lay g).1 = 3) (hg7 : h.2.2.1 1 7 = g) (hL : LawOK h g n) (hM : h.1 g 4 = nI m) (hm : m ≤ 7) (hz : NZ h)  : MM (d + 3) 145 [.ref 1] h (fun v h2 => v = some (.int ((it (bestS (wmV (fs h 5))) 12 0 (-1, 0)).1)) ∧ X h h2) := by
  refine ⟨Nat.le_of_ble_eq_true rfl, ?_⟩
  obtain ⟨hN2, hzz⟩ := NZ_F hS hz (f := 5) (by decide)
  have hN := (NZ_F hS hz (f := 136) (by decide)).1
  have hR := (NZ_F hS hz (f := 143) (by decide)).1
  have hgp : 0 < g := (lay_lt hg (by decide)).1
  have hF : fs h 5 = fs h 5 := rfl
  refine t_go (op := o_ci 1 (-1)) (fe_X11_warmest 0) (fun _ _ => rfl) ?_
  refine t_go (op := o_istore 2 1) (fe_X11_warmest 1) (fun _ _ => rfl) ?_
  refine t_go (op := o_ci 3 0) (fe_X11_warmest 2) (fun _ _ => rfl) ?_
  refine t_go (op := o_istore 4 2) (fe_X11_warmest 3) (fun _ _ => rfl) ?_
  refine t_go (op := o_ci 5 0) (fe_X11_warmest 4) (fun _ _ => rfl) ?_
  refine t_go (op := o_istore 6 3) (fe_X11_warmest 5) (fun _ _ => rfl) ?_
  exact lc_warm hS hF 12 0 (-1) 0 _ (by omega) ⟨rfl, X.rf⟩
theorem c_which {d : Nat} {h : AHP} {g n m : Nat} (hS : Std h) (hg : (lay g).1 = 3) (hg7 : h.2.2.1 1 7 = g) (hL : LawOK h g n) (hM : h.1 g 4 = nI m) (hm : m ≤ 7) (hz : NZ h) {tn : Nat} (hTV : TV m tn (h.1 11) (h.1 12) (h.1 13)) (hl : h.1 10 3 = nI tn) : MM (d + 7) 132 [.ref 1] h (fun v h2 => v = some (.int (it (susG h g n (fs h 5) tn (h.1 11) (h.1 12) (h.1 13)) 7 0 0)) ∧ X h h2) := by
  refine ⟨Nat.le_of_ble_eq_true rfl, ?_⟩
  obtain ⟨hN2, hzz⟩ := NZ_F hS hz (f := 5) (by decide)
  have hN := (NZ_F hS hz (f := 136) (by decide)).1
  have hR := (NZ_F hS hz (f := 143) (by decide)).1
  have hgp : 0 < g := (lay_lt hg (by decide)).1
  have hF : fs h 5 = fs h 5 := rfl
  refine t_go (op := o_aload 1 0) (fe_X11_which 0) (fun _ _ => rfl) ?_
  refine t_go (op := o_getR 4 10 6) (fe_X11_which 1) (g_getR hS (show (lay 1).1 = 10 by decide) (by decide) (fr_10_6 hS) (by decide)) ?_
  refine t_go (op := o_aload 5 0) (fe_X11_which 4) (fun _ _ => rfl) ?_
  refine t_go (op := o_getR 8 10 7) (fe_X11_which 5) (g_getR hS (show (lay 1).1 = 10 by decide) (by decide) hg7 hgp) ?_
  refine t_go (op := o_aload 9 0) (fe_X11_which 8) (fun _ _ => rfl) ?_
  refine t_go (op := o_getR 12 10 2) (fe_X11_which 9) (g_getR hS (show (lay 1).1 = 10 by decide) (by decide) (fr_10_2 hS) (by decide)) ?_
  refine t_go (op := o_aload 13 0) (fe_X11_which 12) (fun _ _ => rfl) ?_
  refine t_go (op := o_getR 16 10 3) (fe_X11_which 13) (g_getR hS (show (lay 1).1 = 10 by decide) (by decide) (fr_10_3 hS) (by decide)) ?_
  refine t_call (op := o_callV 19 88 4 7) (fe_X11_which 16) (g_callV hS (by decide) (by decide) rfl rfl rfl (Nat.le_of_ble_eq_true rfl)) ?_
  refine M_mono ?_ (m_suspects hS hg hL X.rf hR hzz hN2 hTV.1 hl)
  rintro _ h2 ⟨rfl, hX, hN3⟩
  refine t_ret (op := o_iret) (fe_X11_which 19) (fun _ _ => rfl) ?_
  exact ⟨by rw [sus_it hTV], hX⟩
theorem c_look {d : Nat} {h : AHP} {g n m : Nat} (hS : Std h) (hg : (lay g).1 = 3) (hg7 : h.2.2.1 1 7 = g) (hL : LawOK h g n) (hM : h.1 g 4 = nI m) (hm : m ≤ 7) (hz : NZ h) {tn : Nat} (hTV : TV m tn (h.1 11) (h.1 12) (h.1 13)) (hl : h.1 10 3 = nI tn) {q : Nat} (hq6 : q ≤ 12) : MM (d + 7) 133 [.ref 1, .int (nI q)] h (fun v h2 => v = some (.int ((it (lookS (lookR h g n (fs h 5) q) (it (susG h g n (fs h 5) tn (h.1 11) (h.1 12) (h.1 13)) 7 0 0)) 7 0 (-1, bcI (it (susG h g n (fs h 5) tn (h.1 11) (h.1 12) (h.1 13)) 7 0 0))).1)) ∧ X h h2) := by
  refine ⟨Nat.le_of_ble_eq_true rfl, ?_⟩
  obtain ⟨hN2, hzz⟩ := NZ_F hS hz (f := 5) (by decide)
  have hN := (NZ_F hS hz (f := 136) (by decide)).1
  have hR := (NZ_F hS hz (f := 143) (by decide)).1
  have hgp : 0 < g := (lay_lt hg (by decide)).1
  have hF : fs h 5 = fs h 5 := rfl
  refine t_go (op := o_iload 1 1) (fe_X11_look 0) (fun _ _ => rfl) ?_
  refine t_ite (op := o_if 4 10 (fun x => x < 0) (fun _ => inferInstance)) (fe_X11_look 1) g_if (fun c1 => ?_) (fun c1 => ?_)
  · exact absurd c1 (nI_pos (by omega))
  · clear c1
    refine t_go (op := o_iload 5 1) (fe_X11_look 4) (fun _ _ => rfl) ?_
    refine t_go (op := o_ci 7 12) (fe_X11_look 5) (fun _ _ => rfl) ?_
    refine t_ite (op := o_icmp 10 14 (fun x y => x ≤ y) (fun _ _ => inferInstance)) (fe_X11_look 7) g_icmp (fun c2 => ?_) (fun c2 => ?_)
    · refine t_go (op := o_aload 15 0) (fe_X11_look 14) (fun _ _ => rfl) ?_
      refine t_go (op := o_getR 18 10 6) (fe_X11_look 15) (g_getR hS (show (lay 1).1 = 10 by decide) (by decide) (fr_10_6 hS) (by decide)) ?_
      refine t_go (op := o_aload 19 0) (fe_X11_look 18) (fun _ _ => rfl) ?_
      refine t_go (op := o_getR 22 10 7) (fe_X11_look 19) (g_getR hS (show (lay 1).1 = 10 by decide) (by decide) hg7 hgp) ?_
      refine t_go (op := o_aload 23 0) (fe_X11_look 22) (fun _ _ => rfl) ?_
      refine t_go (op := o_getR 26 10 2) (fe_X11_look 23) (g_getR hS (show (lay 1).1 = 10 by decide) (by decide) (fr_10_2 hS) (by decide)) ?_
      refine t_go (op := o_aload 27 0) (fe_X11_look 26) (fun _ _ => rfl) ?_
      refine t_go (op := o_getR 30 10 3) (fe_X11_look 27) (g_getR hS (show (lay 1).1 = 10 by decide) (by decide) (fr_10_3 hS) (by decide)) ?_
      refine t_go (op := o_iload 31 1) (fe_X11_look 30) (fun _ _ => rfl) ?_
      refine t_call (op := o_callV 34 89 5 7) (fe_X11_look 31) (g_callV hS (by decide) (by decide) rfl rfl rfl (Nat.le_of_ble_eq_true rfl)) ?_
      refine M_mono ?_ (m_bestLook hS hg hL X.rf hR hzz hN2 hTV.1 hl hq6)
      rintro _ h2 ⟨⟨R, hR2, rfl⟩, hX, hN3⟩
      refine t_ret (op := o_iret) (fe_X11_look 34) (fun _ _ => rfl) ?_
      exact ⟨by rw [look_eq hTV hR2, sus_it hTV], hX⟩
    · exact absurd (show nI q ≤ 12 from nI_le (b := 12) hq6 (by omega)) c2
theorem c_lookF {d : Nat} {h : AHP} {g n m : Nat} (hS : Std h) (hg : (lay g).1 = 3) (hg7 : h.2.2.1 1 7 = g) (hL : LawOK h g n) (hM : h.1 g 4 = nI m) (hm : m ≤ 7) (hz : NZ h) {x : Int32} (hn : ¬ (¬ x < 0 ∧ ¬ 12 < x)) : MM (d + 7) 133 [.ref 1, .int x] h (fun v h2 => v = some (.int (-1)) ∧ X h h2) := by
  refine ⟨Nat.le_of_ble_eq_true rfl, ?_⟩
  obtain ⟨hN2, hzz⟩ := NZ_F hS hz (f := 5) (by decide)
  have hN := (NZ_F hS hz (f := 136) (by decide)).1
  have hR := (NZ_F hS hz (f := 143) (by decide)).1
  have hgp : 0 < g := (lay_lt hg (by decide)).1
  have hF : fs h 5 = fs h 5 := rfl
  refine t_go (op := o_iload 1 1) (fe_X11_look 0) (fun _ _ => rfl) ?_
  refine t_ite (op := o_if 4 10 (fun x => x < 0) (fun _ => inferInstance)) (fe_X11_look 1) g_if (fun c1 => ?_) (fun c1 => ?_)
  · refine t_go (op := o_ci 11 (-1)) (fe_X11_look 10) (fun _ _ => rfl) ?_
    refine t_go (op := o_goto 34) (fe_X11_look 11) (fun _ _ => rfl) ?_
    refine t_ret (op := o_iret) (fe_X11_look 34) (fun _ _ => rfl) ?_
    exact ⟨rfl, X.rf⟩
  · refine t_go (op := o_iload 5 1) (fe_X11_look 4) (fun _ _ => rfl) ?_
    refine t_go (op := o_ci 7 12) (fe_X11_look 5) (fun _ _ => rfl) ?_
    refine t_ite (op := o_icmp 10 14 (fun x y => x ≤ y) (fun _ _ => inferInstance)) (fe_X11_look 7) g_icmp (fun c2 => ?_) (fun c2 => ?_)
    · exact absurd ⟨c1, Int32.not_lt.mpr c2⟩ hn
    · refine t_go (op := o_ci 11 (-1)) (fe_X11_look 10) (fun _ _ => rfl) ?_
      refine t_go (op := o_goto 34) (fe_X11_look 11) (fun _ _ => rfl) ?_
      refine t_ret (op := o_iret) (fe_X11_look 34) (fun _ _ => rfl) ?_
      exact ⟨rfl, X.rf⟩
theorem c_chance {d : Nat} {h : AHP} {g n m : Nat} (hS : Std h) (hg : (lay g).1 = 3) (hg7 : h.2.2.1 1 7 = g) (hL : LawOK h g n) (hM : h.1 g 4 = nI m) (hm : m ≤ 7) (hz : NZ h) {e q od : Nat} (he : e < m) (hq1 : 1 ≤ q) (hq6 : q ≤ 6) (ho : od ≤ 10) : MM (d + 7) 134 [.ref 1, .int (nI e), .int (nI q), .int (nI od)] h (fun v h2 => v = some (.int (nI (it (milN h g n (fs h 5) od e q) (2 ^ q) 0 0 * 10 ^ (6 - q)))) ∧ X h h2) := by
  refine ⟨Nat.le_of_ble_eq_true rfl, ?_⟩
  obtain ⟨hN2, hzz⟩ := NZ_F hS hz (f := 5) (by decide)
  have hN := (NZ_F hS hz (f := 136) (by decide)).1
  have hR := (NZ_F hS hz (f := 143) (by decide)).1
  have hgp : 0 < g := (lay_lt hg (by decide)).1
  have hF : fs h 5 = fs h 5 := rfl
  refine t_go (op := o_aload 1 0) (fe_X11_chance 0) (fun _ _ => rfl) ?_
  refine t_go (op := o_iload 2 1) (fe_X11_chance 1) (fun _ _ => rfl) ?_
  refine t_call (op := o_callV 5 150 2 10) (fe_X11_chance 2) (g_callV hS (show (lay 1).1 = 10 by decide) (by decide) rfl rfl rfl (Nat.le_of_ble_eq_true rfl)) ?_
  refine M_eq (c_isEmber hS hg hg7 hL hM hm hz) ?_
  refine t_ite (op := o_if 8 29 (fun x => x = 0) (fun _ => inferInstance)) (fe_X11_chance 5) g_if (fun c1 => ?_) (fun c1 => ?_)
  · exact absurd (isE he hm) (b2i_z c1)
  · replace c1 := b2i_nn c1
    refine t_go (op := o_iload 9 2) (fe_X11_chance 8) (fun _ _ => rfl) ?_
    refine t_go (op := o_ci 10 1) (fe_X11_chance 9) (fun _ _ => rfl) ?_
    refine t_ite (op := o_icmp 13 29 (fun x y => x < y) (fun _ _ => inferInstance)) (fe_X11_chance 10) g_icmp (fun c2 => ?_) (fun c2 => ?_)
    · exact absurd c2 (nI_nlt (b := 1) hq1 (by omega))
    · refine t_go (op := o_iload 14 2) (fe_X11_chance 13) (fun _ _ => rfl) ?_
      refine t_go (op := o_ci 16 6) (fe_X11_chance 14) (fun _ _ => rfl) ?_
      refine t_ite (op := o_icmp 19 29 (fun x y => y < x) (fun _ _ => inferInstance)) (fe_X11_chance 16) g_icmp (fun c3 => ?_) (fun c3 => ?_)
      · exact absurd c3 (nI_nlt (a := 6) (by omega) (by omega))
      · refine t_go (op := o_iload 20 3) (fe_X11_chance 19) (fun _ _ => rfl) ?_
        refine t_ite (op := o_if 23 29 (fun x => x < 0) (fun _ => inferInstance)) (fe_X11_chance 20) g_if (fun c4 => ?_) (fun c4 => ?_)
        · exact absurd c4 (nI_pos (by omega))
        · clear c4
          refine t_go (op := o_iload 24 3) (fe_X11_chance 23) (fun _ _ => rfl) ?_
          refine t_go (op := o_ci 26 10) (fe_X11_chance 24) (fun _ _ => rfl) ?_
          refine t_ite (op := o_icmp 29 31 (fun x y => x ≤ y) (fun _ _ => inferInstance)) (fe_X11_chance 26) g_icmp (fun c5 => ?_) (fun c5 => ?_)
          · refine t_go (op := o_aload 32 0) (fe_X11_chance 31) (fun _ _ => rfl) ?_
            refine t_go (op := o_getR 35 10 6) (fe_X11_chance 32) (g_getR hS (show (lay 1).1 = 10 by decide) (by decide) (fr_10_6 hS) (by decide)) ?_
            refine t_go (op := o_aload 36 0) (fe_X11_chance 35) (fun _ _ => rfl) ?_
            refine t_go (op := o_getR 39 10 7) (fe_X11_chance 36) (g_getR hS (show (lay 1).1 = 10 by decide) (by decide) hg7 hgp) ?_
            refine t_go (op := o_aload 40 0) (fe_X11_chance 39) (fun _ _ => rfl) ?_
            refine t_go (op := o_getR 43 10 2) (fe_X11_chance 40) (g_getR hS (show (lay 1).1 = 10 by decide) (by decide) (fr_10_2 hS) (by decide)) ?_
            refine t_go (op := o_iload 44 1) (fe_X11_chance 43) (fun _ _ => rfl) ?_
            refine t_go (op := o_iload 45 2) (fe_X11_chance 44) (fun _ _ => rfl) ?_
            refine t_go (op := o_iload 46 3) (fe_X11_chance 45) (fun _ _ => rfl) ?_
            refine t_call (op := o_callV 49 90 6 7) (fe_X11_chance 46) (g_callV hS (by decide) (by decide) rfl rfl rfl (Nat.le_of_ble_eq_true rfl)) ?_
            refine M_mono ?_ (m_millionths hS hg hL X.rf hR hzz hN2 hq6)
            rintro _ h2 ⟨rfl, hX, hN3⟩
            refine t_ret (op := o_iret) (fe_X11_chance 49) (fun _ _ => rfl) ?_
            exact ⟨by rw [show (0 : Int32) = nI 0 from rfl, mil_eq ho, ten_it], hX⟩
          · exact absurd (show nI od ≤ 10 from nI_le (b := 10) ho (by omega)) c5
theorem c_chanceF {d : Nat} {h : AHP} {g n m : Nat} (hS : Std h) (hg : (lay g).1 = 3) (hg7 : h.2.2.1 1 7 = g) (hL : LawOK h g n) (hM : h.1 g 4 = nI m) (hm : m ≤ 7) (hz : NZ h) {x y z : Int32} (hn : ¬ ((¬ x < 0 ∧ x < nI m) ∧ (¬ y < 1 ∧ ¬ 6 < y) ∧ (¬ z < 0 ∧ ¬ 10 < z))) : MM (d + 7) 134 [.ref 1, .int x, .int y, .int z] h (fun v h2 => v = some (.int (-1)) ∧ X h h2) := by
  refine ⟨Nat.le_of_ble_eq_true rfl, ?_⟩
  obtain ⟨hN2, hzz⟩ := NZ_F hS hz (f := 5) (by decide)
  have hN := (NZ_F hS hz (f := 136) (by decide)).1
  have hR := (NZ_F hS hz (f := 143) (by decide)).1
  have hgp : 0 < g := (lay_lt hg (by decide)).1
  have hF : fs h 5 = fs h 5 := rfl
  refine t_go (op := o_aload 1 0) (fe_X11_chance 0) (fun _ _ => rfl) ?_
  refine t_go (op := o_iload 2 1) (fe_X11_chance 1) (fun _ _ => rfl) ?_
  refine t_call (op := o_callV 5 150 2 10) (fe_X11_chance 2) (g_callV hS (show (lay 1).1 = 10 by decide) (by decide) rfl rfl rfl (Nat.le_of_ble_eq_true rfl)) ?_
  refine M_eq (c_isEmber hS hg hg7 hL hM hm hz) ?_
  refine t_ite (op := o_if 8 29 (fun x => x = 0) (fun _ => inferInstance)) (fe_X11_chance 5) g_if (fun c1 => ?_) (fun c1 => ?_)
  · replace c1 := b2i_z c1
    refine t_go (op := o_ci 30 (-1)) (fe_X11_chance 29) (fun _ _ => rfl) ?_
    refine t_ret (op := o_iret) (fe_X11_chance 30) (fun _ _ => rfl) ?_
    exact ⟨rfl, X.rf⟩
  · replace c1 := b2i_nn c1
    refine t_go (op := o_iload 9 2) (fe_X11_chance 8) (fun _ _ => rfl) ?_
    refine t_go (op := o_ci 10 1) (fe_X11_chance 9) (fun _ _ => rfl) ?_
    refine t_ite (op := o_icmp 13 29 (fun x y => x < y) (fun _ _ => inferInstance)) (fe_X11_chance 10) g_icmp (fun c2 => ?_) (fun c2 => ?_)
    · refine t_go (op := o_ci 30 (-1)) (fe_X11_chance 29) (fun _ _ => rfl) ?_
      refine t_ret (op := o_iret) (fe_X11_chance 30) (fun _ _ => rfl) ?_
      exact ⟨rfl, X.rf⟩
    · refine t_go (op := o_iload 14 2) (fe_X11_chance 13) (fun _ _ => rfl) ?_
      refine t_go (op := o_ci 16 6) (fe_X11_chance 14) (fun _ _ => rfl) ?_
      refine t_ite (op := o_icmp 19 29 (fun x y => y < x) (fun _ _ => inferInstance)) (fe_X11_chance 16) g_icmp (fun c3 => ?_) (fun c3 => ?_)
      · refine t_go (op := o_ci 30 (-1)) (fe_X11_chance 29) (fun _ _ => rfl) ?_
        refine t_ret (op := o_iret) (fe_X11_chance 30) (fun _ _ => rfl) ?_
        exact ⟨rfl, X.rf⟩
      · refine t_go (op := o_iload 20 3) (fe_X11_chance 19) (fun _ _ => rfl) ?_
        refine t_ite (op := o_if 23 29 (fun x => x < 0) (fun _ => inferInstance)) (fe_X11_chance 20) g_if (fun c4 => ?_) (fun c4 => ?_)
        · refine t_go (op := o_ci 30 (-1)) (fe_X11_chance 29) (fun _ _ => rfl) ?_
          refine t_ret (op := o_iret) (fe_X11_chance 30) (fun _ _ => rfl) ?_
          exact ⟨rfl, X.rf⟩
        · refine t_go (op := o_iload 24 3) (fe_X11_chance 23) (fun _ _ => rfl) ?_
          refine t_go (op := o_ci 26 10) (fe_X11_chance 24) (fun _ _ => rfl) ?_
          refine t_ite (op := o_icmp 29 31 (fun x y => x ≤ y) (fun _ _ => inferInstance)) (fe_X11_chance 26) g_icmp (fun c5 => ?_) (fun c5 => ?_)
          · exact absurd ⟨c1, ⟨c2, c3⟩, c4, Int32.not_lt.mpr c5⟩ hn
          · refine t_go (op := o_ci 30 (-1)) (fe_X11_chance 29) (fun _ _ => rfl) ?_
            refine t_ret (op := o_iret) (fe_X11_chance 30) (fun _ _ => rfl) ?_
            exact ⟨rfl, X.rf⟩
theorem c_winters {d : Nat} {h : AHP} {g n m : Nat} (hS : Std h) (hg : (lay g).1 = 3) (hg7 : h.2.2.1 1 7 = g) (hL : LawOK h g n) (hM : h.1 g 4 = nI m) (hm : m ≤ 7) (hz : NZ h) {y w q : Nat} (hy : y ≤ 9999) (hq1 : 1 ≤ q) (hq6 : q ≤ 99) (hw : w ≤ 2) : MM (d + 6) 146 [.ref 1, .int (nI y), .int (nI q), .int (nI w)] h (fun v h2 => v = some (.int (winH h g n (fs h 5) q (nI y) (nI w))) ∧ X h h2) := by
  refine ⟨Nat.le_of_ble_eq_true rfl, ?_⟩
  obtain ⟨hN2, hzz⟩ := NZ_F hS hz (f := 5) (by decide)
  have hN := (NZ_F hS hz (f := 136) (by decide)).1
  have hR := (NZ_F hS hz (f := 143) (by decide)).1
  have hgp : 0 < g := (lay_lt hg (by decide)).1
  have hF : fs h 5 = fs h 5 := rfl
  refine t_go (op := o_iload 1 1) (fe_X11_winters 0) (fun _ _ => rfl) ?_
  refine t_ite (op := o_if 4 31 (fun x => x < 0) (fun _ => inferInstance)) (fe_X11_winters 1) g_if (fun c1 => ?_) (fun c1 => ?_)
  · exact absurd c1 (nI_pos (by omega))
  · clear c1
    refine t_go (op := o_iload 5 1) (fe_X11_winters 4) (fun _ _ => rfl) ?_
    refine t_go (op := o_ci 8 9999) (fe_X11_winters 5) (fun _ _ => rfl) ?_
    refine t_ite (op := o_icmp 11 31 (fun x y => y < x) (fun _ _ => inferInstance)) (fe_X11_winters 8) g_icmp (fun c2 => ?_) (fun c2 => ?_)
    · exact absurd c2 (nI_nlt (a := 9999) (by omega) (by omega))
    · refine t_go (op := o_iload 12 2) (fe_X11_winters 11) (fun _ _ => rfl) ?_
      refine t_go (op := o_ci 13 1) (fe_X11_winters 12) (fun _ _ => rfl) ?_
      refine t_ite (op := o_icmp 16 31 (fun x y => x < y) (fun _ _ => inferInstance)) (fe_X11_winters 13) g_icmp (fun c3 => ?_) (fun c3 => ?_)
      · exact absurd c3 (nI_nlt (b := 1) hq1 (by omega))
      · refine t_go (op := o_iload 17 2) (fe_X11_winters 16) (fun _ _ => rfl) ?_
        refine t_go (op := o_ci 19 99) (fe_X11_winters 17) (fun _ _ => rfl) ?_
        refine t_ite (op := o_icmp 22 31 (fun x y => y < x) (fun _ _ => inferInstance)) (fe_X11_winters 19) g_icmp (fun c4 => ?_) (fun c4 => ?_)
        · exact absurd c4 (nI_nlt (a := 99) (by omega) (by omega))
        · refine t_go (op := o_iload 23 3) (fe_X11_winters 22) (fun _ _ => rfl) ?_
          refine t_ite (op := o_if 26 31 (fun x => x < 0) (fun _ => inferInstance)) (fe_X11_winters 23) g_if (fun c5 => ?_) (fun c5 => ?_)
          · exact absurd c5 (nI_pos (by omega))
          · clear c5
            refine t_go (op := o_iload 27 3) (fe_X11_winters 26) (fun _ _ => rfl) ?_
            refine t_go (op := o_ci 28 2) (fe_X11_winters 27) (fun _ _ => rfl) ?_
            refine t_ite (op := o_icmp 31 33 (fun x y => x ≤ y) (fun _ _ => inferInstance)) (fe_X11_winters 28) g_icmp (fun c6 => ?_) (fun c6 => ?_)
            · refine t_go (op := o_aload 34 0) (fe_X11_winters 33) (fun _ _ => rfl) ?_
              refine t_go (op := o_getR 37 10 5) (fe_X11_winters 34) (g_getR hS (show (lay 1).1 = 10 by decide) (by decide) (fr_10_5 hS) (by decide)) ?_
              refine t_go (op := o_aload 38 0) (fe_X11_winters 37) (fun _ _ => rfl) ?_
              refine t_go (op := o_getR 41 10 7) (fe_X11_winters 38) (g_getR hS (show (lay 1).1 = 10 by decide) (by decide) hg7 hgp) ?_
              refine t_go (op := o_aload 42 0) (fe_X11_winters 41) (fun _ _ => rfl) ?_
              refine t_go (op := o_getR 45 10 2) (fe_X11_winters 42) (g_getR hS (show (lay 1).1 = 10 by decide) (by decide) (fr_10_2 hS) (by decide)) ?_
              refine t_go (op := o_iload 46 1) (fe_X11_winters 45) (fun _ _ => rfl) ?_
              refine t_go (op := o_iload 47 2) (fe_X11_winters 46) (fun _ _ => rfl) ?_
              refine t_go (op := o_iload 48 3) (fe_X11_winters 47) (fun _ _ => rfl) ?_
              refine t_call (op := o_callV 51 44 6 2) (fe_X11_winters 48) (g_callV hS (by decide) (by decide) rfl rfl rfl (Nat.le_of_ble_eq_true rfl)) ?_
              refine M_mono ?_ (m_winter hS hg hL X.rf hN hzz hN2 hq6)
              rintro _ h2 ⟨rfl, hX, hN3⟩
              refine t_ret (op := o_iret) (fe_X11_winters 51) (fun _ _ => rfl) ?_
              exact ⟨rfl, hX⟩
            · exact absurd (show nI w ≤ 2 from nI_le (b := 2) hw (by omega)) c6
theorem c_wintersF {d : Nat} {h : AHP} {g n m : Nat} (hS : Std h) (hg : (lay g).1 = 3) (hg7 : h.2.2.1 1 7 = g) (hL : LawOK h g n) (hM : h.1 g 4 = nI m) (hm : m ≤ 7) (hz : NZ h) {x y z : Int32} (hn : ¬ ((¬ x < 0 ∧ ¬ 9999 < x) ∧ (¬ y < 1 ∧ ¬ 99 < y) ∧ (¬ z < 0 ∧ ¬ 2 < z))) : MM (d + 6) 146 [.ref 1, .int x, .int y, .int z] h (fun v h2 => v = some (.int (-1)) ∧ X h h2) := by
  refine ⟨Nat.le_of_ble_eq_true rfl, ?_⟩
  obtain ⟨hN2, hzz⟩ := NZ_F hS hz (f := 5) (by decide)
  have hN := (NZ_F hS hz (f := 136) (by decide)).1
  have hR := (NZ_F hS hz (f := 143) (by decide)).1
  have hgp : 0 < g := (lay_lt hg (by decide)).1
  have hF : fs h 5 = fs h 5 := rfl
  refine t_go (op := o_iload 1 1) (fe_X11_winters 0) (fun _ _ => rfl) ?_
  refine t_ite (op := o_if 4 31 (fun x => x < 0) (fun _ => inferInstance)) (fe_X11_winters 1) g_if (fun c1 => ?_) (fun c1 => ?_)
  · refine t_go (op := o_ci 32 (-1)) (fe_X11_winters 31) (fun _ _ => rfl) ?_
    refine t_ret (op := o_iret) (fe_X11_winters 32) (fun _ _ => rfl) ?_
    exact ⟨rfl, X.rf⟩
  · refine t_go (op := o_iload 5 1) (fe_X11_winters 4) (fun _ _ => rfl) ?_
    refine t_go (op := o_ci 8 9999) (fe_X11_winters 5) (fun _ _ => rfl) ?_
    refine t_ite (op := o_icmp 11 31 (fun x y => y < x) (fun _ _ => inferInstance)) (fe_X11_winters 8) g_icmp (fun c2 => ?_) (fun c2 => ?_)
    · refine t_go (op := o_ci 32 (-1)) (fe_X11_winters 31) (fun _ _ => rfl) ?_
      refine t_ret (op := o_iret) (fe_X11_winters 32) (fun _ _ => rfl) ?_
      exact ⟨rfl, X.rf⟩
    · refine t_go (op := o_iload 12 2) (fe_X11_winters 11) (fun _ _ => rfl) ?_
      refine t_go (op := o_ci 13 1) (fe_X11_winters 12) (fun _ _ => rfl) ?_
      refine t_ite (op := o_icmp 16 31 (fun x y => x < y) (fun _ _ => inferInstance)) (fe_X11_winters 13) g_icmp (fun c3 => ?_) (fun c3 => ?_)
      · refine t_go (op := o_ci 32 (-1)) (fe_X11_winters 31) (fun _ _ => rfl) ?_
        refine t_ret (op := o_iret) (fe_X11_winters 32) (fun _ _ => rfl) ?_
        exact ⟨rfl, X.rf⟩
      · refine t_go (op := o_iload 17 2) (fe_X11_winters 16) (fun _ _ => rfl) ?_
        refine t_go (op := o_ci 19 99) (fe_X11_winters 17) (fun _ _ => rfl) ?_
        refine t_ite (op := o_icmp 22 31 (fun x y => y < x) (fun _ _ => inferInstance)) (fe_X11_winters 19) g_icmp (fun c4 => ?_) (fun c4 => ?_)
        · refine t_go (op := o_ci 32 (-1)) (fe_X11_winters 31) (fun _ _ => rfl) ?_
          refine t_ret (op := o_iret) (fe_X11_winters 32) (fun _ _ => rfl) ?_
          exact ⟨rfl, X.rf⟩
        · refine t_go (op := o_iload 23 3) (fe_X11_winters 22) (fun _ _ => rfl) ?_
          refine t_ite (op := o_if 26 31 (fun x => x < 0) (fun _ => inferInstance)) (fe_X11_winters 23) g_if (fun c5 => ?_) (fun c5 => ?_)
          · refine t_go (op := o_ci 32 (-1)) (fe_X11_winters 31) (fun _ _ => rfl) ?_
            refine t_ret (op := o_iret) (fe_X11_winters 32) (fun _ _ => rfl) ?_
            exact ⟨rfl, X.rf⟩
          · refine t_go (op := o_iload 27 3) (fe_X11_winters 26) (fun _ _ => rfl) ?_
            refine t_go (op := o_ci 28 2) (fe_X11_winters 27) (fun _ _ => rfl) ?_
            refine t_ite (op := o_icmp 31 33 (fun x y => x ≤ y) (fun _ _ => inferInstance)) (fe_X11_winters 28) g_icmp (fun c6 => ?_) (fun c6 => ?_)
            · exact absurd ⟨⟨c1, c2⟩, ⟨c3, c4⟩, c5, Int32.not_lt.mpr c6⟩ hn
            · refine t_go (op := o_ci 32 (-1)) (fe_X11_winters 31) (fun _ _ => rfl) ?_
              refine t_ret (op := o_iret) (fe_X11_winters 32) (fun _ _ => rfl) ?_
              exact ⟨rfl, X.rf⟩
theorem c_judged {d : Nat} {h : AHP} {g n m : Nat} (hS : Std h) (hg : (lay g).1 = 3) (hg7 : h.2.2.1 1 7 = g) (hL : LawOK h g n) (hM : h.1 g 4 = nI m) (hm : m ≤ 7) (hz : NZ h) {ev ln : Nat} (hv : (lay ev).1 = 0) (hv9 : h.2.2.1 1 9 = ev) (hln : ln ≤ 40) (hl : h.1 ev 3 = nI ln) {w : Nat} (hw : w ≤ 2) : MM (d + 6) 120 [.ref 1, .int (nI w)] h (fun v h2 => v = some (.int (jdR h g n (fs h (g + 3)) (h.1 (ev + 1)) (h.1 (ev + 2)) (h.1 (ev + 3)) ln (nI w))) ∧ X h h2) := by
  refine ⟨Nat.le_of_ble_eq_true rfl, ?_⟩
  obtain ⟨hN2, hzz⟩ := NZ_F hS hz (f := 5) (by decide)
  have hN := (NZ_F hS hz (f := 136) (by decide)).1
  have hR := (NZ_F hS hz (f := 143) (by decide)).1
  have hgp : 0 < g := (lay_lt hg (by decide)).1
  have hF : fs h 5 = fs h 5 := rfl
  have hvp : 0 < ev := (lay_lt hv (by decide)).1
  obtain ⟨hNB, hzB⟩ := NZ_F hS hz (f := g + 3) (lay_fst (ly_3_3 hg))
  refine t_go (op := o_iload 1 1) (fe_X11_judged 0) (fun _ _ => rfl) ?_
  refine t_ite (op := o_if 4 9 (fun x => x < 0) (fun _ => inferInstance)) (fe_X11_judged 1) g_if (fun c1 => ?_) (fun c1 => ?_)
  · exact absurd c1 (nI_pos (by omega))
  · clear c1
    refine t_go (op := o_iload 5 1) (fe_X11_judged 4) (fun _ _ => rfl) ?_
    refine t_go (op := o_ci 6 2) (fe_X11_judged 5) (fun _ _ => rfl) ?_
    refine t_ite (op := o_icmp 9 14 (fun x y => x ≤ y) (fun _ _ => inferInstance)) (fe_X11_judged 6) g_icmp (fun c2 => ?_) (fun c2 => ?_)
    · refine t_go (op := o_aload 15 0) (fe_X11_judged 14) (fun _ _ => rfl) ?_
      refine t_go (op := o_getR 18 10 5) (fe_X11_judged 15) (g_getR hS (show (lay 1).1 = 10 by decide) (by decide) (fr_10_5 hS) (by decide)) ?_
      refine t_go (op := o_aload 19 0) (fe_X11_judged 18) (fun _ _ => rfl) ?_
      refine t_go (op := o_getR 22 10 7) (fe_X11_judged 19) (g_getR hS (show (lay 1).1 = 10 by decide) (by decide) hg7 hgp) ?_
      refine t_go (op := o_aload 23 0) (fe_X11_judged 22) (fun _ _ => rfl) ?_
      refine t_go (op := o_getR 26 10 9) (fe_X11_judged 23) (g_getR hS (show (lay 1).1 = 10 by decide) (by decide) hv9 hvp) ?_
      refine t_go (op := o_iload 27 1) (fe_X11_judged 26) (fun _ _ => rfl) ?_
      refine t_call (op := o_callV 30 43 4 2) (fe_X11_judged 27) (g_callV hS (by decide) (by decide) rfl rfl rfl (Nat.le_of_ble_eq_true rfl)) ?_
      refine M_mono ?_ (m_judge hS hg hL X.rf hN hzB hNB hv hln hl)
      rintro _ h2 ⟨rfl, hX, hN3⟩
      refine t_ret (op := o_iret) (fe_X11_judged 30) (fun _ _ => rfl) ?_
      exact ⟨by rw [jdR_eq hw], hX⟩
    · exact absurd (show nI w ≤ 2 from nI_le (b := 2) hw (by omega)) c2
theorem c_judgedF {d : Nat} {h : AHP} {g n m : Nat} (hS : Std h) (hg : (lay g).1 = 3) (hg7 : h.2.2.1 1 7 = g) (hL : LawOK h g n) (hM : h.1 g 4 = nI m) (hm : m ≤ 7) (hz : NZ h) {ev ln : Nat} (hv : (lay ev).1 = 0) (hv9 : h.2.2.1 1 9 = ev) (hln : ln ≤ 40) (hl : h.1 ev 3 = nI ln) {x : Int32} (hn : ¬ (¬ x < 0 ∧ ¬ 2 < x)) : MM (d + 6) 120 [.ref 1, .int x] h (fun v h2 => v = some (.int (-2)) ∧ X h h2) := by
  refine ⟨Nat.le_of_ble_eq_true rfl, ?_⟩
  obtain ⟨hN2, hzz⟩ := NZ_F hS hz (f := 5) (by decide)
  have hN := (NZ_F hS hz (f := 136) (by decide)).1
  have hR := (NZ_F hS hz (f := 143) (by decide)).1
  have hgp : 0 < g := (lay_lt hg (by decide)).1
  have hF : fs h 5 = fs h 5 := rfl
  have hvp : 0 < ev := (lay_lt hv (by decide)).1
  obtain ⟨hNB, hzB⟩ := NZ_F hS hz (f := g + 3) (lay_fst (ly_3_3 hg))
  refine t_go (op := o_iload 1 1) (fe_X11_judged 0) (fun _ _ => rfl) ?_
  refine t_ite (op := o_if 4 9 (fun x => x < 0) (fun _ => inferInstance)) (fe_X11_judged 1) g_if (fun c1 => ?_) (fun c1 => ?_)
  · refine t_go (op := o_ci 11 (-2)) (fe_X11_judged 9) (fun _ _ => rfl) ?_
    refine t_go (op := o_goto 30) (fe_X11_judged 11) (fun _ _ => rfl) ?_
    refine t_ret (op := o_iret) (fe_X11_judged 30) (fun _ _ => rfl) ?_
    exact ⟨rfl, X.rf⟩
  · refine t_go (op := o_iload 5 1) (fe_X11_judged 4) (fun _ _ => rfl) ?_
    refine t_go (op := o_ci 6 2) (fe_X11_judged 5) (fun _ _ => rfl) ?_
    refine t_ite (op := o_icmp 9 14 (fun x y => x ≤ y) (fun _ _ => inferInstance)) (fe_X11_judged 6) g_icmp (fun c2 => ?_) (fun c2 => ?_)
    · exact absurd ⟨c1, Int32.not_lt.mpr c2⟩ hn
    · refine t_go (op := o_ci 11 (-2)) (fe_X11_judged 9) (fun _ _ => rfl) ?_
      refine t_go (op := o_goto 30) (fe_X11_judged 11) (fun _ _ => rfl) ?_
      refine t_ret (op := o_iret) (fe_X11_judged 30) (fun _ _ => rfl) ?_
      exact ⟨rfl, X.rf⟩
