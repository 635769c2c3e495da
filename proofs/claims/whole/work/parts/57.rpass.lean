/-! ===== the reference: an hour ===== -/
theorem mxmn_eq (v : Int32) : (if 0 ≤ v then (if v ≤ 20 then v else 20) else 0) = mx0 (mn20 v) := by
  rw [le20_mn, ← nz_mx]
  unfold nz0
  by_cases h : 0 ≤ v
  · rw [if_pos h]
    have h2 : 0 ≤ mn20 v := by
      unfold mn20
      by_cases h3 : v < 20
      · rw [if_pos h3]; exact h
      · rw [if_neg h3]; decide
    rw [if_pos h2]
  · rw [if_neg h]
    have h4 : ¬ 0 ≤ mn20 v := by
      unfold mn20
      by_cases h3 : v < 20
      · rw [if_pos h3]; exact h
      · exact absurd (Int32.le_trans (by decide) (Int32.not_lt.mp h3)) h
    rw [if_neg h4]
theorem p_clamp {d : Nat} {H : AHP} {b i : Nat} {x y v : Int32} {x5 : Option Value} {Q : Option Value → AHP → Prop} (hS : Std H) (hi : i < 7) (hq : ∀ x5, TT d 214 9 [some (.ref 183), some (.int (nI b)), some (.int x), some (.int y), some (.int (nI (i + 1))), x5] [] (sI H 199 i (mx0 (mn20 v))) Q) : TT d 214 136 [some (.ref 183), some (.int (nI b)), some (.int x), some (.int y), some (.int (nI i)), x5] [.int v] H Q := by
  refine t_go (op := o_istore 138 5) (fe_X12_passes 136) (fun _ _ => rfl) ?_
  refine t_go (op := o_aload 139 0) (fe_X12_passes 138) (fun _ _ => rfl) ?_
  refine t_go (op := o_getR 142 11 25) (fe_X12_passes 139) (g_getR hS (show (lay 183).1 = 11 by decide) (by decide) (fr_11_25 hS) (by decide)) ?_
  refine t_go (op := o_iload 144 4) (fe_X12_passes 142) (fun _ _ => rfl) ?_
  refine t_go (op := o_iload 146 5) (fe_X12_passes 144) (fun _ _ => rfl) ?_
  refine t_ite (op := o_if 149 153 (fun x => 0 ≤ x) (fun _ => inferInstance)) (fe_X12_passes 146) g_if (fun c1 => ?_) (fun c1 => ?_)
  · refine t_go (op := o_iload 155 5) (fe_X12_passes 153) (fun _ _ => rfl) ?_
    refine t_go (op := o_ci 157 20) (fe_X12_passes 155) (fun _ _ => rfl) ?_
    refine t_ite (op := o_icmp 160 165 (fun x y => x ≤ y) (fun _ _ => inferInstance)) (fe_X12_passes 157) g_icmp (fun c2 => ?_) (fun c2 => ?_)
    · refine t_go (op := o_iload 167 5) (fe_X12_passes 165) (fun _ _ => rfl) ?_
      refine t_go (op := o_iast 168) (fe_X12_passes 167) (g_iastN hS (show lay 199 = (20, 7) by decide) rfl (by omega) (by decide)) ?_
      refine t_go (op := o_iinc 171 4 1) (fe_X12_passes 168) (fun _ _ => rfl) ?_
      refine t_go (op := o_goto 9) (fe_X12_passes 171) (fun _ _ => rfl) ?_
      rw [← mxmn_eq v, if_pos c1, if_pos c2] at hq
      rw [nI_1]
      exact hq _
    · refine t_go (op := o_ci 162 20) (fe_X12_passes 160) (fun _ _ => rfl) ?_
      refine t_go (op := o_goto 167) (fe_X12_passes 162) (fun _ _ => rfl) ?_
      refine t_go (op := o_iast 168) (fe_X12_passes 167) (g_iastN hS (show lay 199 = (20, 7) by decide) rfl (by omega) (by decide)) ?_
      refine t_go (op := o_iinc 171 4 1) (fe_X12_passes 168) (fun _ _ => rfl) ?_
      refine t_go (op := o_goto 9) (fe_X12_passes 171) (fun _ _ => rfl) ?_
      rw [← mxmn_eq v, if_pos c1, if_neg c2] at hq
      rw [nI_1]
      exact hq _
  · refine t_go (op := o_ci 150 0) (fe_X12_passes 149) (fun _ _ => rfl) ?_
    refine t_go (op := o_goto 167) (fe_X12_passes 150) (fun _ _ => rfl) ?_
    refine t_go (op := o_iast 168) (fe_X12_passes 167) (g_iastN hS (show lay 199 = (20, 7) by decide) rfl (by omega) (by decide)) ?_
    refine t_go (op := o_iinc 171 4 1) (fe_X12_passes 168) (fun _ _ => rfl) ?_
    refine t_go (op := o_goto 9) (fe_X12_passes 171) (fun _ _ => rfl) ?_
    rw [← mxmn_eq v, if_neg c1] at hq
    rw [nI_1]
    exact hq _
theorem p_tell0 {d : Nat} {H : AHP} {m n b i : Nat} {F : FS} {K st : Nat → Int32} {C x y air p z : Int32} {x5 : Option Value} {Q : Option Value → AHP → Prop} (hR : RH H m K C st n) (hB : RB (H.1 197) b F) (hb : b + 23 ≤ 966) (hi : i < 7) (h0 : H.1 195 0 = p) (h1 : H.1 195 1 = z) (hn0 : n = 0) (h3 : H.1 189 3 = -1) (hq : ∀ H2, Zf (fun _ => False) H H2 → H2.1 199 = H.1 199 → TT (d + 3) 214 136 [some (.ref 183), some (.int (nI b)), some (.int x), some (.int y), some (.int (nI i)), x5] [.int (tellsV st n (fun _ => 0) (fun _ => 0) p z air (F.2.2.1 i))] H2 Q) : TT (d + 3) 214 71 [some (.ref 183), some (.int (nI b)), some (.int x), some (.int y), some (.int (nI i)), x5] [.int air, .int 2, .ref 195] H Q := by
  have hS := hR.1
  refine t_go (op := o_iast 72) (fe_X12_passes 71) (g_iastN hS (show lay 195 = (20, 4) by decide) (nIl 2) (by omega) (by decide)) ?_
  refine t_go (op := o_aload 73 0) (fe_X12_passes 72) (fun _ _ => rfl) ?_
  refine t_go (op := o_getR 76 11 20) (fe_X12_passes 73) (g_getR hS (show (lay 183).1 = 11 by decide) (by decide) (fr_11_20 hS) (by decide)) ?_
  refine t_go (op := o_ci 77 3) (fe_X12_passes 76) (fun _ _ => rfl) ?_
  refine t_go (op := o_aload 78 0) (fe_X12_passes 77) (fun _ _ => rfl) ?_
  refine t_go (op := o_getR 81 11 22) (fe_X12_passes 78) (g_getR hS (show (lay 183).1 = 11 by decide) (by decide) (fr_11_22 hS) (by decide)) ?_
  refine t_go (op := o_iload 82 1) (fe_X12_passes 81) (fun _ _ => rfl) ?_
  refine t_go (op := o_ci 84 16) (fe_X12_passes 82) (fun _ _ => rfl) ?_
  refine t_go (op := o_i2 85 (fun x y => x + y)) (fe_X12_passes 84) (fun _ _ => rfl) ?_
  refine t_go (op := o_iload 87 4) (fe_X12_passes 85) (fun _ _ => rfl) ?_
  refine t_go (op := o_i2 88 (fun x y => x + y)) (fe_X12_passes 87) (fun _ _ => rfl) ?_
  refine t_go (op := o_iald 89) (fe_X12_passes 88) (g_ialdN hS (show lay 197 = (20, 966) by decide) (nIa (nIa rfl (nIl 16)) rfl) (by omega) (by decide)) ?_
  rw [show (sI H 195 2 air).1 197 (b + 16 + i) = F.2.2.1 i from (hB.1 i (by omega)).2.2]
  refine t_go (op := o_iast 90) (fe_X12_passes 89) (g_iastN hS (show lay 195 = (20, 4) by decide) (nIl 3) (by omega) (by decide)) ?_
  have hz3 : Zf (fun _ => False) H (sI (sI H 195 2 air) 195 3 (F.2.2.1 i)) := Zf_scr (Zf_scr Zf.rf (Or.inl rfl)) (Or.inl rfl)
  have hR3 := hR.zf hz3
  refine t_go (op := o_aload 91 0) (fe_X12_passes 90) (fun _ _ => rfl) ?_
  refine t_go (op := o_getR 94 11 10) (fe_X12_passes 91) (g_getR hS (show (lay 183).1 = 11 by decide) (by decide) (fr_11_10 hS) (by decide)) ?_
  refine t_go (op := o_ci 95 3) (fe_X12_passes 94) (fun _ _ => rfl) ?_
  refine t_go (op := o_iald 96) (fe_X12_passes 95) (g_ialdN hS (show lay 189 = (20, 100) by decide) (nIl 3) (by omega) (by decide)) ?_
  rw [show (sI (sI H 195 2 air) 195 3 (F.2.2.1 i)).1 189 3 = -1 from h3]
  refine t_ite (op := o_if 99 126 (fun x => 0 ≤ x) (fun _ => inferInstance)) (fe_X12_passes 96) g_if (fun c1 => ?_) (fun c1 => ?_)
  · exact absurd c1 (by decide)
  · clear c1
    refine t_go (op := o_aload 100 0) (fe_X12_passes 99) (fun _ _ => rfl) ?_
    refine t_go (op := o_getR 103 11 20) (fe_X12_passes 100) (g_getR hS (show (lay 183).1 = 11 by decide) (by decide) (fr_11_20 hS) (by decide)) ?_
    refine t_go (op := o_ci 104 0) (fe_X12_passes 103) (fun _ _ => rfl) ?_
    refine t_go (op := o_iald 105) (fe_X12_passes 104) (g_ialdN hS (show lay 195 = (20, 4) by decide) (nIl 0) (by omega) (by decide)) ?_
    rw [show (sI (sI H 195 2 air) 195 3 (F.2.2.1 i)).1 195 0 = p from h0]
    refine t_go (op := o_aload 106 0) (fe_X12_passes 105) (fun _ _ => rfl) ?_
    refine t_go (op := o_getR 109 11 20) (fe_X12_passes 106) (g_getR hS (show (lay 183).1 = 11 by decide) (by decide) (fr_11_20 hS) (by decide)) ?_
    refine t_go (op := o_ci 110 1) (fe_X12_passes 109) (fun _ _ => rfl) ?_
    refine t_go (op := o_iald 111) (fe_X12_passes 110) (g_ialdN hS (show lay 195 = (20, 4) by decide) (nIl 1) (by omega) (by decide)) ?_
    rw [show (sI (sI H 195 2 air) 195 3 (F.2.2.1 i)).1 195 1 = z from h1]
    refine t_go (op := o_ci 112 2) (fe_X12_passes 111) (fun _ _ => rfl) ?_
    refine t_go (op := o_i2 113 (fun x y => x * y)) (fe_X12_passes 112) (fun _ _ => rfl) ?_
    refine t_go (op := o_i2 114 (fun x y => x + y)) (fe_X12_passes 113) (fun _ _ => rfl) ?_
    refine t_go (op := o_aload 115 0) (fe_X12_passes 114) (fun _ _ => rfl) ?_
    refine t_go (op := o_getR 118 11 20) (fe_X12_passes 115) (g_getR hS (show (lay 183).1 = 11 by decide) (by decide) (fr_11_20 hS) (by decide)) ?_
    refine t_go (op := o_ci 119 2) (fe_X12_passes 118) (fun _ _ => rfl) ?_
    refine t_go (op := o_iald 120) (fe_X12_passes 119) (g_ialdN hS (show lay 195 = (20, 4) by decide) (nIl 2) (by omega) (by decide)) ?_
    rw [show (sI (sI H 195 2 air) 195 3 (F.2.2.1 i)).1 195 2 = air from rfl]
    refine t_go (op := o_i2 121 (fun x y => x + y)) (fe_X12_passes 120) (fun _ _ => rfl) ?_
    refine t_go (op := o_ci 122 3) (fe_X12_passes 121) (fun _ _ => rfl) ?_
    refine t_go (op := o_i2 123 (fun x y => x - y)) (fe_X12_passes 122) (fun _ _ => rfl) ?_
    refine t_go (op := o_goto 136) (fe_X12_passes 123) (fun _ _ => rfl) ?_
    have hq2 := hq (sI (sI H 195 2 air) 195 3 (F.2.2.1 i)) hz3 rfl
    rw [show tellsV st n (fun _ => 0) (fun _ => 0) p z air (F.2.2.1 i) = p + z * 2 + air - 3 from if_pos hn0] at hq2
    exact hq2
theorem p_tell1 {d : Nat} {H : AHP} {m n b i : Nat} {F : FS} {K st : Nat → Int32} {C x y air p z : Int32} {x5 : Option Value} {Q : Option Value → AHP → Prop} (hR : RH H m K C st n) (hB : RB (H.1 197) b F) (hb : b + 23 ≤ 966) (hi : i < 7) (h0 : H.1 195 0 = p) (h1 : H.1 195 1 = z) (hn0 : 0 < n) (hn : n ≤ 1000) (h3 : H.1 189 3 = 0) (hW : WFL st n) (hCo : ∀ i, i < n → codeR (st i) (H.1 190 i) (H.1 191 i)) (h9 : H.1 190 n = 0) (hq : ∀ H2, Zf (fun _ => False) H H2 → H2.1 199 = H.1 199 → TT (d + 3) 214 136 [some (.ref 183), some (.int (nI b)), some (.int x), some (.int y), some (.int (nI i)), x5] [.int (tellsV st n (fun _ => 0) (fun _ => 0) p z air (F.2.2.1 i))] H2 Q) : TT (d + 3) 214 71 [some (.ref 183), some (.int (nI b)), some (.int x), some (.int y), some (.int (nI i)), x5] [.int air, .int 2, .ref 195] H Q := by
  have hS := hR.1
  refine t_go (op := o_iast 72) (fe_X12_passes 71) (g_iastN hS (show lay 195 = (20, 4) by decide) (nIl 2) (by omega) (by decide)) ?_
  refine t_go (op := o_aload 73 0) (fe_X12_passes 72) (fun _ _ => rfl) ?_
  refine t_go (op := o_getR 76 11 20) (fe_X12_passes 73) (g_getR hS (show (lay 183).1 = 11 by decide) (by decide) (fr_11_20 hS) (by decide)) ?_
  refine t_go (op := o_ci 77 3) (fe_X12_passes 76) (fun _ _ => rfl) ?_
  refine t_go (op := o_aload 78 0) (fe_X12_passes 77) (fun _ _ => rfl) ?_
  refine t_go (op := o_getR 81 11 22) (fe_X12_passes 78) (g_getR hS (show (lay 183).1 = 11 by decide) (by decide) (fr_11_22 hS) (by decide)) ?_
  refine t_go (op := o_iload 82 1) (fe_X12_passes 81) (fun _ _ => rfl) ?_
  refine t_go (op := o_ci 84 16) (fe_X12_passes 82) (fun _ _ => rfl) ?_
  refine t_go (op := o_i2 85 (fun x y => x + y)) (fe_X12_passes 84) (fun _ _ => rfl) ?_
  refine t_go (op := o_iload 87 4) (fe_X12_passes 85) (fun _ _ => rfl) ?_
  refine t_go (op := o_i2 88 (fun x y => x + y)) (fe_X12_passes 87) (fun _ _ => rfl) ?_
  refine t_go (op := o_iald 89) (fe_X12_passes 88) (g_ialdN hS (show lay 197 = (20, 966) by decide) (nIa (nIa rfl (nIl 16)) rfl) (by omega) (by decide)) ?_
  rw [show (sI H 195 2 air).1 197 (b + 16 + i) = F.2.2.1 i from (hB.1 i (by omega)).2.2]
  refine t_go (op := o_iast 90) (fe_X12_passes 89) (g_iastN hS (show lay 195 = (20, 4) by decide) (nIl 3) (by omega) (by decide)) ?_
  have hz3 : Zf (fun _ => False) H (sI (sI H 195 2 air) 195 3 (F.2.2.1 i)) := Zf_scr (Zf_scr Zf.rf (Or.inl rfl)) (Or.inl rfl)
  have hR3 := hR.zf hz3
  refine t_go (op := o_aload 91 0) (fe_X12_passes 90) (fun _ _ => rfl) ?_
  refine t_go (op := o_getR 94 11 10) (fe_X12_passes 91) (g_getR hS (show (lay 183).1 = 11 by decide) (by decide) (fr_11_10 hS) (by decide)) ?_
  refine t_go (op := o_ci 95 3) (fe_X12_passes 94) (fun _ _ => rfl) ?_
  refine t_go (op := o_iald 96) (fe_X12_passes 95) (g_ialdN hS (show lay 189 = (20, 100) by decide) (nIl 3) (by omega) (by decide)) ?_
  rw [show (sI (sI H 195 2 air) 195 3 (F.2.2.1 i)).1 189 3 = 0 from h3]
  refine t_ite (op := o_if 99 126 (fun x => 0 ≤ x) (fun _ => inferInstance)) (fe_X12_passes 96) g_if (fun c1 => ?_) (fun c1 => ?_)
  · clear c1
    refine t_go (op := o_aload 127 0) (fe_X12_passes 126) (fun _ _ => rfl) ?_
    refine t_go (op := o_aload 128 0) (fe_X12_passes 127) (fun _ _ => rfl) ?_
    refine t_go (op := o_getR 131 11 10) (fe_X12_passes 128) (g_getR hS (show (lay 183).1 = 11 by decide) (by decide) (fr_11_10 hS) (by decide)) ?_
    refine t_go (op := o_ci 132 3) (fe_X12_passes 131) (fun _ _ => rfl) ?_
    refine t_go (op := o_iald 133) (fe_X12_passes 132) (g_ialdN hS (show lay 189 = (20, 100) by decide) (nIl 3) (by omega) (by decide)) ?_
    rw [show (sI (sI H 195 2 air) 195 3 (F.2.2.1 i)).1 189 3 = 0 from h3]
    refine t_call (op := o_callV 136 194 2 11) (fe_X12_passes 133) (g_callV hS (show (lay 183).1 = 11 by decide) (by decide) rfl rfl rfl (Nat.le_of_ble_eq_true rfl)) ?_
    refine M_mono ?_ (r_worthAt hR3.1 hn hn0 hW hCo h9)
    rintro _ _ ⟨rfl, r, rfl⟩
    have hq2 := hq (rowI (sI (sI H 195 2 air) 195 3 (F.2.2.1 i)) 196 r) (Zf_pile hz3) (by rw [rowI_ne (by decide)]; rfl)
    rw [show (sI (sI H 195 2 air) 195 3 (F.2.2.1 i)).1 195 0 = p from h0, show (sI (sI H 195 2 air) 195 3 (F.2.2.1 i)).1 195 1 = z from h1, show (sI (sI H 195 2 air) 195 3 (F.2.2.1 i)).1 195 2 = air from rfl, show (sI (sI H 195 2 air) 195 3 (F.2.2.1 i)).1 195 3 = F.2.2.1 i from rfl]
    exact hq2
  · exact absurd (by decide) c1
theorem p_tell {d : Nat} {H : AHP} {m n b i : Nat} {F : FS} {K st : Nat → Int32} {C x y air p z : Int32} {x5 : Option Value} {Q : Option Value → AHP → Prop} (hR : RH H m K C st n) (hB : RB (H.1 197) b F) (hb : b + 23 ≤ 966) (hi : i < 7) (h0 : H.1 195 0 = p) (h1 : H.1 195 1 = z) (hq : ∀ H2, Zf (fun _ => False) H H2 → H2.1 199 = H.1 199 → TT (d + 3) 214 136 [some (.ref 183), some (.int (nI b)), some (.int x), some (.int y), some (.int (nI i)), x5] [.int (tellsV st n (fun _ => 0) (fun _ => 0) p z air (F.2.2.1 i))] H2 Q) : TT (d + 3) 214 71 [some (.ref 183), some (.int (nI b)), some (.int x), some (.int y), some (.int (nI i)), x5] [.int air, .int 2, .ref 195] H Q := by
  rcases hR.2.2.2.2.2 with ⟨g1, g2⟩ | ⟨g1, g2, g3, g4, g5, g6⟩
  · exact p_tell0 hR hB hb hi h0 h1 g1 g2 hq
  · exact p_tell1 hR hB hb hi h0 h1 g1 g2 g3 g4 g5 g6 hq
set_option maxRecDepth 8000 in
theorem l_pass1 {d : Nat} {k : AHP} {m n b : Nat} {F : FS} {K st : Nat → Int32} {C x air : Int32} (hR : RH k m K C st n) (hV : FV m F) (hB : RB (k.1 197) b F) (hb : b + 23 ≤ 966) (hair : air = if F.2.2.2.2.2 = 1 then 0 else x) {y : Int32} {Q : Option Value → AHP → Prop} : ∀ (j i : Nat) (S : AHP) (x5 : Option Value), i + j = m → Zf (fun _ => False) k S → (∀ e, e < i → hasF F (nI e) → S.1 199 e = wv (tellsV st n (fun _ => 0) (fun _ => 0)) (it (cellsS F K (litB F K C)) 7 0 (0, 0)).1 (it (cellsS F K (litB F K C)) 7 0 (0, 0)).2 air F e) → (∀ S2 x5, Zf (fun _ => False) k S2 → (∀ e, e < m → hasF F (nI e) → S2.1 199 e = wv (tellsV st n (fun _ => 0) (fun _ => 0)) (it (cellsS F K (litB F K C)) 7 0 (0, 0)).1 (it (cellsS F K (litB F K C)) 7 0 (0, 0)).2 air F e) → TT (d + 3) 214 174 [some (.ref 183), some (.int (nI b)), some (.int x), some (.int y), some (.int (nI m)), x5] [] S2 Q) → TT (d + 3) 214 9 [some (.ref 183), some (.int (nI b)), some (.int x), some (.int y), some (.int (nI i)), x5] [] S Q := by
  intro j
  induction j with
  | zero =>
    intro i S x5 hi hz hH hq
    have hN : i = m := by omega
    have hRS := hR.zf hz
    have hS := hRS.1
    have hE := hRS.2.1
    have hm := hRS.2.2.1
    have hBS := hB.zf hz (fun _ _ _ q => q)
    refine t_go (op := o_iload 11 4) (fe_X12_passes 9) (fun _ _ => rfl) ?_
    refine t_go (op := o_aload 12 0) (fe_X12_passes 11) (fun _ _ => rfl) ?_
    refine t_call (op := o_callV 15 200 1 11) (fe_X12_passes 12) (g_callV hS (show (lay 183).1 = 11 by decide) (by decide) rfl rfl rfl (Nat.le_of_ble_eq_true rfl)) ?_
    refine M_eq (r_embers hS hE) ?_
    refine t_ite (op := o_icmp 18 174 (fun x y => y ≤ x) (fun _ _ => inferInstance)) (fe_X12_passes 15) g_icmp (fun c1 => ?_) (fun c1 => ?_)
    · rw [hN]
      exact hq S x5 hz (fun e he hh => hH e (by omega) hh)
    · exact absurd (by rw [hN]; exact Int32.le_refl _) c1
  | succ j ih =>
    intro i S x5 hi hz hH hq
    have hi7 : i < m := by omega
    have hRS := hR.zf hz
    have hS := hRS.1
    have hE := hRS.2.1
    have hm := hRS.2.2.1
    have hBS := hB.zf hz (fun _ _ _ q => q)
    refine t_go (op := o_iload 11 4) (fe_X12_passes 9) (fun _ _ => rfl) ?_
    refine t_go (op := o_aload 12 0) (fe_X12_passes 11) (fun _ _ => rfl) ?_
    refine t_call (op := o_callV 15 200 1 11) (fe_X12_passes 12) (g_callV hS (show (lay 183).1 = 11 by decide) (by decide) rfl rfl rfl (Nat.le_of_ble_eq_true rfl)) ?_
    refine M_eq (r_embers hS hE) ?_
    refine t_ite (op := o_icmp 18 174 (fun x y => y ≤ x) (fun _ _ => inferInstance)) (fe_X12_passes 15) g_icmp (fun c1 => ?_) (fun c1 => ?_)
    · exact absurd c1 (nI_ge hi7 (by omega))
    · refine t_go (op := o_aload 19 0) (fe_X12_passes 18) (fun _ _ => rfl) ?_
      refine t_go (op := o_getR 22 11 20) (fe_X12_passes 19) (g_getR hS (show (lay 183).1 = 11 by decide) (by decide) (fr_11_20 hS) (by decide)) ?_
      refine t_go (op := o_ci 23 0) (fe_X12_passes 22) (fun _ _ => rfl) ?_
      refine t_go (op := o_aload 24 0) (fe_X12_passes 23) (fun _ _ => rfl) ?_
      refine t_go (op := o_getR 27 11 22) (fe_X12_passes 24) (g_getR hS (show (lay 183).1 = 11 by decide) (by decide) (fr_11_22 hS) (by decide)) ?_
      refine t_go (op := o_iload 28 1) (fe_X12_passes 27) (fun _ _ => rfl) ?_
      refine t_go (op := o_ci 30 9) (fe_X12_passes 28) (fun _ _ => rfl) ?_
      refine t_go (op := o_i2 31 (fun x y => x + y)) (fe_X12_passes 30) (fun _ _ => rfl) ?_
      refine t_go (op := o_iload 33 4) (fe_X12_passes 31) (fun _ _ => rfl) ?_
      refine t_go (op := o_i2 34 (fun x y => x + y)) (fe_X12_passes 33) (fun _ _ => rfl) ?_
      refine t_go (op := o_iald 35) (fe_X12_passes 34) (g_ialdN hS (show lay 197 = (20, 966) by decide) (nIa (nIa rfl (nIl 9)) rfl) (by omega) (by decide)) ?_
      rw [(hBS.1 i (by omega)).2.1]
      refine t_go (op := o_iast 36) (fe_X12_passes 35) (g_iastN hS (show lay 195 = (20, 4) by decide) (nIl 0) (by omega) (by decide)) ?_
      refine t_go (op := o_aload 37 0) (fe_X12_passes 36) (fun _ _ => rfl) ?_
      refine t_go (op := o_getR 40 11 20) (fe_X12_passes 37) (g_getR hS (show (lay 183).1 = 11 by decide) (by decide) (fr_11_20 hS) (by decide)) ?_
      refine t_go (op := o_ci 41 1) (fe_X12_passes 40) (fun _ _ => rfl) ?_
      refine t_go (op := o_aload 42 0) (fe_X12_passes 41) (fun _ _ => rfl) ?_
      refine t_go (op := o_iload 43 1) (fe_X12_passes 42) (fun _ _ => rfl) ?_
      refine t_go (op := o_iload 45 4) (fe_X12_passes 43) (fun _ _ => rfl) ?_
      refine t_call (op := o_callV 48 209 3 11) (fe_X12_passes 45) (g_callV hS (show (lay 183).1 = 11 by decide) (by decide) rfl rfl rfl (Nat.le_of_ble_eq_true rfl)) ?_
      have hz1 : Zf (fun _ => False) k (sI S 195 0 (F.2.1 i)) := Zf_scr hz (Or.inl rfl)
      have hR1 := hR.zf hz1
      have hB1 := hB.zf hz1 (fun _ _ _ q => q)
      refine M_eq (r_nearOf hR1.1 hV hB1 hb hR1.2.2.1 hR1.2.1 hR1.2.2.2.1 hR1.2.2.2.2.1 (e := i) (by omega)) ?_
      refine t_go (op := o_iast 49) (fe_X12_passes 48) (g_iastN hS (show lay 195 = (20, 4) by decide) (nIl 1) (by omega) (by decide)) ?_
      refine t_go (op := o_aload 50 0) (fe_X12_passes 49) (fun _ _ => rfl) ?_
      refine t_go (op := o_getR 53 11 20) (fe_X12_passes 50) (g_getR hS (show (lay 183).1 = 11 by decide) (by decide) (fr_11_20 hS) (by decide)) ?_
      refine t_go (op := o_ci 54 2) (fe_X12_passes 53) (fun _ _ => rfl) ?_
      refine t_go (op := o_aload 55 0) (fe_X12_passes 54) (fun _ _ => rfl) ?_
      refine t_go (op := o_getR 58 11 22) (fe_X12_passes 55) (g_getR hS (show (lay 183).1 = 11 by decide) (by decide) (fr_11_22 hS) (by decide)) ?_
      refine t_go (op := o_iload 59 1) (fe_X12_passes 58) (fun _ _ => rfl) ?_
      refine t_go (op := o_ci 60 1) (fe_X12_passes 59) (fun _ _ => rfl) ?_
      refine t_go (op := o_i2 61 (fun x y => x + y)) (fe_X12_passes 60) (fun _ _ => rfl) ?_
      refine t_go (op := o_iald 62) (fe_X12_passes 61) (g_ialdN hS (show lay 197 = (20, 966) by decide) (nIa rfl (nIl 1)) (by omega) (by decide)) ?_
      rw [show (sI (sI S 195 0 (F.2.1 i)) 195 1 (nearR F K C m i)).1 197 (b + 1) = F.2.2.2.2.2 from hBS.2.2]
      refine t_go (op := o_ci 63 1) (fe_X12_passes 62) (fun _ _ => rfl) ?_
      refine t_ite (op := o_icmp 70 66 (fun x y => x = y) (fun _ _ => inferInstance)) (fe_X12_passes 63) g_icmp (fun c2 => ?_) (fun c2 => ?_)
      · refine t_go (op := o_ci 67 0) (fe_X12_passes 66) (fun _ _ => rfl) ?_
        refine t_go (op := o_goto 71) (fe_X12_passes 67) (fun _ _ => rfl) ?_
        have hz2 : Zf (fun _ => False) k (sI (sI S 195 0 (F.2.1 i)) 195 1 (nearR F K C m i)) := Zf_scr hz1 (Or.inl rfl)
        have ea : air = 0 := hair.trans (if_pos c2)
        subst ea
        refine p_tell (hR.zf hz2) (hB.zf hz2 (fun _ _ _ q => q)) hb (by omega) rfl rfl fun H2 hz3 h199 => ?_
        refine p_clamp ((hR.zf (hz2.tr hz3)).1) (by omega) fun x5 => ?_
        refine ih (i + 1) _ x5 (by omega) (Zf_scr (hz2.tr hz3) (Or.inr (Or.inr rfl))) (fun e he hh => ?_) hq
        by_cases hei : e = i
        · subst hei
          rw [sI_eq]
          unfold wv
          rw [← near_eq hV hm (by omega) hh]
          rfl
        · rw [sI_nr hei, h199]
          exact hH e (by omega) hh
      · refine t_go (op := o_iload 71 2) (fe_X12_passes 70) (fun _ _ => rfl) ?_
        have hz2 : Zf (fun _ => False) k (sI (sI S 195 0 (F.2.1 i)) 195 1 (nearR F K C m i)) := Zf_scr hz1 (Or.inl rfl)
        have ea : air = x := hair.trans (if_neg c2)
        subst ea
        refine p_tell (hR.zf hz2) (hB.zf hz2 (fun _ _ _ q => q)) hb (by omega) rfl rfl fun H2 hz3 h199 => ?_
        refine p_clamp ((hR.zf (hz2.tr hz3)).1) (by omega) fun x5 => ?_
        refine ih (i + 1) _ x5 (by omega) (Zf_scr (hz2.tr hz3) (Or.inr (Or.inr rfl))) (fun e he hh => ?_) hq
        by_cases hei : e = i
        · subst hei
          rw [sI_eq]
          unfold wv
          rw [← near_eq hV hm (by omega) hh]
          rfl
        · rw [sI_nr hei, h199]
          exact hH e (by omega) hh
theorem hr_keep {L : Int32 → Int32 → Int32 → Int32 → Int32} {K r : Nat → Int32} {lit lc dc air s : Int32} {m i : Nat} {G : FS} (hi : i < m) (hm : m ≤ 7) (hH : ∀ e, i ≤ e → e < m → hasF G (nI e) → r e = wv L lc dc air G e) (hL : ∀ e, i ≤ e → e < m → bitI lit (nI e) → hasF G (nI e)) :
    (∀ e, i + 1 ≤ e → e < m → hasF (hrS L K lit lc dc air i (G, s)).1 (nI e) → r e = wv L lc dc air (hrS L K lit lc dc air i (G, s)).1 e) ∧ (∀ e, i + 1 ≤ e → e < m → bitI lit (nI e) → hasF (hrS L K lit lc dc air i (G, s)).1 (nI e)) := by
  have ho : ∀ e, i + 1 ≤ e → e < m → _ := fun e h1 h2 => hr_other (L := L) (K := K) (lit := lit) (lc := lc) (dc := dc) (air := air) (s := (G, s)) (e := i) (a := e) (by omega) (by omega) (by omega)
  refine ⟨fun e h1 h2 hh => ?_, fun e h1 h2 hb => ?_⟩
  · obtain ⟨o1, o2, o3⟩ := ho e h1 h2
    unfold wv
    rw [o1, o2, o3]
    exact hH e (by omega) h2 ((hasF_cg (by omega) o1).mp hh)
  · obtain ⟨o1, _, _⟩ := ho e h1 h2
    exact (hasF_cg (by omega) o1).mpr (hL e (by omega) h2 hb)
theorem and01 (y : Int32) : y &&& 1 = 0 ∨ y &&& 1 = 1 := by
  by_cases h : bt y 0 = true
  · refine Or.inr (b_ext fun i hi => ?_)
    rw [b_and, b_1 i hi]
    by_cases h0 : i = 0
    · subst h0; simp [h]
    · simp [h0]
  · refine Or.inl (b_ext fun i hi => ?_)
    rw [b_and, b_1 i hi, b_0]
    by_cases h0 : i = 0
    · subst h0; simp [h]
    · simp [h0]
theorem bit_1 {x y : Int32} (h : ¬ (x >>> (y &&& 31)) &&& 1 = 0) : bitI x y := (and01 _).resolve_left h
set_option maxRecDepth 8000 in
theorem l_pass2 {d : Nat} {k : AHP} {m n b : Nat} {K st : Nat → Int32} {C lit lc dc air : Int32} {L : Int32 → Int32 → Int32 → Int32 → Int32} (hR : RH k m K C st n) (hb : b + 23 ≤ 966) {x : Int32} {Q : Option Value → AHP → Prop} : ∀ (j i : Nat) (S : AHP) (G : FS) (s : Int32), i + j = m → Zf (blk b) k S → RB (S.1 197) b G → FV m G → S.1 199 = k.1 199 → (∀ e, i ≤ e → e < m → hasF G (nI e) → k.1 199 e = wv L lc dc air G e) → (∀ e, i ≤ e → e < m → bitI lit (nI e) → hasF G (nI e)) → (∀ S2, Zf (blk b) k S2 → RB (S2.1 197) b (it (hrS L K lit lc dc air) j i (G, s)).1 → FV m (it (hrS L K lit lc dc air) j i (G, s)).1 → TT (d + 3) 214 299 [some (.ref 183), some (.int (nI b)), some (.int x), some (.int lit), some (.int (it (hrS L K lit lc dc air) j i (G, s)).2), some (.int (nI m))] [] S2 Q) → TT (d + 3) 214 180 [some (.ref 183), some (.int (nI b)), some (.int x), some (.int lit), some (.int s), some (.int (nI i))] [] S Q := by
  intro j
  induction j with
  | zero =>
    intro i S G s hi hz hBS hV h199 hH hL hq
    have hN : i = m := by omega
    have hRS := hR.zf hz
    have hS := hRS.1
    have hE := hRS.2.1
    have hm := hRS.2.2.1
    refine t_go (op := o_iload 182 5) (fe_X12_passes 180) (fun _ _ => rfl) ?_
    refine t_go (op := o_aload 183 0) (fe_X12_passes 182) (fun _ _ => rfl) ?_
    refine t_call (op := o_callV 186 200 1 11) (fe_X12_passes 183) (g_callV hS (show (lay 183).1 = 11 by decide) (by decide) rfl rfl rfl (Nat.le_of_ble_eq_true rfl)) ?_
    refine M_eq (r_embers hS hE) ?_
    refine t_ite (op := o_icmp 189 299 (fun x y => y ≤ x) (fun _ _ => inferInstance)) (fe_X12_passes 186) g_icmp (fun c1 => ?_) (fun c1 => ?_)
    · rw [hN]
      exact hq S hz hBS hV
    · exact absurd (by rw [hN]; exact Int32.le_refl _) c1
  | succ j ih =>
    intro i S G s hi hz hBS hV h199 hH hL hq
    have hi7 : i < m := by omega
    have hRS := hR.zf hz
    have hS := hRS.1
    have hE := hRS.2.1
    have hm := hRS.2.2.1
    refine t_go (op := o_iload 182 5) (fe_X12_passes 180) (fun _ _ => rfl) ?_
    refine t_go (op := o_aload 183 0) (fe_X12_passes 182) (fun _ _ => rfl) ?_
    refine t_call (op := o_callV 186 200 1 11) (fe_X12_passes 183) (g_callV hS (show (lay 183).1 = 11 by decide) (by decide) rfl rfl rfl (Nat.le_of_ble_eq_true rfl)) ?_
    refine M_eq (r_embers hS hE) ?_
    refine t_ite (op := o_icmp 189 299 (fun x y => y ≤ x) (fun _ _ => inferInstance)) (fe_X12_passes 186) g_icmp (fun c1 => ?_) (fun c1 => ?_)
    · exact absurd c1 (nI_ge hi7 (by omega))
    · refine t_go (op := o_aload 190 0) (fe_X12_passes 189) (fun _ _ => rfl) ?_
      refine t_go (op := o_iload 191 1) (fe_X12_passes 190) (fun _ _ => rfl) ?_
      refine t_go (op := o_iload 193 5) (fe_X12_passes 191) (fun _ _ => rfl) ?_
      refine t_call (op := o_callV 196 203 3 11) (fe_X12_passes 193) (g_callV hS (show (lay 183).1 = 11 by decide) (by decide) rfl rfl rfl (Nat.le_of_ble_eq_true rfl)) ?_
      refine M_eq (r_isThere hS hV hBS hb (e := i) (by omega)) ?_
      refine t_ite (op := o_if 199 293 (fun x => x = 0) (fun _ => inferInstance)) (fe_X12_passes 196) g_if (fun c2 => ?_) (fun c2 => ?_)
      · replace c2 := b2i_z c2
        refine t_go (op := o_iinc 296 5 1) (fe_X12_passes 293) (fun _ _ => rfl) ?_
        refine t_go (op := o_goto 180) (fe_X12_passes 296) (fun _ _ => rfl) ?_
        have eG : hrS L K lit lc dc air i (G, s) = _ := hr_F (by omega) c2 (fun q => c2 (hL i (by omega) hi7 q))
        have hk := hr_keep (L := L) (K := K) (lit := lit) (lc := lc) (dc := dc) (air := air) (s := s) hi7 hm hH hL
        rw [it_step, eG] at hq
        rw [eG] at hk
        rw [nI_1]
        exact ih (i + 1) _ _ _ (by omega) hz hBS hV h199 hk.1 hk.2 hq
      · replace c2 := b2i_nn c2
        refine t_go (op := o_aload 200 0) (fe_X12_passes 199) (fun _ _ => rfl) ?_
        refine t_go (op := o_getR 203 11 22) (fe_X12_passes 200) (g_getR hS (show (lay 183).1 = 11 by decide) (by decide) (fr_11_22 hS) (by decide)) ?_
        refine t_go (op := o_iload 204 1) (fe_X12_passes 203) (fun _ _ => rfl) ?_
        refine t_go (op := o_ci 206 9) (fe_X12_passes 204) (fun _ _ => rfl) ?_
        refine t_go (op := o_i2 207 (fun x y => x + y)) (fe_X12_passes 206) (fun _ _ => rfl) ?_
        refine t_go (op := o_iload 209 5) (fe_X12_passes 207) (fun _ _ => rfl) ?_
        refine t_go (op := o_i2 210 (fun x y => x + y)) (fe_X12_passes 209) (fun _ _ => rfl) ?_
        refine t_go (op := o_aload 211 0) (fe_X12_passes 210) (fun _ _ => rfl) ?_
        refine t_go (op := o_getR 214 11 25) (fe_X12_passes 211) (g_getR hS (show (lay 183).1 = 11 by decide) (by decide) (fr_11_25 hS) (by decide)) ?_
        refine t_go (op := o_iload 216 5) (fe_X12_passes 214) (fun _ _ => rfl) ?_
        refine t_go (op := o_iald 217) (fe_X12_passes 216) (g_ialdN hS (show lay 199 = (20, 7) by decide) rfl (by omega) (by decide)) ?_
        rw [show S.1 199 i = (wv L lc dc air G i) from by rw [h199]; exact hH i (by omega) hi7 c2]
        refine t_go (op := o_iast 218) (fe_X12_passes 217) (g_iastN hS (show lay 197 = (20, 966) by decide) (nIa (nIa rfl (nIl 9)) rfl) (by omega) (by decide)) ?_
        refine t_go (op := o_aload 219 0) (fe_X12_passes 218) (fun _ _ => rfl) ?_
        refine t_go (op := o_getR 222 11 22) (fe_X12_passes 219) (g_getR hS (show (lay 183).1 = 11 by decide) (by decide) (fr_11_22 hS) (by decide)) ?_
        refine t_go (op := o_iload 223 1) (fe_X12_passes 222) (fun _ _ => rfl) ?_
        refine t_go (op := o_ci 225 16) (fe_X12_passes 223) (fun _ _ => rfl) ?_
        refine t_go (op := o_i2 226 (fun x y => x + y)) (fe_X12_passes 225) (fun _ _ => rfl) ?_
        refine t_go (op := o_iload 228 5) (fe_X12_passes 226) (fun _ _ => rfl) ?_
        refine t_go (op := o_i2 229 (fun x y => x + y)) (fe_X12_passes 228) (fun _ _ => rfl) ?_
        refine t_go (op := o_dup2 230) (fe_X12_passes 229) (fun _ _ => rfl) ?_
        refine t_go (op := o_iald 231) (fe_X12_passes 230) (g_ialdN hS (show lay 197 = (20, 966) by decide) (nIa (nIa rfl (nIl 16)) rfl) (by omega) (by decide)) ?_
        rw [show (sI S 197 (b + 9 + i) (wv L lc dc air G i)).1 197 (b + 16 + i) = G.2.2.1 i from ((RB_heat (x := (wv L lc dc air G i)) hBS (show i < 7 by omega)).1 i (by omega)).2.2]
        refine t_go (op := o_iload 232 3) (fe_X12_passes 231) (fun _ _ => rfl) ?_
        refine t_go (op := o_iload 234 5) (fe_X12_passes 232) (fun _ _ => rfl) ?_
        refine t_go (op := o_i2 235 (fun x y => x >>> (y &&& 31))) (fe_X12_passes 234) (fun _ _ => rfl) ?_
        refine t_go (op := o_ci 236 1) (fe_X12_passes 235) (fun _ _ => rfl) ?_
        refine t_go (op := o_i2 237 (fun x y => x &&& y)) (fe_X12_passes 236) (fun _ _ => rfl) ?_
        refine t_ite (op := o_if 244 240 (fun x => x = 0) (fun _ => inferInstance)) (fe_X12_passes 237) g_if (fun c3 => ?_) (fun c3 => ?_)
        · refine t_go (op := o_ci 241 0) (fe_X12_passes 240) (fun _ _ => rfl) ?_
          refine t_go (op := o_goto 260) (fe_X12_passes 241) (fun _ _ => rfl) ?_
          refine t_go (op := o_i2 261 (fun x y => x - y)) (fe_X12_passes 260) (fun _ _ => rfl) ?_
          refine t_go (op := o_iast 262) (fe_X12_passes 261) (g_iastN hS (show lay 197 = (20, 966) by decide) (nIa (nIa rfl (nIl 16)) rfl) (by omega) (by decide)) ?_
          refine t_go (op := o_aload 263 0) (fe_X12_passes 262) (fun _ _ => rfl) ?_
          refine t_go (op := o_getR 266 11 22) (fe_X12_passes 263) (g_getR hS (show (lay 183).1 = 11 by decide) (by decide) (fr_11_22 hS) (by decide)) ?_
          refine t_go (op := o_iload 267 1) (fe_X12_passes 266) (fun _ _ => rfl) ?_
          refine t_go (op := o_ci 269 16) (fe_X12_passes 267) (fun _ _ => rfl) ?_
          refine t_go (op := o_i2 270 (fun x y => x + y)) (fe_X12_passes 269) (fun _ _ => rfl) ?_
          refine t_go (op := o_iload 272 5) (fe_X12_passes 270) (fun _ _ => rfl) ?_
          refine t_go (op := o_i2 273 (fun x y => x + y)) (fe_X12_passes 272) (fun _ _ => rfl) ?_
          refine t_go (op := o_iald 274) (fe_X12_passes 273) (g_ialdN hS (show lay 197 = (20, 966) by decide) (nIa (nIa rfl (nIl 16)) rfl) (by omega) (by decide)) ?_
          rw [show (sI (sI S 197 (b + 9 + i) (wv L lc dc air G i)) 197 (b + 16 + i) (G.2.2.1 i - 0)).1 197 (b + 16 + i) = G.2.2.1 i - 0 from sI_eq]
          refine t_ite (op := o_if 277 293 (fun x => 0 < x) (fun _ => inferInstance)) (fe_X12_passes 274) g_if (fun c4 => ?_) (fun c4 => ?_)
          · refine t_go (op := o_iinc 296 5 1) (fe_X12_passes 293) (fun _ _ => rfl) ?_
            refine t_go (op := o_goto 180) (fe_X12_passes 296) (fun _ _ => rfl) ?_
            have eG : hrS L K lit lc dc air i (G, s) = _ := hr_N (by omega) c2 (fun q => absurd (q.symm.trans c3) (by decide))
            have hk := hr_keep (L := L) (K := K) (lit := lit) (lc := lc) (dc := dc) (air := air) (s := s) hi7 hm hH hL
            have hv := FV_hr (L := L) (K := K) (lit := lit) (lc := lc) (dc := dc) (air := air) (s := s) hV (show i < 7 by omega) (hL i (by omega) hi7)
            rw [it_step, eG] at hq
            rw [eG] at hk hv
            rw [nI_1]
            refine ih (i + 1) _ _ _ (by omega) (Zf_st (Zf_st hz (by constructor <;> omega)) (by constructor <;> omega)) ?_ hv h199 hk.1 hk.2 hq
            have hb3 : RB _ b (G.1, fup G.2.1 i (wv L lc dc air G i), fup G.2.2.1 i (G.2.2.1 i - 0), G.2.2.2) := RB_fuel (RB_heat hBS (show i < 7 by omega)) (show i < 7 by omega)
            rw [show fup G.2.2.1 i (G.2.2.1 i - 0) = G.2.2.1 by rw [Int32.sub_zero]; exact fup_self] at hb3
            exact hb3
          · exact absurd (by obtain ⟨_, _, _, y, _, _, hy1, _, _, _, h8⟩ := FV_in hV (show i < 7 by omega) c2; rw [Int32.sub_zero, h8]; exact nI_lt (a := 0) hy1 (by omega)) c4
        · refine t_go (op := o_aload 245 0) (fe_X12_passes 244) (fun _ _ => rfl) ?_
          refine t_go (op := o_iload 247 5) (fe_X12_passes 245) (fun _ _ => rfl) ?_
          refine t_go (op := o_ci 248 0) (fe_X12_passes 247) (fun _ _ => rfl) ?_
          refine t_call (op := o_callV 251 201 3 11) (fe_X12_passes 248) (g_callV hS (show (lay 183).1 = 11 by decide) (by decide) rfl rfl rfl (Nat.le_of_ble_eq_true rfl)) ?_
          refine M_eq (r_emberOf (by exact hS) (e := i) (w := 0) (by omega)) ?_
          rw [show 4 + 4 * i + 0 = 4 + 4 * i from rfl, show (sI S 197 (b + 9 + i) (wv L lc dc air G i)).1 189 (4 + 4 * i) = K i from hRS.2.2.2.1 i hi7]
          refine t_go (op := o_ci 252 1) (fe_X12_passes 251) (fun _ _ => rfl) ?_
          refine t_ite (op := o_icmp 259 255 (fun x y => x = y) (fun _ _ => inferInstance)) (fe_X12_passes 252) g_icmp (fun c5 => ?_) (fun c5 => ?_)
          · refine t_go (op := o_ci 256 2) (fe_X12_passes 255) (fun _ _ => rfl) ?_
            refine t_go (op := o_goto 260) (fe_X12_passes 256) (fun _ _ => rfl) ?_
            refine t_go (op := o_i2 261 (fun x y => x - y)) (fe_X12_passes 260) (fun _ _ => rfl) ?_
            refine t_go (op := o_iast 262) (fe_X12_passes 261) (g_iastN hS (show lay 197 = (20, 966) by decide) (nIa (nIa rfl (nIl 16)) rfl) (by omega) (by decide)) ?_
            refine t_go (op := o_aload 263 0) (fe_X12_passes 262) (fun _ _ => rfl) ?_
            refine t_go (op := o_getR 266 11 22) (fe_X12_passes 263) (g_getR hS (show (lay 183).1 = 11 by decide) (by decide) (fr_11_22 hS) (by decide)) ?_
            refine t_go (op := o_iload 267 1) (fe_X12_passes 266) (fun _ _ => rfl) ?_
            refine t_go (op := o_ci 269 16) (fe_X12_passes 267) (fun _ _ => rfl) ?_
            refine t_go (op := o_i2 270 (fun x y => x + y)) (fe_X12_passes 269) (fun _ _ => rfl) ?_
            refine t_go (op := o_iload 272 5) (fe_X12_passes 270) (fun _ _ => rfl) ?_
            refine t_go (op := o_i2 273 (fun x y => x + y)) (fe_X12_passes 272) (fun _ _ => rfl) ?_
            refine t_go (op := o_iald 274) (fe_X12_passes 273) (g_ialdN hS (show lay 197 = (20, 966) by decide) (nIa (nIa rfl (nIl 16)) rfl) (by omega) (by decide)) ?_
            rw [show (sI (sI S 197 (b + 9 + i) (wv L lc dc air G i)) 197 (b + 16 + i) (G.2.2.1 i - 2)).1 197 (b + 16 + i) = G.2.2.1 i - 2 from sI_eq]
            refine t_ite (op := o_if 277 293 (fun x => 0 < x) (fun _ => inferInstance)) (fe_X12_passes 274) g_if (fun c6 => ?_) (fun c6 => ?_)
            · refine t_go (op := o_iinc 296 5 1) (fe_X12_passes 293) (fun _ _ => rfl) ?_
              refine t_go (op := o_goto 180) (fe_X12_passes 296) (fun _ _ => rfl) ?_
              have eK : (if K i = 1 then (2 : Int32) else 1) = 2 := if_pos c5
              have hv := FV_hr (L := L) (K := K) (lit := lit) (lc := lc) (dc := dc) (air := air) (s := s) hV (show i < 7 by omega) (hL i (by omega) hi7)
              have hk := hr_keep (L := L) (K := K) (lit := lit) (lc := lc) (dc := dc) (air := air) (s := s) hi7 hm hH hL
              have hb3 := RB_fuel (x := G.2.2.1 i - 2) (RB_heat (x := (wv L lc dc air G i)) hBS (show i < 7 by omega)) (show i < 7 by omega)
              have eG : hrS L K lit lc dc air i (G, s) = _ := hr_B (by omega) c2 (bit_1 c3) (by rw [eK]; exact c6)
              rw [eK] at eG
              rw [it_step, eG] at hq
              rw [eG] at hk hv
              rw [nI_1]
              exact ih (i + 1) _ _ _ (by omega) (Zf_st (Zf_st hz (by constructor <;> omega)) (by constructor <;> omega)) hb3 hv h199 hk.1 hk.2 hq
            · refine t_go (op := o_aload 278 0) (fe_X12_passes 277) (fun _ _ => rfl) ?_
              refine t_go (op := o_iload 279 1) (fe_X12_passes 278) (fun _ _ => rfl) ?_
              refine t_go (op := o_iload 281 5) (fe_X12_passes 279) (fun _ _ => rfl) ?_
              refine t_call (op := o_callV 284 212 3 11) (fe_X12_passes 281) (g_callV hS (show (lay 183).1 = 11 by decide) (by decide) rfl rfl rfl (Nat.le_of_ble_eq_true rfl)) ?_
              have hzV : Zf (blk b) k (sI (sI S 197 (b + 9 + i) (wv L lc dc air G i)) 197 (b + 16 + i) (G.2.2.1 i - 2)) := Zf_st (Zf_st hz (by constructor <;> omega)) (by constructor <;> omega)
              refine M_eq (r_vanishes0 (hR.zf hzV) (RB_fuel (x := G.2.2.1 i - 2) (RB_heat (x := (wv L lc dc air G i)) hBS (show i < 7 by omega)) (show i < 7 by omega)) hb (e := i) (by omega)) ?_
              refine t_go (op := o_iload 286 4) (fe_X12_passes 284) (fun _ _ => rfl) ?_
              refine t_go (op := o_ci 287 1) (fe_X12_passes 286) (fun _ _ => rfl) ?_
              refine t_go (op := o_iload 289 5) (fe_X12_passes 287) (fun _ _ => rfl) ?_
              refine t_go (op := o_i2 290 (fun x y => x <<< (y &&& 31))) (fe_X12_passes 289) (fun _ _ => rfl) ?_
              refine t_go (op := o_i2 291 (fun x y => x ||| y)) (fe_X12_passes 290) (fun _ _ => rfl) ?_
              refine t_go (op := o_istore 293 4) (fe_X12_passes 291) (fun _ _ => rfl) ?_
              refine t_go (op := o_iinc 296 5 1) (fe_X12_passes 293) (fun _ _ => rfl) ?_
              refine t_go (op := o_goto 180) (fe_X12_passes 296) (fun _ _ => rfl) ?_
              have eK : (if K i = 1 then (2 : Int32) else 1) = 2 := if_pos c5
              have hv := FV_hr (L := L) (K := K) (lit := lit) (lc := lc) (dc := dc) (air := air) (s := s) hV (show i < 7 by omega) (hL i (by omega) hi7)
              have hk := hr_keep (L := L) (K := K) (lit := lit) (lc := lc) (dc := dc) (air := air) (s := s) hi7 hm hH hL
              have hb3 := RB_fuel (x := G.2.2.1 i - 2) (RB_heat (x := (wv L lc dc air G i)) hBS (show i < 7 by omega)) (show i < 7 by omega)
              obtain ⟨_, cc, _, _, hcc, _, _, _, hce, _⟩ := FV_in hV (show i < 7 by omega) c2
              have eG : hrS L K lit lc dc air i (G, s) = _ := hr_A hV (by omega) c2 (bit_1 c3) (by rw [eK]; exact c6) hcc hce
              rw [eK] at eG
              rw [it_step, eG] at hq
              rw [eG] at hk hv
              rw [nI_1]
              refine ih (i + 1) _ _ _ (by omega) (Zf_st (Zf_st (Zf_st (Zf_st (Zf_st hz (by constructor <;> omega)) (by constructor <;> omega)) (by constructor <;> omega)) (by constructor <;> omega)) (by constructor <;> omega)) ?_ hv h199 hk.1 hk.2 hq
              exact RB_lies (RB_fuel (x := 0) (RB_heat (x := 0) (RB_cell (x := -1) hb3 (show i < 7 by omega)) (show i < 7 by omega)) (show i < 7 by omega))
          · refine t_go (op := o_ci 260 1) (fe_X12_passes 259) (fun _ _ => rfl) ?_
            refine t_go (op := o_i2 261 (fun x y => x - y)) (fe_X12_passes 260) (fun _ _ => rfl) ?_
            refine t_go (op := o_iast 262) (fe_X12_passes 261) (g_iastN hS (show lay 197 = (20, 966) by decide) (nIa (nIa rfl (nIl 16)) rfl) (by omega) (by decide)) ?_
            refine t_go (op := o_aload 263 0) (fe_X12_passes 262) (fun _ _ => rfl) ?_
            refine t_go (op := o_getR 266 11 22) (fe_X12_passes 263) (g_getR hS (show (lay 183).1 = 11 by decide) (by decide) (fr_11_22 hS) (by decide)) ?_
            refine t_go (op := o_iload 267 1) (fe_X12_passes 266) (fun _ _ => rfl) ?_
            refine t_go (op := o_ci 269 16) (fe_X12_passes 267) (fun _ _ => rfl) ?_
            refine t_go (op := o_i2 270 (fun x y => x + y)) (fe_X12_passes 269) (fun _ _ => rfl) ?_
            refine t_go (op := o_iload 272 5) (fe_X12_passes 270) (fun _ _ => rfl) ?_
            refine t_go (op := o_i2 273 (fun x y => x + y)) (fe_X12_passes 272) (fun _ _ => rfl) ?_
            refine t_go (op := o_iald 274) (fe_X12_passes 273) (g_ialdN hS (show lay 197 = (20, 966) by decide) (nIa (nIa rfl (nIl 16)) rfl) (by omega) (by decide)) ?_
            rw [show (sI (sI S 197 (b + 9 + i) (wv L lc dc air G i)) 197 (b + 16 + i) (G.2.2.1 i - 1)).1 197 (b + 16 + i) = G.2.2.1 i - 1 from sI_eq]
            refine t_ite (op := o_if 277 293 (fun x => 0 < x) (fun _ => inferInstance)) (fe_X12_passes 274) g_if (fun c7 => ?_) (fun c7 => ?_)
            · refine t_go (op := o_iinc 296 5 1) (fe_X12_passes 293) (fun _ _ => rfl) ?_
              refine t_go (op := o_goto 180) (fe_X12_passes 296) (fun _ _ => rfl) ?_
              have eK : (if K i = 1 then (2 : Int32) else 1) = 1 := if_neg c5
              have hv := FV_hr (L := L) (K := K) (lit := lit) (lc := lc) (dc := dc) (air := air) (s := s) hV (show i < 7 by omega) (hL i (by omega) hi7)
              have hk := hr_keep (L := L) (K := K) (lit := lit) (lc := lc) (dc := dc) (air := air) (s := s) hi7 hm hH hL
              have hb3 := RB_fuel (x := G.2.2.1 i - 1) (RB_heat (x := (wv L lc dc air G i)) hBS (show i < 7 by omega)) (show i < 7 by omega)
              have eG : hrS L K lit lc dc air i (G, s) = _ := hr_B (by omega) c2 (bit_1 c3) (by rw [eK]; exact c7)
              rw [eK] at eG
              rw [it_step, eG] at hq
              rw [eG] at hk hv
              rw [nI_1]
              exact ih (i + 1) _ _ _ (by omega) (Zf_st (Zf_st hz (by constructor <;> omega)) (by constructor <;> omega)) hb3 hv h199 hk.1 hk.2 hq
            · refine t_go (op := o_aload 278 0) (fe_X12_passes 277) (fun _ _ => rfl) ?_
              refine t_go (op := o_iload 279 1) (fe_X12_passes 278) (fun _ _ => rfl) ?_
              refine t_go (op := o_iload 281 5) (fe_X12_passes 279) (fun _ _ => rfl) ?_
              refine t_call (op := o_callV 284 212 3 11) (fe_X12_passes 281) (g_callV hS (show (lay 183).1 = 11 by decide) (by decide) rfl rfl rfl (Nat.le_of_ble_eq_true rfl)) ?_
              have hzV : Zf (blk b) k (sI (sI S 197 (b + 9 + i) (wv L lc dc air G i)) 197 (b + 16 + i) (G.2.2.1 i - 1)) := Zf_st (Zf_st hz (by constructor <;> omega)) (by constructor <;> omega)
              refine M_eq (r_vanishes0 (hR.zf hzV) (RB_fuel (x := G.2.2.1 i - 1) (RB_heat (x := (wv L lc dc air G i)) hBS (show i < 7 by omega)) (show i < 7 by omega)) hb (e := i) (by omega)) ?_
              refine t_go (op := o_iload 286 4) (fe_X12_passes 284) (fun _ _ => rfl) ?_
              refine t_go (op := o_ci 287 1) (fe_X12_passes 286) (fun _ _ => rfl) ?_
              refine t_go (op := o_iload 289 5) (fe_X12_passes 287) (fun _ _ => rfl) ?_
              refine t_go (op := o_i2 290 (fun x y => x <<< (y &&& 31))) (fe_X12_passes 289) (fun _ _ => rfl) ?_
              refine t_go (op := o_i2 291 (fun x y => x ||| y)) (fe_X12_passes 290) (fun _ _ => rfl) ?_
              refine t_go (op := o_istore 293 4) (fe_X12_passes 291) (fun _ _ => rfl) ?_
              refine t_go (op := o_iinc 296 5 1) (fe_X12_passes 293) (fun _ _ => rfl) ?_
              refine t_go (op := o_goto 180) (fe_X12_passes 296) (fun _ _ => rfl) ?_
              have eK : (if K i = 1 then (2 : Int32) else 1) = 1 := if_neg c5
              have hv := FV_hr (L := L) (K := K) (lit := lit) (lc := lc) (dc := dc) (air := air) (s := s) hV (show i < 7 by omega) (hL i (by omega) hi7)
              have hk := hr_keep (L := L) (K := K) (lit := lit) (lc := lc) (dc := dc) (air := air) (s := s) hi7 hm hH hL
              have hb3 := RB_fuel (x := G.2.2.1 i - 1) (RB_heat (x := (wv L lc dc air G i)) hBS (show i < 7 by omega)) (show i < 7 by omega)
              obtain ⟨_, cc, _, _, hcc, _, _, _, hce, _⟩ := FV_in hV (show i < 7 by omega) c2
              have eG : hrS L K lit lc dc air i (G, s) = _ := hr_A hV (by omega) c2 (bit_1 c3) (by rw [eK]; exact c7) hcc hce
              rw [eK] at eG
              rw [it_step, eG] at hq
              rw [eG] at hk hv
              rw [nI_1]
              refine ih (i + 1) _ _ _ (by omega) (Zf_st (Zf_st (Zf_st (Zf_st (Zf_st hz (by constructor <;> omega)) (by constructor <;> omega)) (by constructor <;> omega)) (by constructor <;> omega)) (by constructor <;> omega)) ?_ hv h199 hk.1 hk.2 hq
              exact RB_lies (RB_fuel (x := 0) (RB_heat (x := 0) (RB_cell (x := -1) hb3 (show i < 7 by omega)) (show i < 7 by omega)) (show i < 7 by omega))
set_option maxRecDepth 8000 in
theorem l_pass3 {d : Nat} {k : AHP} {m n b : Nat} {K st : Nat → Int32} {C : Int32} (hR : RH k m K C st n) (hb : b + 23 ≤ 966) {x lit s : Int32} {Q : Option Value → AHP → Prop} : ∀ (j i : Nat) (S : AHP) (G : FS), i + j = 12 → Zf (blk b) k S → RB (S.1 197) b G → FV m G → 4 ≤ i → (∀ S2, Zf (blk b) k S2 → RB (S2.1 197) b (it fallS j i G) → FV m (it fallS j i G) → Q (some (.int s)) (sI S2 197 b ((it fallS j i G).2.2.2.2.1 + 1)))  → TT (d + 3) 214 302 [some (.ref 183), some (.int (nI b)), some (.int x), some (.int lit), some (.int s), some (.int (nI i))] [] S Q := by
  intro j
  induction j with
  | zero =>
    intro i S G hi hz hBS hV h4 hq
    have hN : i = 12 := by omega
    have hRS := hR.zf hz
    have hS := hRS.1
    refine t_go (op := o_iload 304 5) (fe_X12_passes 302) (fun _ _ => rfl) ?_
    refine t_go (op := o_ci 306 12) (fe_X12_passes 304) (fun _ _ => rfl) ?_
    refine t_ite (op := o_icmp 309 322 (fun x y => y ≤ x) (fun _ _ => inferInstance)) (fe_X12_passes 306) g_icmp (fun c1 => ?_) (fun c1 => ?_)
    · refine t_go (op := o_aload 323 0) (fe_X12_passes 322) (fun _ _ => rfl) ?_
      refine t_go (op := o_getR 326 11 22) (fe_X12_passes 323) (g_getR hS (show (lay 183).1 = 11 by decide) (by decide) (fr_11_22 hS) (by decide)) ?_
      refine t_go (op := o_iload 327 1) (fe_X12_passes 326) (fun _ _ => rfl) ?_
      refine t_go (op := o_ci 328 0) (fe_X12_passes 327) (fun _ _ => rfl) ?_
      refine t_go (op := o_i2 329 (fun x y => x + y)) (fe_X12_passes 328) (fun _ _ => rfl) ?_
      refine t_go (op := o_dup2 330) (fe_X12_passes 329) (fun _ _ => rfl) ?_
      refine t_go (op := o_iald 331) (fe_X12_passes 330) (g_ialdN hS (show lay 197 = (20, 966) by decide) (nIa rfl (nIl 0)) (by omega) (by decide)) ?_
      rw [show S.1 197 (b + 0) = G.2.2.2.2.1 from hBS.2.1]
      refine t_go (op := o_ci 332 1) (fe_X12_passes 331) (fun _ _ => rfl) ?_
      refine t_go (op := o_i2 333 (fun x y => x + y)) (fe_X12_passes 332) (fun _ _ => rfl) ?_
      refine t_go (op := o_iast 334) (fe_X12_passes 333) (g_iastN hS (show lay 197 = (20, 966) by decide) (nIa rfl (nIl 0)) (by omega) (by decide)) ?_
      refine t_go (op := o_iload 336 4) (fe_X12_passes 334) (fun _ _ => rfl) ?_
      refine t_ret (op := o_iret) (fe_X12_passes 336) (fun _ _ => rfl) ?_
      exact hq S hz hBS hV
    · exact absurd (by rw [hN]; exact Int32.le_refl _) c1
  | succ j ih =>
    intro i S G hi hz hBS hV h4 hq
    have hi7 : i < 12 := by omega
    have hRS := hR.zf hz
    have hS := hRS.1
    refine t_go (op := o_iload 304 5) (fe_X12_passes 302) (fun _ _ => rfl) ?_
    refine t_go (op := o_ci 306 12) (fe_X12_passes 304) (fun _ _ => rfl) ?_
    refine t_ite (op := o_icmp 309 322 (fun x y => y ≤ x) (fun _ _ => inferInstance)) (fe_X12_passes 306) g_icmp (fun c1 => ?_) (fun c1 => ?_)
    · exact absurd c1 (nI_ge hi7 (by decide))
    · refine t_go (op := o_aload 310 0) (fe_X12_passes 309) (fun _ _ => rfl) ?_
      refine t_go (op := o_iload 311 1) (fe_X12_passes 310) (fun _ _ => rfl) ?_
      refine t_go (op := o_iload 313 5) (fe_X12_passes 311) (fun _ _ => rfl) ?_
      refine t_call (op := o_callV 316 211 3 11) (fe_X12_passes 313) (g_callV hS (show (lay 183).1 = 11 by decide) (by decide) rfl rfl rfl (Nat.le_of_ble_eq_true rfl)) ?_
      refine M_mono ?_ (r_falls hRS hV hBS hb (c := i) h4 (by omega))
      rintro _ h2 ⟨rfl, hz2, hB2⟩
      refine t_go (op := o_iinc 319 5 1) (fe_X12_passes 316) (fun _ _ => rfl) ?_
      refine t_go (op := o_goto 302) (fe_X12_passes 319) (fun _ _ => rfl) ?_
      rw [it_step] at hq
      rw [nI_1]
      exact ih (i + 1) h2 (fallS i G) (by omega) (hz.tr hz2) hB2 (FV_fall hV h4 (by omega)) (by omega) hq
