/-! ===== the reference reads a grate: what was read becomes the grate ===== -/
/-- what the copying changes -/
def Gc (h S : AHP) : Prop := S.2.2 = h.2.2 ∧ (∀ a, a ≠ 192 → S.2.1 a = h.2.1 a) ∧ (∀ a, a ≠ 189 → a ≠ 190 → a ≠ 191 → S.1 a = h.1 a) ∧ (∀ j, 50 ≤ j → S.1 189 j = h.1 189 j) ∧ ∀ j, 1100 ≤ j → S.1 190 j = h.1 190 j ∧ S.1 191 j = h.1 191 j
theorem Gc.rf {h : AHP} : Gc h h := ⟨rfl, fun _ _ => rfl, fun _ _ _ _ => rfl, fun _ _ => rfl, fun _ _ => ⟨rfl, rfl⟩⟩
theorem Gc.std {h S : AHP} (hg : Gc h S) (hS : Std h) : Std S := ⟨by rw [hg.1]; exact hS.1, fun q hq => by rw [hg.1]; exact hS.2 q hq⟩
theorem Gc.s9 {h S : AHP} {k : Nat} {x : Int32} (hg : Gc h S) (hk : k < 50) : Gc h (sI S 189 k x) := ⟨hg.1, hg.2.1, fun a q1 q2 q3 => by rw [sI_ne q1]; exact hg.2.2.1 a q1 q2 q3, fun j hj => by rw [sI_nr (by omega)]; exact hg.2.2.2.1 j hj, fun j hj => by rw [sI_ne (by decide), sI_ne (by decide)]; exact hg.2.2.2.2 j hj⟩
theorem Gc.s0 {h S : AHP} {k : Nat} {x y : Int32} (hg : Gc h S) (hk : k < 1100) : Gc h (sI (sI S 190 k x) 191 k y) := ⟨hg.1, hg.2.1, fun a q1 q2 q3 => by rw [sI_ne q3, sI_ne q2]; exact hg.2.2.1 a q1 q2 q3, fun j hj => by rw [sI_ne (by decide), sI_ne (by decide)]; exact hg.2.2.2.1 j hj, fun j hj => by rw [sI_ne (a := 191) (b := 190) (by decide), sI_nr (by omega), sI_nr (by omega), sI_ne (by decide)]; exact hg.2.2.2.2 j hj⟩
theorem Gc.sj {h S : AHP} {k : Nat} {x : Int64} (hg : Gc h S) : Gc h (sJ S 192 k x) := ⟨hg.1, fun a ha => by rw [← hg.2.1 a ha]; exact up2_ne ha, hg.2.2.1, hg.2.2.2.1, hg.2.2.2.2⟩
set_option maxRecDepth 8000 in
theorem lr_gc1 {d : Nat} {h : AHP} (hS0 : Std h) {Q : Option Value → AHP → Prop} : ∀ (j i : Nat) (S : AHP), i + j = 50 → Gc h S → (∀ j, j < i → S.1 189 j = h.1 189 (50 + j)) → (∀ S2 x1, Gc h S2 → (∀ j, j < 50 → S2.1 189 j = h.1 189 (50 + j)) → TT (d + 37) 182 118 [some (.ref 183), x1] [] S2 Q) → TT (d + 37) 182 91 [some (.ref 183), some (.int (nI i))] [] S Q := by
  intro j
  induction j with
  | zero =>
    intro i S hi hg hc hq
    have hN : i = 50 := by omega
    have hS := hg.std hS0
    refine t_go (op := o_iload 92 1) (fe_X12_grate 91) (fun _ _ => rfl) ?_
    refine t_go (op := o_ci 94 50) (fe_X12_grate 92) (fun _ _ => rfl) ?_
    refine t_ite (op := o_icmp 97 118 (fun x y => y ≤ x) (fun _ _ => inferInstance)) (fe_X12_grate 94) g_icmp (fun c1 => ?_) (fun c1 => ?_)
    · exact hq _ _ hg (fun j hj => hc j (by omega))
    · exact absurd (by rw [hN]; exact Int32.le_refl _) c1
  | succ j ih =>
    intro i S hi hg hc hq
    have hi7 : i < 50 := by omega
    have hS := hg.std hS0
    refine t_go (op := o_iload 92 1) (fe_X12_grate 91) (fun _ _ => rfl) ?_
    refine t_go (op := o_ci 94 50) (fe_X12_grate 92) (fun _ _ => rfl) ?_
    refine t_ite (op := o_icmp 97 118 (fun x y => y ≤ x) (fun _ _ => inferInstance)) (fe_X12_grate 94) g_icmp (fun c1 => ?_) (fun c1 => ?_)
    · exact absurd c1 (nI_ge hi7 (by decide))
    · refine t_go (op := o_aload 98 0) (fe_X12_grate 97) (fun _ _ => rfl) ?_
      refine t_go (op := o_getR 101 11 10) (fe_X12_grate 98) (g_getR hS (show (lay 183).1 = 11 by decide) (by decide) (fr_11_10 hS) (by decide)) ?_
      refine t_go (op := o_iload 102 1) (fe_X12_grate 101) (fun _ _ => rfl) ?_
      refine t_go (op := o_aload 103 0) (fe_X12_grate 102) (fun _ _ => rfl) ?_
      refine t_go (op := o_getR 106 11 10) (fe_X12_grate 103) (g_getR hS (show (lay 183).1 = 11 by decide) (by decide) (fr_11_10 hS) (by decide)) ?_
      refine t_go (op := o_ci 108 50) (fe_X12_grate 106) (fun _ _ => rfl) ?_
      refine t_go (op := o_iload 109 1) (fe_X12_grate 108) (fun _ _ => rfl) ?_
      refine t_go (op := o_i2 110 (fun x y => x + y)) (fe_X12_grate 109) (fun _ _ => rfl) ?_
      refine t_go (op := o_iald 111) (fe_X12_grate 110) (g_ialdN hS (show lay 189 = (20, 100) by decide) (nIa (nIl 50) rfl) (by omega) (by decide)) ?_
      refine t_go (op := o_iast 112) (fe_X12_grate 111) (g_iastN hS (show lay 189 = (20, 100) by decide) rfl (by omega) (by decide)) ?_
      refine t_go (op := o_iinc 115 1 1) (fe_X12_grate 112) (fun _ _ => rfl) ?_
      refine t_go (op := o_goto 91) (fe_X12_grate 115) (fun _ _ => rfl) ?_
      rw [nI_1]
      exact ih (i + 1) _ (by omega) (hg.s9 hi7) (fun j hj => by
        by_cases q : j = i
        · subst q; rw [sI_eq]; exact hg.2.2.2.1 _ (by omega)
        · rw [sI_nr q]; exact hc j (by omega)) hq
set_option maxRecDepth 8000 in
theorem lr_gc2 {d : Nat} {h : AHP} (hS0 : Std h) {c : Nat} (hc13 : h.1 183 13 = nI c) (hcb : c ≤ 1001) {Q : Option Value → AHP → Prop} : ∀ (j i : Nat) (S : AHP) (T : AHP), i + j = c → Gc h S → (∀ j, S.1 189 j = T.1 189 j) → (∀ j, j < i → S.1 190 j = h.1 190 (1100 + j) ∧ S.1 191 j = h.1 191 (1100 + j)) → (∀ S2 x1, Gc h S2 → (∀ j, S2.1 189 j = T.1 189 j) → (∀ j, j < c → S2.1 190 j = h.1 190 (1100 + j) ∧ S2.1 191 j = h.1 191 (1100 + j)) → TT (d + 37) 182 166 [some (.ref 183), x1] [] S2 Q) → TT (d + 37) 182 120 [some (.ref 183), some (.int (nI i))] [] S Q := by
  intro j
  induction j with
  | zero =>
    intro i S T hi hg h9 hc hq
    have hN : i = c := by omega
    have hS := hg.std hS0
    refine t_go (op := o_iload 121 1) (fe_X12_grate 120) (fun _ _ => rfl) ?_
    refine t_go (op := o_aload 122 0) (fe_X12_grate 121) (fun _ _ => rfl) ?_
    refine t_go (op := o_getI 125 11 13) (fe_X12_grate 122) (g_getI hS (show (lay 183).1 = 11 by decide) (by decide)) ?_
    rw [show S.1 183 13 = nI c from (congrFun (hg.2.2.1 183 (by decide) (by decide) (by decide)) 13).trans hc13]
    refine t_ite (op := o_icmp 128 166 (fun x y => y ≤ x) (fun _ _ => inferInstance)) (fe_X12_grate 125) g_icmp (fun c1 => ?_) (fun c1 => ?_)
    · exact hq _ _ hg h9 (fun j hj => hc j (by omega))
    · exact absurd (by rw [hN]; exact Int32.le_refl _) c1
  | succ j ih =>
    intro i S T hi hg h9 hc hq
    have hi7 : i < c := by omega
    have hS := hg.std hS0
    refine t_go (op := o_iload 121 1) (fe_X12_grate 120) (fun _ _ => rfl) ?_
    refine t_go (op := o_aload 122 0) (fe_X12_grate 121) (fun _ _ => rfl) ?_
    refine t_go (op := o_getI 125 11 13) (fe_X12_grate 122) (g_getI hS (show (lay 183).1 = 11 by decide) (by decide)) ?_
    rw [show S.1 183 13 = nI c from (congrFun (hg.2.2.1 183 (by decide) (by decide) (by decide)) 13).trans hc13]
    refine t_ite (op := o_icmp 128 166 (fun x y => y ≤ x) (fun _ _ => inferInstance)) (fe_X12_grate 125) g_icmp (fun c1 => ?_) (fun c1 => ?_)
    · exact absurd c1 (nI_ge hi7 (by omega))
    · refine t_go (op := o_aload 129 0) (fe_X12_grate 128) (fun _ _ => rfl) ?_
      refine t_go (op := o_getR 132 11 11) (fe_X12_grate 129) (g_getR hS (show (lay 183).1 = 11 by decide) (by decide) (fr_11_11 hS) (by decide)) ?_
      refine t_go (op := o_iload 133 1) (fe_X12_grate 132) (fun _ _ => rfl) ?_
      refine t_go (op := o_aload 134 0) (fe_X12_grate 133) (fun _ _ => rfl) ?_
      refine t_go (op := o_getR 137 11 11) (fe_X12_grate 134) (g_getR hS (show (lay 183).1 = 11 by decide) (by decide) (fr_11_11 hS) (by decide)) ?_
      refine t_go (op := o_ci 140 1100) (fe_X12_grate 137) (fun _ _ => rfl) ?_
      refine t_go (op := o_iload 141 1) (fe_X12_grate 140) (fun _ _ => rfl) ?_
      refine t_go (op := o_i2 142 (fun x y => x + y)) (fe_X12_grate 141) (fun _ _ => rfl) ?_
      refine t_go (op := o_iald 143) (fe_X12_grate 142) (g_ialdN hS (show lay 190 = (20, 2200) by decide) (nIa (nIl 1100) rfl) (by omega) (by decide)) ?_
      refine t_go (op := o_iast 144) (fe_X12_grate 143) (g_iastN hS (show lay 190 = (20, 2200) by decide) rfl (by omega) (by decide)) ?_
      refine t_go (op := o_aload 145 0) (fe_X12_grate 144) (fun _ _ => rfl) ?_
      refine t_go (op := o_getR 148 11 12) (fe_X12_grate 145) (g_getR hS (show (lay 183).1 = 11 by decide) (by decide) (fr_11_12 hS) (by decide)) ?_
      refine t_go (op := o_iload 149 1) (fe_X12_grate 148) (fun _ _ => rfl) ?_
      refine t_go (op := o_aload 150 0) (fe_X12_grate 149) (fun _ _ => rfl) ?_
      refine t_go (op := o_getR 153 11 12) (fe_X12_grate 150) (g_getR hS (show (lay 183).1 = 11 by decide) (by decide) (fr_11_12 hS) (by decide)) ?_
      refine t_go (op := o_ci 156 1100) (fe_X12_grate 153) (fun _ _ => rfl) ?_
      refine t_go (op := o_iload 157 1) (fe_X12_grate 156) (fun _ _ => rfl) ?_
      refine t_go (op := o_i2 158 (fun x y => x + y)) (fe_X12_grate 157) (fun _ _ => rfl) ?_
      refine t_go (op := o_iald 159) (fe_X12_grate 158) (g_ialdN hS (show lay 191 = (20, 2200) by decide) (nIa (nIl 1100) rfl) (by omega) (by decide)) ?_
      refine t_go (op := o_iast 160) (fe_X12_grate 159) (g_iastN hS (show lay 191 = (20, 2200) by decide) rfl (by omega) (by decide)) ?_
      refine t_go (op := o_iinc 163 1 1) (fe_X12_grate 160) (fun _ _ => rfl) ?_
      refine t_go (op := o_goto 120) (fe_X12_grate 163) (fun _ _ => rfl) ?_
      rw [nI_1]
      rw [show (sI S 190 i (S.1 190 (1100 + i))).1 191 (1100 + i) = S.1 191 (1100 + i) from congrFun (sI_ne (by decide)) _]
      exact ih (i + 1) _ T (by omega) (hg.s0 (by omega)) (fun j => by rw [sI_ne (by decide), sI_ne (by decide)]; exact h9 j) (fun j hj => by
        rw [sI_ne (a := 191) (b := 190) (by decide)]
        by_cases q : j = i
        · subst q; rw [sI_eq, sI_eq]; exact ⟨(hg.2.2.2.2 _ (by omega)).1, (hg.2.2.2.2 _ (by omega)).2⟩
        · rw [sI_nr q, sI_nr q, sI_ne (by decide)]; exact hc j (by omega)) hq
set_option maxRecDepth 8000 in
theorem lr_gc3 {d : Nat} {h : AHP} (hS0 : Std h) {m : Nat} (hm : h.1 183 17 = nI m) (hm7 : m ≤ 7) {Q : Option Value → AHP → Prop} : ∀ (j i : Nat) (S : AHP) (T : AHP), i + j = m → Gc h S → S.1 = T.1 → (∀ j, j < i → S.2.1 192 j = h.2.1 193 j) → (∀ S2 x1, Gc h S2 → S2.1 = T.1 → (∀ j, j < m → S2.2.1 192 j = h.2.1 193 j) → TT (d + 37) 182 194 [some (.ref 183), x1] [] S2 Q) → TT (d + 37) 182 168 [some (.ref 183), some (.int (nI i))] [] S Q := by
  intro j
  induction j with
  | zero =>
    intro i S T hi hg h9 hc hq
    have hN : i = m := by omega
    have hS := hg.std hS0
    refine t_go (op := o_iload 169 1) (fe_X12_grate 168) (fun _ _ => rfl) ?_
    refine t_go (op := o_aload 170 0) (fe_X12_grate 169) (fun _ _ => rfl) ?_
    refine t_go (op := o_getI 173 11 17) (fe_X12_grate 170) (g_getI hS (show (lay 183).1 = 11 by decide) (by decide)) ?_
    rw [show S.1 183 17 = nI m from (congrFun (hg.2.2.1 183 (by decide) (by decide) (by decide)) 17).trans hm]
    refine t_ite (op := o_icmp 176 194 (fun x y => y ≤ x) (fun _ _ => inferInstance)) (fe_X12_grate 173) g_icmp (fun c1 => ?_) (fun c1 => ?_)
    · exact hq _ _ hg h9 (fun j hj => hc j (by omega))
    · exact absurd (by rw [hN]; exact Int32.le_refl _) c1
  | succ j ih =>
    intro i S T hi hg h9 hc hq
    have hi7 : i < m := by omega
    have hS := hg.std hS0
    refine t_go (op := o_iload 169 1) (fe_X12_grate 168) (fun _ _ => rfl) ?_
    refine t_go (op := o_aload 170 0) (fe_X12_grate 169) (fun _ _ => rfl) ?_
    refine t_go (op := o_getI 173 11 17) (fe_X12_grate 170) (g_getI hS (show (lay 183).1 = 11 by decide) (by decide)) ?_
    rw [show S.1 183 17 = nI m from (congrFun (hg.2.2.1 183 (by decide) (by decide) (by decide)) 17).trans hm]
    refine t_ite (op := o_icmp 176 194 (fun x y => y ≤ x) (fun _ _ => inferInstance)) (fe_X12_grate 173) g_icmp (fun c1 => ?_) (fun c1 => ?_)
    · exact absurd c1 (nI_ge hi7 (by omega))
    · refine t_go (op := o_aload 177 0) (fe_X12_grate 176) (fun _ _ => rfl) ?_
      refine t_go (op := o_getR 180 11 14) (fe_X12_grate 177) (g_getR hS (show (lay 183).1 = 11 by decide) (by decide) (fr_11_14 hS) (by decide)) ?_
      refine t_go (op := o_iload 181 1) (fe_X12_grate 180) (fun _ _ => rfl) ?_
      refine t_go (op := o_aload 182 0) (fe_X12_grate 181) (fun _ _ => rfl) ?_
      refine t_go (op := o_getR 185 11 15) (fe_X12_grate 182) (g_getR hS (show (lay 183).1 = 11 by decide) (by decide) (fr_11_15 hS) (by decide)) ?_
      refine t_go (op := o_iload 186 1) (fe_X12_grate 185) (fun _ _ => rfl) ?_
      refine t_go (op := o_lald 187) (fe_X12_grate 186) (g_laldN hS (show lay 193 = (21, 7) by decide) rfl (by omega) (by decide)) ?_
      refine t_go (op := o_last 188) (fe_X12_grate 187) (g_lastN hS (show lay 192 = (21, 7) by decide) rfl (by omega) (by decide)) ?_
      refine t_go (op := o_iinc 191 1 1) (fe_X12_grate 188) (fun _ _ => rfl) ?_
      refine t_go (op := o_goto 168) (fe_X12_grate 191) (fun _ _ => rfl) ?_
      rw [nI_1]
      exact ih (i + 1) _ T (by omega) hg.sj h9 (fun j hj => by
        by_cases q : j = i
        · subst q
          exact (show (sJ S 192 j (S.2.1 193 j)).2.1 192 j = S.2.1 193 j by simp [sJ, up2]).trans (congrFun (hg.2.1 193 (by decide)) j)
        · exact (show (sJ S 192 i (S.2.1 193 i)).2.1 192 j = S.2.1 192 j by simp [sJ, up2, q]).trans (hc j (by omega))) hq
set_option maxRecDepth 8000 in
theorem r_g77F {d : Nat} {h : AHP} {TK : Nat → Tk} {n i f : Nat} (hR : RQ h TK n) (hi : i ≤ n) (hf : f < 100000) (h0 : ¬ f = 0) {x1 : Option Value} {Q : Option Value → AHP → Prop} (hq : Q (some (.int (nI f))) (AT h i f)) : TT (d + 37) 182 77 [some (.ref 183), x1] [] (AT h i f) Q := by
  have hS := hR.1
  have hB := hR.2.2.2.1
  have hn := hR.2.2.1
  refine t_go (op := o_aload 78 0) (fe_X12_grate 77) (fun _ _ => rfl) ?_
  refine t_go (op := o_getI 81 11 8) (fe_X12_grate 78) (g_getI hS (show (lay 183).1 = 11 by decide) (by decide)) ?_
  rw [show (AT h i f).1 183 8 = nI f from AT_8]
  refine t_ite (op := o_if 84 89 (fun x => x ≤ 0) (fun _ => inferInstance)) (fe_X12_grate 81) g_if (fun c1 => ?_) (fun c1 => ?_)
  · exact absurd ((le_0 hf).mp c1) h0
  · refine t_go (op := o_aload 85 0) (fe_X12_grate 84) (fun _ _ => rfl) ?_
    refine t_go (op := o_getI 88 11 8) (fe_X12_grate 85) (g_getI hS (show (lay 183).1 = 11 by decide) (by decide)) ?_
    rw [show (AT h i f).1 183 8 = nI f from AT_8]
    refine t_ret (op := o_iret) (fe_X12_grate 88) (fun _ _ => rfl) ?_
    exact hq
set_option maxRecDepth 8000 in
theorem r_g77Y {d : Nat} {h : AHP} {x1 : Option Value} (hS : Std h) (h8 : h.1 183 8 = nI 0) {Q : Option Value → AHP → Prop} (hq : TT (d + 37) 182 91 [some (.ref 183), some (.int (nI 0))] [] h Q) : TT (d + 37) 182 77 [some (.ref 183), x1] [] h Q := by
  refine t_go (op := o_aload 78 0) (fe_X12_grate 77) (fun _ _ => rfl) ?_
  refine t_go (op := o_getI 81 11 8) (fe_X12_grate 78) (g_getI hS (show (lay 183).1 = 11 by decide) (by decide)) ?_
  rw [h8]
  refine t_ite (op := o_if 84 89 (fun x => x ≤ 0) (fun _ => inferInstance)) (fe_X12_grate 81) g_if (fun c1 => ?_) (fun c1 => ?_)
  · refine t_go (op := o_ci 90 0) (fe_X12_grate 89) (fun _ _ => rfl) ?_
    refine t_go (op := o_istore 91 1) (fe_X12_grate 90) (fun _ _ => rfl) ?_
    exact hq
  · exact absurd (Int32.le_refl _) c1
set_option maxRecDepth 8000 in
theorem r_g118 {d : Nat} {h : AHP} {x1 : Option Value} (hS : Std h) {Q : Option Value → AHP → Prop} (hq : TT (d + 37) 182 120 [some (.ref 183), some (.int (nI 0))] [] h Q) : TT (d + 37) 182 118 [some (.ref 183), x1] [] h Q := by
  refine t_go (op := o_ci 119 0) (fe_X12_grate 118) (fun _ _ => rfl) ?_
  refine t_go (op := o_istore 120 1) (fe_X12_grate 119) (fun _ _ => rfl) ?_
  exact hq
set_option maxRecDepth 8000 in
theorem r_g166 {d : Nat} {h : AHP} {x1 : Option Value} (hS : Std h) {Q : Option Value → AHP → Prop} (hq : TT (d + 37) 182 168 [some (.ref 183), some (.int (nI 0))] [] h Q) : TT (d + 37) 182 166 [some (.ref 183), x1] [] h Q := by
  refine t_go (op := o_ci 167 0) (fe_X12_grate 166) (fun _ _ => rfl) ?_
  refine t_go (op := o_istore 168 1) (fe_X12_grate 167) (fun _ _ => rfl) ?_
  exact hq
set_option maxRecDepth 8000 in
theorem r_g194 {d : Nat} {h : AHP} {x1 : Option Value} {m : Nat} {P : AHP → Prop} (hS : Std h) (hm : h.1 183 17 = nI m) (hM : MM (d + 36) 198 [.ref 183] (sI h 183 16 (nI m)) (fun v h2 => v = none ∧ P h2)) {Q : Option Value → AHP → Prop} (hq : ∀ h2, P h2 → Q (some (.int 0)) h2) : TT (d + 37) 182 194 [some (.ref 183), x1] [] h Q := by
  refine t_go (op := o_aload 195 0) (fe_X12_grate 194) (fun _ _ => rfl) ?_
  refine t_go (op := o_aload 196 0) (fe_X12_grate 195) (fun _ _ => rfl) ?_
  refine t_go (op := o_getI 199 11 17) (fe_X12_grate 196) (g_getI hS (show (lay 183).1 = 11 by decide) (by decide)) ?_
  rw [hm]
  refine t_go (op := o_putI 202 11 16) (fe_X12_grate 199) (g_putI hS (show (lay 183).1 = 11 by decide) (by decide)) ?_
  refine t_go (op := o_aload 203 0) (fe_X12_grate 202) (fun _ _ => rfl) ?_
  refine t_call (op := o_callV 206 198 1 11) (fe_X12_grate 203) (g_callV hS (show (lay 183).1 = 11 by decide) (by decide) rfl rfl rfl (Nat.le_of_ble_eq_true rfl)) ?_
  refine M_mono ?_ hM
  rintro _ h2 ⟨rfl, hP⟩
  refine t_go (op := o_ci 207 0) (fe_X12_grate 206) (fun _ _ => rfl) ?_
  refine t_ret (op := o_iret) (fe_X12_grate 207) (fun _ _ => rfl) ?_
  exact hq _ hP
/-- what the reference does with what was read -/
def GQ (h h2 : AHP) (m c : Nat) (F : FS) : Prop := h2.2.2 = h.2.2 ∧ (∀ a, a ≠ 192 → h2.2.1 a = h.2.1 a) ∧ (∀ a, zRow a → a ≠ 189 → a ≠ 190 → a ≠ 191 → a ≠ 194 → a ≠ 198 → h2.1 a = h.1 a) ∧ (∀ i, i ≠ 0 → i ≠ 16 → i ≠ 23 → h2.1 183 i = h.1 183 i) ∧ (∀ j, j < 50 → h2.1 189 j = h.1 189 (50 + j)) ∧ (∀ j, j < c → h2.1 190 j = h.1 190 (1100 + j) ∧ h2.1 191 j = h.1 191 (1100 + j)) ∧ (∀ j, j < m → h2.2.1 192 j = h.2.1 193 j) ∧ h2.1 183 16 = nI m ∧ RB (h2.1 197) 0 F ∧ h2.1 197 23 = 0 ∧ h2.1 194 0 = 0 ∧ h2.1 183 23 = 0 ∧ ∀ q, q < 4 → h2.1 198 q = 0
theorem r_gfin {d : Nat} {h : AHP} {x1 : Option Value} {m c : Nat} {F : FS} {Q : Option Value → AHP → Prop} (hS : Std h) (h8 : h.1 183 8 = nI 0) (h13 : h.1 183 13 = nI c) (hc : c ≤ 1001) (hm : h.1 183 17 = nI m) (hm7 : m ≤ 7) (h50 : h.1 189 50 = nI m) (hG : ∀ k, (∀ j, j < 50 → k.1 189 j = h.1 189 (50 + j)) → RG k m F) (hq : ∀ h2, GQ h h2 m c F → Q (some (.int 0)) h2) : TT (d + 37) 182 77 [some (.ref 183), x1] [] h Q := by
  refine r_g77Y hS h8 ?_
  refine lr_gc1 hS 50 0 h (by omega) Gc.rf (fun j hj => absurd hj (Nat.not_lt_zero _)) (fun S2 y1 g1 e1 => ?_)
  refine r_g118 (g1.std hS) ?_
  refine lr_gc2 hS h13 hc c 0 S2 S2 (by omega) g1 (fun _ => rfl) (fun j hj => absurd hj (Nat.not_lt_zero _)) (fun S3 y2 g2 e2 e3 => ?_)
  refine r_g166 (g2.std hS) ?_
  refine lr_gc3 hS hm hm7 m 0 S3 S3 (by omega) g2 rfl (fun j hj => absurd hj (Nat.not_lt_zero _)) (fun S4 y3 g3 e4 e5 => ?_)
  have e9 : ∀ j, j < 50 → S4.1 189 j = h.1 189 (50 + j) := fun j hj => by rw [e4, e2 j]; exact e1 j hj
  have hm4 : S4.1 183 17 = nI m := (congrFun (g3.2.2.1 183 (by decide) (by decide) (by decide)) 17).trans hm
  refine r_g194 (g3.std hS) hm4 (r_begins (d := d + 34) (k := sI S4 183 16 (nI m)) (m := m) (F := F) (g3.std hS) (by rw [sI_ne (by decide), e9 0 (by decide)]; exact h50) hm7 (hG _ (fun j hj => by rw [sI_ne (by decide)]; exact e9 j hj))) (fun h2 hP => hq h2 ?_)
  obtain ⟨b1, b2, b3, b4, b5, b6, b7, b8⟩ := hP
  refine ⟨by rw [b1]; exact g3.1, fun a ha => by rw [b1]; exact g3.2.1 a ha, fun a z h1 h3 h4 h5 h6 => by rw [b2 a z h5 h6, sI_ne (by unfold zRow at z; omega)]; exact g3.2.2.1 a h1 h3 h4, fun i h1 h3 h4 => by rw [b3 i h1 h4, sI_nr h3]; exact congrFun (g3.2.2.1 183 (by decide) (by decide) (by decide)) i, fun j hj => ?_, fun j hj => ?_, fun j hj => by rw [b1]; exact e5 j hj, by rw [b3 16 (by decide) (by decide), sI_eq], b4, b5, b6, b7, b8⟩
  · rw [b2 189 (by unfold zRow; omega) (by decide) (by decide), sI_ne (by decide)]; exact e9 j hj
  · rw [b2 190 (by unfold zRow; omega) (by decide) (by decide), b2 191 (by unfold zRow; omega) (by decide) (by decide), sI_ne (by decide), sI_ne (by decide), e4]; exact e3 j hj
def s50 (r : Nat → Int32) (i : Nat) : Nat → Int32 := fun j => if 50 ≤ j ∧ j < 50 + i then 0 else r j
theorem lr_sa {d : Nat} {h : AHP} {r : Nat → Int32} (hS0 : Std h) {Q : Option Value → AHP → Prop} : ∀ (j i : Nat) (_ : Unit), i + j = 50 → TT d 174 23 [some (.ref 183), some (.int (nI 50)), some (.int (nI 50))] [] (rowI h 189 (s50 r 50)) Q → TT d 174 2 [some (.ref 183), some (.int (nI 50)), some (.int (nI i))] [] (rowI h 189 (s50 r i)) Q := by
  intro j
  induction j with
  | zero =>
    intro i _ hi  hq
    have hN : i = 50 := by omega
    have hS : Std (rowI h 189 (s50 r i)) := hS0
    refine t_go (op := o_iload 3 2) (fe_X12_standsAsAlways 2) (fun _ _ => rfl) ?_
    refine t_go (op := o_ci 5 50) (fe_X12_standsAsAlways 3) (fun _ _ => rfl) ?_
    refine t_ite (op := o_icmp 8 23 (fun x y => y ≤ x) (fun _ _ => inferInstance)) (fe_X12_standsAsAlways 5) g_icmp (fun c1 => ?_) (fun c1 => ?_)
    · rw [hN]
      exact hq
    · exact absurd (by rw [hN]; exact Int32.le_refl _) c1
  | succ j ih =>
    intro i _ hi  hq
    have hi7 : i < 50 := by omega
    have hS : Std (rowI h 189 (s50 r i)) := hS0
    refine t_go (op := o_iload 3 2) (fe_X12_standsAsAlways 2) (fun _ _ => rfl) ?_
    refine t_go (op := o_ci 5 50) (fe_X12_standsAsAlways 3) (fun _ _ => rfl) ?_
    refine t_ite (op := o_icmp 8 23 (fun x y => y ≤ x) (fun _ _ => inferInstance)) (fe_X12_standsAsAlways 5) g_icmp (fun c1 => ?_) (fun c1 => ?_)
    · exact absurd c1 (nI_ge hi7 (by decide))
    · refine t_go (op := o_aload 9 0) (fe_X12_standsAsAlways 8) (fun _ _ => rfl) ?_
      refine t_go (op := o_getR 12 11 10) (fe_X12_standsAsAlways 9) (g_getR hS (show (lay 183).1 = 11 by decide) (by decide) (fr_11_10 hS) (by decide)) ?_
      refine t_go (op := o_iload 13 1) (fe_X12_standsAsAlways 12) (fun _ _ => rfl) ?_
      refine t_go (op := o_iload 14 2) (fe_X12_standsAsAlways 13) (fun _ _ => rfl) ?_
      refine t_go (op := o_i2 15 (fun x y => x + y)) (fe_X12_standsAsAlways 14) (fun _ _ => rfl) ?_
      refine t_go (op := o_ci 16 0) (fe_X12_standsAsAlways 15) (fun _ _ => rfl) ?_
      refine t_go (op := o_iast 17) (fe_X12_standsAsAlways 16) (g_iastN hS (show lay 189 = (20, 100) by decide) (nIa rfl rfl) (by omega) (by decide)) ?_
      refine t_go (op := o_iinc 20 2 1) (fe_X12_standsAsAlways 17) (fun _ _ => rfl) ?_
      refine t_go (op := o_goto 2) (fe_X12_standsAsAlways 20) (fun _ _ => rfl) ?_
      rw [nI_1]
      refine T_heap (show rowI h 189 (s50 r (i + 1)) = sI (rowI h 189 (s50 r i)) 189 (50 + i) 0 from ?_) (ih (i + 1) () (by omega) hq)
      rw [rowI_up]
      congr 1
      funext j
      unfold s50 fup
      dsimp only
      by_cases q : j = 50 + i
      · rw [if_pos (by omega), if_pos q]
      · rw [if_neg q]
        by_cases q2 : 50 ≤ j ∧ j < 50 + i
        · rw [if_pos (by omega), if_pos q2]
        · rw [if_neg (by omega), if_neg q2]
theorem r_sa {d : Nat} {h : AHP} (hS : Std h) : MM d 174 [.ref 183, .int (nI 50)] h (fun v h2 => v = none ∧ h2 = (rowI h 189 (fup (fup (fup (s50 (h.1 189) 50) 51 1) 52 5) 53 (-1)))) := by
  refine ⟨Nat.le_of_ble_eq_true rfl, ?_⟩
  refine t_go (op := o_ci 1 0) (fe_X12_standsAsAlways 0) (fun _ _ => rfl) ?_
  refine t_go (op := o_istore 2 2) (fe_X12_standsAsAlways 1) (fun _ _ => rfl) ?_
  refine T_heap (show rowI h 189 (s50 (h.1 189) 0) = h from ?_) (lr_sa hS 50 0 () (by omega) ?_)
  · rw [show s50 (h.1 189) 0 = h.1 189 from funext fun j => if_neg (by omega)]; exact rowI_id
  refine t_go (op := o_aload 24 0) (fe_X12_standsAsAlways 23) (fun _ _ => rfl) ?_
  refine t_go (op := o_getR 27 11 10) (fe_X12_standsAsAlways 24) (g_getR hS (show (lay 183).1 = 11 by decide) (by decide) (fr_11_10 hS) (by decide)) ?_
  refine t_go (op := o_iload 28 1) (fe_X12_standsAsAlways 27) (fun _ _ => rfl) ?_
  refine t_go (op := o_ci 29 1) (fe_X12_standsAsAlways 28) (fun _ _ => rfl) ?_
  refine t_go (op := o_i2 30 (fun x y => x + y)) (fe_X12_standsAsAlways 29) (fun _ _ => rfl) ?_
  refine t_go (op := o_ci 31 1) (fe_X12_standsAsAlways 30) (fun _ _ => rfl) ?_
  refine t_go (op := o_iast 32) (fe_X12_standsAsAlways 31) (g_iastN hS (show lay 189 = (20, 100) by decide) (nIa rfl (nIl 1)) (by omega) (by decide)) ?_
  refine T_heap (rowI_up (h := h) (a := 189) (r := (s50 (h.1 189) 50)) (t := 51) (v := 1)).symm ?_
  refine t_go (op := o_aload 33 0) (fe_X12_standsAsAlways 32) (fun _ _ => rfl) ?_
  refine t_go (op := o_getR 36 11 10) (fe_X12_standsAsAlways 33) (g_getR hS (show (lay 183).1 = 11 by decide) (by decide) (fr_11_10 hS) (by decide)) ?_
  refine t_go (op := o_iload 37 1) (fe_X12_standsAsAlways 36) (fun _ _ => rfl) ?_
  refine t_go (op := o_ci 38 2) (fe_X12_standsAsAlways 37) (fun _ _ => rfl) ?_
  refine t_go (op := o_i2 39 (fun x y => x + y)) (fe_X12_standsAsAlways 38) (fun _ _ => rfl) ?_
  refine t_go (op := o_ci 40 5) (fe_X12_standsAsAlways 39) (fun _ _ => rfl) ?_
  refine t_go (op := o_iast 41) (fe_X12_standsAsAlways 40) (g_iastN hS (show lay 189 = (20, 100) by decide) (nIa rfl (nIl 2)) (by omega) (by decide)) ?_
  refine T_heap (rowI_up (h := h) (a := 189) (r := (fup (s50 (h.1 189) 50) 51 1)) (t := 52) (v := 5)).symm ?_
  refine t_go (op := o_aload 42 0) (fe_X12_standsAsAlways 41) (fun _ _ => rfl) ?_
  refine t_go (op := o_getR 45 11 10) (fe_X12_standsAsAlways 42) (g_getR hS (show (lay 183).1 = 11 by decide) (by decide) (fr_11_10 hS) (by decide)) ?_
  refine t_go (op := o_iload 46 1) (fe_X12_standsAsAlways 45) (fun _ _ => rfl) ?_
  refine t_go (op := o_ci 47 3) (fe_X12_standsAsAlways 46) (fun _ _ => rfl) ?_
  refine t_go (op := o_i2 48 (fun x y => x + y)) (fe_X12_standsAsAlways 47) (fun _ _ => rfl) ?_
  refine t_go (op := o_ci 49 (-1)) (fe_X12_standsAsAlways 48) (fun _ _ => rfl) ?_
  refine t_go (op := o_iast 50) (fe_X12_standsAsAlways 49) (g_iastN hS (show lay 189 = (20, 100) by decide) (nIa rfl (nIl 3)) (by omega) (by decide)) ?_
  refine T_heap (rowI_up (h := h) (a := 189) (r := (fup (fup (s50 (h.1 189) 50) 51 1) 52 5)) (t := 53) (v := (-1))).symm ?_
  refine t_ret (op := o_vret) (fe_X12_standsAsAlways 50) (fun _ _ => rfl) ?_
  exact ⟨rfl, rfl⟩
set_option maxRecDepth 8000 in
theorem r_g9 {d : Nat} {h : AHP} {x1 : Option Value} (hS : Std h) {Q : Option Value → AHP → Prop} (hq : ∀ h2, h2 = (rowI (sI (sI (sI h 183 13 (nI 0)) 183 17 (nI 0)) 183 18 (nI 0)) 189 (fup (fup (fup (s50 (h.1 189) 50) 51 1) 52 5) 53 (-1))) → TT (d + 37) 182 30 [some (.ref 183), x1] [] h2 Q) : TT (d + 37) 182 9 [some (.ref 183), x1] [] h Q := by
  refine t_go (op := o_aload 10 0) (fe_X12_grate 9) (fun _ _ => rfl) ?_
  refine t_go (op := o_ci 11 0) (fe_X12_grate 10) (fun _ _ => rfl) ?_
  refine t_go (op := o_putI 14 11 13) (fe_X12_grate 11) (g_putI hS (show (lay 183).1 = 11 by decide) (by decide)) ?_
  refine t_go (op := o_aload 15 0) (fe_X12_grate 14) (fun _ _ => rfl) ?_
  refine t_go (op := o_ci 16 0) (fe_X12_grate 15) (fun _ _ => rfl) ?_
  refine t_go (op := o_putI 19 11 17) (fe_X12_grate 16) (g_putI hS (show (lay 183).1 = 11 by decide) (by decide)) ?_
  refine t_go (op := o_aload 20 0) (fe_X12_grate 19) (fun _ _ => rfl) ?_
  refine t_go (op := o_ci 21 0) (fe_X12_grate 20) (fun _ _ => rfl) ?_
  refine t_go (op := o_putI 24 11 18) (fe_X12_grate 21) (g_putI hS (show (lay 183).1 = 11 by decide) (by decide)) ?_
  refine t_go (op := o_aload 25 0) (fe_X12_grate 24) (fun _ _ => rfl) ?_
  refine t_go (op := o_ci 27 50) (fe_X12_grate 25) (fun _ _ => rfl) ?_
  refine t_call (op := o_callV 30 174 2 11) (fe_X12_grate 27) (g_callV hS (show (lay 183).1 = 11 by decide) (by decide) rfl rfl rfl (Nat.le_of_ble_eq_true rfl)) ?_
  refine M_eq (r_sa (h := sI (sI (sI h 183 13 (nI 0)) 183 17 (nI 0)) 183 18 (nI 0)) hS) ?_
  exact hq _ rfl
theorem s50_at {r : Nat → Int32} {j : Nat} (h1 : 50 ≤ j) (h2 : j < 100) (h3 : j ≠ 51) (h4 : j ≠ 52) (h5 : j ≠ 53) : fup (fup (fup (s50 r 50) 51 1) 52 5) 53 (-1) j = 0 := (if_neg h5).trans ((if_neg h4).trans ((if_neg h3).trans (if_pos ⟨h1, h2⟩)))
theorem RGs_0 {h : AHP} (h7 : h.1 183 7 = nI 0) (h8 : h.1 183 8 = nI 0) : RGs h (rowI (sI (sI (sI h 183 13 (nI 0)) 183 17 (nI 0)) 183 18 (nI 0)) 189 (fup (fup (fup (s50 (h.1 189) 50) 51 1) 52 5) 53 (-1))) 0 ([], [], 0, []) := by
  refine ⟨(((GF.rf.s3 (by decide)).s3 (by decide)).s3 (by decide)).row (fun j hj => ?_), ?_, ?_, ?_, ?_, ?_, ⟨?_, fun e he => absurd he (Nat.not_lt_zero _)⟩, ⟨?_, fun j hj => absurd hj (Nat.not_lt_zero _), fun _ => ?_⟩, ?_, ⟨?_, fun j hj => absurd hj (Nat.not_lt_zero _), fun q => absurd rfl q⟩⟩
  · rw [sI_ne (by decide), sI_ne (by decide), sI_ne (by decide)]
    exact (if_neg (by omega)).trans ((if_neg (by omega)).trans ((if_neg (by omega)).trans (if_neg (by omega))))
  · rw [rowI_ne (by decide), sI_nr (by decide), sI_nr (by decide), sI_nr (by decide)]; exact h7
  · rw [rowI_ne (by decide), sI_nr (by decide), sI_nr (by decide), sI_nr (by decide)]; exact h8
  · rw [rowI_ne (by decide), sI_nr (by decide), sI_nr (by decide), sI_eq]; rfl
  · rw [rowI_ne (by decide), sI_nr (by decide), sI_eq]; rfl
  · rw [rowI_ne (by decide), sI_eq]; rfl
  · rw [rowI_at]; exact s50_at (by decide) (by decide) (by decide) (by decide) (by decide)
  · rw [rowI_at]; exact (if_neg (by decide)).trans ((if_neg (by decide)).trans (if_pos rfl))
  · rw [rowI_at]; exact s50_at (by decide) (by decide) (by decide) (by decide) (by decide)
  · rw [rowI_at]; exact (if_neg (by decide)).trans (if_pos rfl)
  · rw [rowI_at]; exact if_pos rfl
