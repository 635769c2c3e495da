/-! ===== the reference: count, tell, marks, begins ===== -/
theorem r_count0 {d : Nat} {k h : AHP} {m n g T u : Nat} {F : FS} {P : Nat → FS} (hP : CP k h g n m) (hW : FW m T F) (hB0 : RB (k.1 197) 0 F) (hT : T < 90000) (hu : k.1 183 23 = nI u) (h16 : u ≤ 16) (hPs : RP (k.1 197) u P)  : MM (d + 5) 269 [.ref 183, .int (0)] k (fun v h2 => v = some (.int (nI m)) ∧ h2 = sI k 183 0 0) := by
  refine ⟨Nat.le_of_ble_eq_true rfl, ?_⟩
  have hm := hP.1.2.2.1
  have hS := hP.1.1
  have hE := hP.1.2.1
  refine t_go (op := o_aload 1 0) (fe_X12_count 0) (fun _ _ => rfl) ?_
  refine t_go (op := o_ci 2 0) (fe_X12_count 1) (fun _ _ => rfl) ?_
  refine t_go (op := o_putI 5 11 0) (fe_X12_count 2) (g_putI hS (show (lay 183).1 = 11 by decide) (by decide)) ?_
  have hB5 : RB ((sI k 183 0 0).1 197) 0 F := by rw [sI_ne (by decide)]; exact hB0
  have hP5 := hP.thr (v := 0)
  replace hS := hP5.1.1
  replace hE := hP5.1.2.1
  refine t_go (op := o_iload 6 1) (fe_X12_count 5) (fun _ _ => rfl) ?_
  refine t_go (op := o_sw (swT 0 [68, 73, 80, 87, 93, 100, 106, 138, 155, 162, 170, 175] 180)) (fe_X12_count 6) (fun _ _ => rfl) ?_
  rw [show swT 0 [68, 73, 80, 87, 93, 100, 106, 138, 155, 162, 170, 175] 180 (0 : Int32) = 68 by decide +kernel]
  refine t_go (op := o_aload 69 0) (fe_X12_count 68) (fun _ _ => rfl) ?_
  refine t_call (op := o_callV 72 200 1 11) (fe_X12_count 69) (g_callV hS (show (lay 183).1 = 11 by decide) (by decide) rfl rfl rfl (Nat.le_of_ble_eq_true rfl)) ?_
  refine M_eq (r_embers (by exact hS) (by exact hE)) ?_
  refine t_ret (op := o_iret) (fe_X12_count 72) (fun _ _ => rfl) ?_
  exact ⟨rfl, rfl⟩
theorem r_count1 {d : Nat} {k h : AHP} {m n g T u : Nat} {F : FS} {P : Nat → FS} (hP : CP k h g n m) (hW : FW m T F) (hB0 : RB (k.1 197) 0 F) (hT : T < 90000) (hu : k.1 183 23 = nI u) (h16 : u ≤ 16) (hPs : RP (k.1 197) u P)  : MM (d + 5) 269 [.ref 183, .int (1)] k (fun v h2 => v = some (.int (h.1 g 5)) ∧ h2 = sI k 183 0 0) := by
  refine ⟨Nat.le_of_ble_eq_true rfl, ?_⟩
  have hm := hP.1.2.2.1
  have hS := hP.1.1
  have hE := hP.1.2.1
  refine t_go (op := o_aload 1 0) (fe_X12_count 0) (fun _ _ => rfl) ?_
  refine t_go (op := o_ci 2 0) (fe_X12_count 1) (fun _ _ => rfl) ?_
  refine t_go (op := o_putI 5 11 0) (fe_X12_count 2) (g_putI hS (show (lay 183).1 = 11 by decide) (by decide)) ?_
  have hB5 : RB ((sI k 183 0 0).1 197) 0 F := by rw [sI_ne (by decide)]; exact hB0
  have hP5 := hP.thr (v := 0)
  replace hS := hP5.1.1
  replace hE := hP5.1.2.1
  refine t_go (op := o_iload 6 1) (fe_X12_count 5) (fun _ _ => rfl) ?_
  refine t_go (op := o_sw (swT 0 [68, 73, 80, 87, 93, 100, 106, 138, 155, 162, 170, 175] 180)) (fe_X12_count 6) (fun _ _ => rfl) ?_
  rw [show swT 0 [68, 73, 80, 87, 93, 100, 106, 138, 155, 162, 170, 175] 180 (1 : Int32) = 73 by decide +kernel]
  refine t_go (op := o_aload 74 0) (fe_X12_count 73) (fun _ _ => rfl) ?_
  refine t_go (op := o_getR 77 11 10) (fe_X12_count 74) (g_getR hS (show (lay 183).1 = 11 by decide) (by decide) (fr_11_10 hS) (by decide)) ?_
  refine t_go (op := o_ci 78 2) (fe_X12_count 77) (fun _ _ => rfl) ?_
  refine t_go (op := o_iald 79) (fe_X12_count 78) (g_ialdN hS (show lay 189 = (20, 100) by decide) (nIl 2) (by omega) (by decide)) ?_
  rw [show (sI k 183 0 0).1 189 2 = h.1 g 5 from hP.1.2.2.2.2.1]
  refine t_ret (op := o_iret) (fe_X12_count 79) (fun _ _ => rfl) ?_
  exact ⟨rfl, rfl⟩
theorem r_count2 {d : Nat} {k h : AHP} {m n g T u : Nat} {F : FS} {P : Nat → FS} (hP : CP k h g n m) (hW : FW m T F) (hB0 : RB (k.1 197) 0 F) (hT : T < 90000) (hu : k.1 183 23 = nI u) (h16 : u ≤ 16) (hPs : RP (k.1 197) u P)  : MM (d + 5) 269 [.ref 183, .int (2)] k (fun v h2 => v = some (.int (F.2.2.2.2.1)) ∧ h2 = sI k 183 0 0) := by
  refine ⟨Nat.le_of_ble_eq_true rfl, ?_⟩
  have hm := hP.1.2.2.1
  have hS := hP.1.1
  have hE := hP.1.2.1
  refine t_go (op := o_aload 1 0) (fe_X12_count 0) (fun _ _ => rfl) ?_
  refine t_go (op := o_ci 2 0) (fe_X12_count 1) (fun _ _ => rfl) ?_
  refine t_go (op := o_putI 5 11 0) (fe_X12_count 2) (g_putI hS (show (lay 183).1 = 11 by decide) (by decide)) ?_
  have hB5 : RB ((sI k 183 0 0).1 197) 0 F := by rw [sI_ne (by decide)]; exact hB0
  have hP5 := hP.thr (v := 0)
  replace hS := hP5.1.1
  replace hE := hP5.1.2.1
  refine t_go (op := o_iload 6 1) (fe_X12_count 5) (fun _ _ => rfl) ?_
  refine t_go (op := o_sw (swT 0 [68, 73, 80, 87, 93, 100, 106, 138, 155, 162, 170, 175] 180)) (fe_X12_count 6) (fun _ _ => rfl) ?_
  rw [show swT 0 [68, 73, 80, 87, 93, 100, 106, 138, 155, 162, 170, 175] 180 (2 : Int32) = 80 by decide +kernel]
  refine t_go (op := o_aload 81 0) (fe_X12_count 80) (fun _ _ => rfl) ?_
  refine t_go (op := o_getR 84 11 22) (fe_X12_count 81) (g_getR hS (show (lay 183).1 = 11 by decide) (by decide) (fr_11_22 hS) (by decide)) ?_
  refine t_go (op := o_ci 85 0) (fe_X12_count 84) (fun _ _ => rfl) ?_
  refine t_go (op := o_iald 86) (fe_X12_count 85) (g_ialdN hS (show lay 197 = (20, 966) by decide) (nIl 0) (by omega) (by decide)) ?_
  rw [show (sI k 183 0 0).1 197 0 = F.2.2.2.2.1 from hB5.2.1]
  refine t_ret (op := o_iret) (fe_X12_count 86) (fun _ _ => rfl) ?_
  exact ⟨rfl, rfl⟩
theorem r_count3 {d : Nat} {k h : AHP} {m n g T u : Nat} {F : FS} {P : Nat → FS} (hP : CP k h g n m) (hW : FW m T F) (hB0 : RB (k.1 197) 0 F) (hT : T < 90000) (hu : k.1 183 23 = nI u) (h16 : u ≤ 16) (hPs : RP (k.1 197) u P)  : MM (d + 5) 269 [.ref 183, .int (3)] k (fun v h2 => v = some (.int (drV h g F.2.2.2.2.1)) ∧ h2 = sI k 183 0 0) := by
  refine ⟨Nat.le_of_ble_eq_true rfl, ?_⟩
  have hm := hP.1.2.2.1
  have hS := hP.1.1
  have hE := hP.1.2.1
  refine t_go (op := o_aload 1 0) (fe_X12_count 0) (fun _ _ => rfl) ?_
  refine t_go (op := o_ci 2 0) (fe_X12_count 1) (fun _ _ => rfl) ?_
  refine t_go (op := o_putI 5 11 0) (fe_X12_count 2) (g_putI hS (show (lay 183).1 = 11 by decide) (by decide)) ?_
  have hB5 : RB ((sI k 183 0 0).1 197) 0 F := by rw [sI_ne (by decide)]; exact hB0
  have hP5 := hP.thr (v := 0)
  replace hS := hP5.1.1
  replace hE := hP5.1.2.1
  refine t_go (op := o_iload 6 1) (fe_X12_count 5) (fun _ _ => rfl) ?_
  refine t_go (op := o_sw (swT 0 [68, 73, 80, 87, 93, 100, 106, 138, 155, 162, 170, 175] 180)) (fe_X12_count 6) (fun _ _ => rfl) ?_
  rw [show swT 0 [68, 73, 80, 87, 93, 100, 106, 138, 155, 162, 170, 175] 180 (3 : Int32) = 87 by decide +kernel]
  refine t_go (op := o_aload 88 0) (fe_X12_count 87) (fun _ _ => rfl) ?_
  refine t_go (op := o_ci 89 0) (fe_X12_count 88) (fun _ _ => rfl) ?_
  refine t_call (op := o_callV 92 213 2 11) (fe_X12_count 89) (g_callV hS (show (lay 183).1 = 11 by decide) (by decide) rfl rfl rfl (Nat.le_of_ble_eq_true rfl)) ?_
  refine M_eq (r_draughtOf (b := 0) hS hP5.2 hB5 (by decide) hW.2 (by omega)) ?_
  refine t_ret (op := o_iret) (fe_X12_count 92) (fun _ _ => rfl) ?_
  exact ⟨rfl, rfl⟩
theorem r_count4 {d : Nat} {k h : AHP} {m n g T u : Nat} {F : FS} {P : Nat → FS} (hP : CP k h g n m) (hW : FW m T F) (hB0 : RB (k.1 197) 0 F) (hT : T < 90000) (hu : k.1 183 23 = nI u) (h16 : u ≤ 16) (hPs : RP (k.1 197) u P)  : MM (d + 5) 269 [.ref 183, .int (4)] k (fun v h2 => v = some (.int (F.2.2.2.2.2)) ∧ h2 = sI k 183 0 0) := by
  refine ⟨Nat.le_of_ble_eq_true rfl, ?_⟩
  have hm := hP.1.2.2.1
  have hS := hP.1.1
  have hE := hP.1.2.1
  refine t_go (op := o_aload 1 0) (fe_X12_count 0) (fun _ _ => rfl) ?_
  refine t_go (op := o_ci 2 0) (fe_X12_count 1) (fun _ _ => rfl) ?_
  refine t_go (op := o_putI 5 11 0) (fe_X12_count 2) (g_putI hS (show (lay 183).1 = 11 by decide) (by decide)) ?_
  have hB5 : RB ((sI k 183 0 0).1 197) 0 F := by rw [sI_ne (by decide)]; exact hB0
  have hP5 := hP.thr (v := 0)
  replace hS := hP5.1.1
  replace hE := hP5.1.2.1
  refine t_go (op := o_iload 6 1) (fe_X12_count 5) (fun _ _ => rfl) ?_
  refine t_go (op := o_sw (swT 0 [68, 73, 80, 87, 93, 100, 106, 138, 155, 162, 170, 175] 180)) (fe_X12_count 6) (fun _ _ => rfl) ?_
  rw [show swT 0 [68, 73, 80, 87, 93, 100, 106, 138, 155, 162, 170, 175] 180 (4 : Int32) = 93 by decide +kernel]
  refine t_go (op := o_aload 94 0) (fe_X12_count 93) (fun _ _ => rfl) ?_
  refine t_go (op := o_getR 97 11 22) (fe_X12_count 94) (g_getR hS (show (lay 183).1 = 11 by decide) (by decide) (fr_11_22 hS) (by decide)) ?_
  refine t_go (op := o_ci 98 1) (fe_X12_count 97) (fun _ _ => rfl) ?_
  refine t_go (op := o_iald 99) (fe_X12_count 98) (g_ialdN hS (show lay 197 = (20, 966) by decide) (nIl 1) (by omega) (by decide)) ?_
  rw [show (sI k 183 0 0).1 197 1 = F.2.2.2.2.2 from hB5.2.2]
  refine t_ret (op := o_iret) (fe_X12_count 99) (fun _ _ => rfl) ?_
  exact ⟨rfl, rfl⟩
theorem r_count5 {d : Nat} {k h : AHP} {m n g T u : Nat} {F : FS} {P : Nat → FS} (hP : CP k h g n m) (hW : FW m T F) (hB0 : RB (k.1 197) 0 F) (hT : T < 90000) (hu : k.1 183 23 = nI u) (h16 : u ≤ 16) (hPs : RP (k.1 197) u P)  : MM (d + 5) 269 [.ref 183, .int (5)] k (fun v h2 => v = some (.int (heatV F)) ∧ h2 = sI k 183 0 0) := by
  refine ⟨Nat.le_of_ble_eq_true rfl, ?_⟩
  have hm := hP.1.2.2.1
  have hS := hP.1.1
  have hE := hP.1.2.1
  refine t_go (op := o_aload 1 0) (fe_X12_count 0) (fun _ _ => rfl) ?_
  refine t_go (op := o_ci 2 0) (fe_X12_count 1) (fun _ _ => rfl) ?_
  refine t_go (op := o_putI 5 11 0) (fe_X12_count 2) (g_putI hS (show (lay 183).1 = 11 by decide) (by decide)) ?_
  have hB5 : RB ((sI k 183 0 0).1 197) 0 F := by rw [sI_ne (by decide)]; exact hB0
  have hP5 := hP.thr (v := 0)
  replace hS := hP5.1.1
  replace hE := hP5.1.2.1
  refine t_go (op := o_iload 6 1) (fe_X12_count 5) (fun _ _ => rfl) ?_
  refine t_go (op := o_sw (swT 0 [68, 73, 80, 87, 93, 100, 106, 138, 155, 162, 170, 175] 180)) (fe_X12_count 6) (fun _ _ => rfl) ?_
  rw [show swT 0 [68, 73, 80, 87, 93, 100, 106, 138, 155, 162, 170, 175] 180 (5 : Int32) = 100 by decide +kernel]
  refine t_go (op := o_aload 101 0) (fe_X12_count 100) (fun _ _ => rfl) ?_
  refine t_go (op := o_ci 102 0) (fe_X12_count 101) (fun _ _ => rfl) ?_
  refine t_call (op := o_callV 105 216 2 11) (fe_X12_count 102) (g_callV hS (show (lay 183).1 = 11 by decide) (by decide) rfl rfl rfl (Nat.le_of_ble_eq_true rfl)) ?_
  refine M_eq (r_heatOfAll (b := 0) hP5.1 hW.1 hB5 (by decide)) ?_
  refine t_ret (op := o_iret) (fe_X12_count 105) (fun _ _ => rfl) ?_
  exact ⟨rfl, rfl⟩
theorem fuel_m {m : Nat} {F : FS} (hV : FV m F) (hm : m ≤ 7) : it (sumS F.2.2.1) 7 0 0 = it (sumS F.2.2.1) m 0 0 := it_more hm fun t s h1 h2 => by
  rw [sumS, nI_clamp (by omega), (FV_out hV h2 (FV_no hV h2 h1)).2.2, Int32.add_zero]
theorem lr_cfuel {d : Nat} {k : AHP} {m : Nat} {F : FS} (hS : Std k) (hE : k.1 189 0 = nI m) (hm : m ≤ 7) (hV : FV m F) (hB : RB (k.1 197) 0 F) {y : Int32} {Q : Option Value → AHP → Prop} : ∀ (j i : Nat) (s : Int32), i + j = m → Q (some (.int (it (sumS F.2.2.1) j i s))) k → TT (d + 1) 269 110 [some (.ref 183), some (.int y), some (.int s), some (.int (nI i))] [] k Q := by
  intro j
  induction j with
  | zero =>
    intro i s hi  hq
    have hN : i = m := by omega
    refine t_go (op := o_iload 111 3) (fe_X12_count 110) (fun _ _ => rfl) ?_
    refine t_go (op := o_aload 112 0) (fe_X12_count 111) (fun _ _ => rfl) ?_
    refine t_call (op := o_callV 115 200 1 11) (fe_X12_count 112) (g_callV hS (show (lay 183).1 = 11 by decide) (by decide) rfl rfl rfl (Nat.le_of_ble_eq_true rfl)) ?_
    refine M_eq (r_embers hS hE) ?_
    refine t_ite (op := o_icmp 118 136 (fun x y => y ≤ x) (fun _ _ => inferInstance)) (fe_X12_count 115) g_icmp (fun c1 => ?_) (fun c1 => ?_)
    · refine t_go (op := o_iload 137 2) (fe_X12_count 136) (fun _ _ => rfl) ?_
      refine t_ret (op := o_iret) (fe_X12_count 137) (fun _ _ => rfl) ?_
      exact hq
    · exact absurd (by rw [hN]; exact Int32.le_refl _) c1
  | succ j ih =>
    intro i s hi  hq
    have hi7 : i < m := by omega
    refine t_go (op := o_iload 111 3) (fe_X12_count 110) (fun _ _ => rfl) ?_
    refine t_go (op := o_aload 112 0) (fe_X12_count 111) (fun _ _ => rfl) ?_
    refine t_call (op := o_callV 115 200 1 11) (fe_X12_count 112) (g_callV hS (show (lay 183).1 = 11 by decide) (by decide) rfl rfl rfl (Nat.le_of_ble_eq_true rfl)) ?_
    refine M_eq (r_embers hS hE) ?_
    refine t_ite (op := o_icmp 118 136 (fun x y => y ≤ x) (fun _ _ => inferInstance)) (fe_X12_count 115) g_icmp (fun c1 => ?_) (fun c1 => ?_)
    · exact absurd c1 (nI_ge hi7 (by omega))
    · refine t_go (op := o_iload 119 2) (fe_X12_count 118) (fun _ _ => rfl) ?_
      refine t_go (op := o_aload 120 0) (fe_X12_count 119) (fun _ _ => rfl) ?_
      refine t_go (op := o_getR 123 11 22) (fe_X12_count 120) (g_getR hS (show (lay 183).1 = 11 by decide) (by decide) (fr_11_22 hS) (by decide)) ?_
      refine t_go (op := o_ci 125 16) (fe_X12_count 123) (fun _ _ => rfl) ?_
      refine t_go (op := o_iload 126 3) (fe_X12_count 125) (fun _ _ => rfl) ?_
      refine t_go (op := o_i2 127 (fun x y => x + y)) (fe_X12_count 126) (fun _ _ => rfl) ?_
      refine t_go (op := o_iald 128) (fe_X12_count 127) (g_ialdN hS (show lay 197 = (20, 966) by decide) (nIa (nIl 16) rfl) (by omega) (by decide)) ?_
      rw [show k.1 197 (16 + i) = F.2.2.1 i from by have := (hB.1 i (by omega)).2.2; rw [Nat.zero_add] at this; exact this]
      refine t_go (op := o_i2 129 (fun x y => x + y)) (fe_X12_count 128) (fun _ _ => rfl) ?_
      refine t_go (op := o_istore 130 2) (fe_X12_count 129) (fun _ _ => rfl) ?_
      refine t_go (op := o_iinc 133 3 1) (fe_X12_count 130) (fun _ _ => rfl) ?_
      refine t_go (op := o_goto 110) (fe_X12_count 133) (fun _ _ => rfl) ?_
      rw [it_step, sumS, nI_clamp (by omega)] at hq
      rw [nI_1]
      exact ih (i + 1) _ (by omega) hq
theorem r_count6 {d : Nat} {k h : AHP} {m n g T u : Nat} {F : FS} {P : Nat → FS} (hP : CP k h g n m) (hW : FW m T F) (hB0 : RB (k.1 197) 0 F) (hT : T < 90000) (hu : k.1 183 23 = nI u) (h16 : u ≤ 16) (hPs : RP (k.1 197) u P)  : MM (d + 5) 269 [.ref 183, .int (6)] k (fun v h2 => v = some (.int (it (sumS F.2.2.1) 7 0 0)) ∧ h2 = sI k 183 0 0) := by
  refine ⟨Nat.le_of_ble_eq_true rfl, ?_⟩
  have hm := hP.1.2.2.1
  have hS := hP.1.1
  have hE := hP.1.2.1
  refine t_go (op := o_aload 1 0) (fe_X12_count 0) (fun _ _ => rfl) ?_
  refine t_go (op := o_ci 2 0) (fe_X12_count 1) (fun _ _ => rfl) ?_
  refine t_go (op := o_putI 5 11 0) (fe_X12_count 2) (g_putI hS (show (lay 183).1 = 11 by decide) (by decide)) ?_
  have hB5 : RB ((sI k 183 0 0).1 197) 0 F := by rw [sI_ne (by decide)]; exact hB0
  have hP5 := hP.thr (v := 0)
  replace hS := hP5.1.1
  replace hE := hP5.1.2.1
  refine t_go (op := o_iload 6 1) (fe_X12_count 5) (fun _ _ => rfl) ?_
  refine t_go (op := o_sw (swT 0 [68, 73, 80, 87, 93, 100, 106, 138, 155, 162, 170, 175] 180)) (fe_X12_count 6) (fun _ _ => rfl) ?_
  rw [show swT 0 [68, 73, 80, 87, 93, 100, 106, 138, 155, 162, 170, 175] 180 (6 : Int32) = 106 by decide +kernel]
  refine t_go (op := o_ci 107 0) (fe_X12_count 106) (fun _ _ => rfl) ?_
  refine t_go (op := o_istore 108 2) (fe_X12_count 107) (fun _ _ => rfl) ?_
  refine t_go (op := o_ci 109 0) (fe_X12_count 108) (fun _ _ => rfl) ?_
  refine t_go (op := o_istore 110 3) (fe_X12_count 109) (fun _ _ => rfl) ?_
  exact lr_cfuel (d := d + 4) hS hE hm hW.1 hB5 m 0 0 (by omega) ⟨by rw [fuel_m hW.1 hm], rfl⟩
theorem ash_all {m : Nat} {F : FS} (hm : m ≤ 7) (hV : FV m F) : ((1 <<< (nI m &&& 31)) - 1) &&& (it (hereS F) 7 0 0 ^^^ -1) = it (ashS F (nI m)) 7 0 0 := by
  refine (setB_of (P := fun e => ¬ nI m ≤ nI e ∧ ¬ hasF F (nI e)) fun a ha => ?_)
  have h1 : ∀ q, q < 8 → ∀ a, a < 32 → bt (((1 : Int32) <<< (nI q &&& 31)) - 1) a = decide (a < q) := by decide +kernel
  rw [b_and, h1 m (by omega) a ha, b_xor, b_m1 a ha, show it (hereS F) 7 0 0 = setB (fun e => hasF F (nI e)) from rfl, setB_bt ha]
  by_cases hlt : a < m
  · rw [decide_eq_true hlt, decide_eq_true (show a < 7 by omega)]
    have e1 : ¬ nI m ≤ nI a := nI_ge hlt (by omega)
    by_cases hh : hasF F (nI a)
    · rw [dcd_t hh, dcd_f (fun q => q.2 hh)]; rfl
    · rw [dcd_f hh, dcd_t ⟨e1, hh⟩]; rfl
  · rw [decide_eq_false hlt, dcd_f (P := ¬ nI m ≤ nI a ∧ ¬ hasF F (nI a)) (fun q => q.1 (nI_le (by omega) (by omega)))]
    simp
theorem r_count7 {d : Nat} {k h : AHP} {m n g T u : Nat} {F : FS} {P : Nat → FS} (hP : CP k h g n m) (hW : FW m T F) (hB0 : RB (k.1 197) 0 F) (hT : T < 90000) (hu : k.1 183 23 = nI u) (h16 : u ≤ 16) (hPs : RP (k.1 197) u P)  : MM (d + 5) 269 [.ref 183, .int (7)] k (fun v h2 => v = some (.int (it (ashS F (nI m)) 7 0 0)) ∧ h2 = sI k 183 0 0) := by
  refine ⟨Nat.le_of_ble_eq_true rfl, ?_⟩
  have hm := hP.1.2.2.1
  have hS := hP.1.1
  have hE := hP.1.2.1
  refine t_go (op := o_aload 1 0) (fe_X12_count 0) (fun _ _ => rfl) ?_
  refine t_go (op := o_ci 2 0) (fe_X12_count 1) (fun _ _ => rfl) ?_
  refine t_go (op := o_putI 5 11 0) (fe_X12_count 2) (g_putI hS (show (lay 183).1 = 11 by decide) (by decide)) ?_
  have hB5 : RB ((sI k 183 0 0).1 197) 0 F := by rw [sI_ne (by decide)]; exact hB0
  have hP5 := hP.thr (v := 0)
  replace hS := hP5.1.1
  replace hE := hP5.1.2.1
  refine t_go (op := o_iload 6 1) (fe_X12_count 5) (fun _ _ => rfl) ?_
  refine t_go (op := o_sw (swT 0 [68, 73, 80, 87, 93, 100, 106, 138, 155, 162, 170, 175] 180)) (fe_X12_count 6) (fun _ _ => rfl) ?_
  rw [show swT 0 [68, 73, 80, 87, 93, 100, 106, 138, 155, 162, 170, 175] 180 (7 : Int32) = 138 by decide +kernel]
  refine t_go (op := o_ci 139 1) (fe_X12_count 138) (fun _ _ => rfl) ?_
  refine t_go (op := o_aload 140 0) (fe_X12_count 139) (fun _ _ => rfl) ?_
  refine t_call (op := o_callV 143 200 1 11) (fe_X12_count 140) (g_callV hS (show (lay 183).1 = 11 by decide) (by decide) rfl rfl rfl (Nat.le_of_ble_eq_true rfl)) ?_
  refine M_eq (r_embers (by exact hS) (by exact hE)) ?_
  refine t_go (op := o_i2 144 (fun x y => x <<< (y &&& 31))) (fe_X12_count 143) (fun _ _ => rfl) ?_
  refine t_go (op := o_ci 145 1) (fe_X12_count 144) (fun _ _ => rfl) ?_
  refine t_go (op := o_i2 146 (fun x y => x - y)) (fe_X12_count 145) (fun _ _ => rfl) ?_
  refine t_go (op := o_aload 147 0) (fe_X12_count 146) (fun _ _ => rfl) ?_
  refine t_go (op := o_ci 148 1) (fe_X12_count 147) (fun _ _ => rfl) ?_
  refine t_call (op := o_callV 151 246 2 11) (fe_X12_count 148) (g_callV hS (show (lay 183).1 = 11 by decide) (by decide) rfl rfl rfl (Nat.le_of_ble_eq_true rfl)) ?_
  refine M_eq (r_there1 hS hE hm hW.1 hB5) ?_
  refine t_go (op := o_ci 152 (-1)) (fe_X12_count 151) (fun _ _ => rfl) ?_
  refine t_go (op := o_i2 153 (fun x y => x ^^^ y)) (fe_X12_count 152) (fun _ _ => rfl) ?_
  refine t_go (op := o_i2 154 (fun x y => x &&& y)) (fe_X12_count 153) (fun _ _ => rfl) ?_
  refine t_ret (op := o_iret) (fe_X12_count 154) (fun _ _ => rfl) ?_
  exact ⟨congrArg (fun z => some (Value.int z)) (ash_all hm hW.1), rfl⟩
theorem r_count8 {d : Nat} {k h : AHP} {m n g T u : Nat} {F : FS} {P : Nat → FS} (hP : CP k h g n m) (hW : FW m T F) (hB0 : RB (k.1 197) 0 F) (hT : T < 90000) (hu : k.1 183 23 = nI u) (h16 : u ≤ 16) (hPs : RP (k.1 197) u P)  : MM (d + 5) 269 [.ref 183, .int (8)] k (fun v h2 => v = some (.int (k.1 194 0)) ∧ h2 = sI k 183 0 0) := by
  refine ⟨Nat.le_of_ble_eq_true rfl, ?_⟩
  have hm := hP.1.2.2.1
  have hS := hP.1.1
  have hE := hP.1.2.1
  refine t_go (op := o_aload 1 0) (fe_X12_count 0) (fun _ _ => rfl) ?_
  refine t_go (op := o_ci 2 0) (fe_X12_count 1) (fun _ _ => rfl) ?_
  refine t_go (op := o_putI 5 11 0) (fe_X12_count 2) (g_putI hS (show (lay 183).1 = 11 by decide) (by decide)) ?_
  have hB5 : RB ((sI k 183 0 0).1 197) 0 F := by rw [sI_ne (by decide)]; exact hB0
  have hP5 := hP.thr (v := 0)
  replace hS := hP5.1.1
  replace hE := hP5.1.2.1
  refine t_go (op := o_iload 6 1) (fe_X12_count 5) (fun _ _ => rfl) ?_
  refine t_go (op := o_sw (swT 0 [68, 73, 80, 87, 93, 100, 106, 138, 155, 162, 170, 175] 180)) (fe_X12_count 6) (fun _ _ => rfl) ?_
  rw [show swT 0 [68, 73, 80, 87, 93, 100, 106, 138, 155, 162, 170, 175] 180 (8 : Int32) = 155 by decide +kernel]
  refine t_go (op := o_aload 156 0) (fe_X12_count 155) (fun _ _ => rfl) ?_
  refine t_go (op := o_getR 159 11 19) (fe_X12_count 156) (g_getR hS (show (lay 183).1 = 11 by decide) (by decide) (fr_11_19 hS) (by decide)) ?_
  refine t_go (op := o_ci 160 0) (fe_X12_count 159) (fun _ _ => rfl) ?_
  refine t_go (op := o_iald 161) (fe_X12_count 160) (g_ialdN hS (show lay 194 = (20, 250) by decide) (nIl 0) (by omega) (by decide)) ?_
  rw [show (sI k 183 0 0).1 194 0 = k.1 194 0 from rfl]
  refine t_ret (op := o_iret) (fe_X12_count 161) (fun _ _ => rfl) ?_
  exact ⟨rfl, rfl⟩
theorem r_count9 {d : Nat} {k h : AHP} {m n g T u : Nat} {F : FS} {P : Nat → FS} (hP : CP k h g n m) (hW : FW m T F) (hB0 : RB (k.1 197) 0 F) (hT : T < 90000) (hu : k.1 183 23 = nI u) (h16 : u ≤ 16) (hPs : RP (k.1 197) u P)  : MM (d + 5) 269 [.ref 183, .int (9)] k (fun v h2 => v = some (.int (k.1 197 23)) ∧ h2 = sI k 183 0 0) := by
  refine ⟨Nat.le_of_ble_eq_true rfl, ?_⟩
  have hm := hP.1.2.2.1
  have hS := hP.1.1
  have hE := hP.1.2.1
  refine t_go (op := o_aload 1 0) (fe_X12_count 0) (fun _ _ => rfl) ?_
  refine t_go (op := o_ci 2 0) (fe_X12_count 1) (fun _ _ => rfl) ?_
  refine t_go (op := o_putI 5 11 0) (fe_X12_count 2) (g_putI hS (show (lay 183).1 = 11 by decide) (by decide)) ?_
  have hB5 : RB ((sI k 183 0 0).1 197) 0 F := by rw [sI_ne (by decide)]; exact hB0
  have hP5 := hP.thr (v := 0)
  replace hS := hP5.1.1
  replace hE := hP5.1.2.1
  refine t_go (op := o_iload 6 1) (fe_X12_count 5) (fun _ _ => rfl) ?_
  refine t_go (op := o_sw (swT 0 [68, 73, 80, 87, 93, 100, 106, 138, 155, 162, 170, 175] 180)) (fe_X12_count 6) (fun _ _ => rfl) ?_
  rw [show swT 0 [68, 73, 80, 87, 93, 100, 106, 138, 155, 162, 170, 175] 180 (9 : Int32) = 162 by decide +kernel]
  refine t_go (op := o_aload 163 0) (fe_X12_count 162) (fun _ _ => rfl) ?_
  refine t_go (op := o_getR 166 11 22) (fe_X12_count 163) (g_getR hS (show (lay 183).1 = 11 by decide) (by decide) (fr_11_22 hS) (by decide)) ?_
  refine t_go (op := o_ci 168 23) (fe_X12_count 166) (fun _ _ => rfl) ?_
  refine t_go (op := o_iald 169) (fe_X12_count 168) (g_ialdN hS (show lay 197 = (20, 966) by decide) (nIl 23) (by omega) (by decide)) ?_
  rw [show (sI k 183 0 0).1 197 23 = k.1 197 23 from rfl]
  refine t_ret (op := o_iret) (fe_X12_count 169) (fun _ _ => rfl) ?_
  exact ⟨rfl, rfl⟩
theorem r_count10 {d : Nat} {k h : AHP} {m n g T u : Nat} {F : FS} {P : Nat → FS} (hP : CP k h g n m) (hW : FW m T F) (hB0 : RB (k.1 197) 0 F) (hT : T < 90000) (hu : k.1 183 23 = nI u) (h16 : u ≤ 16) (hPs : RP (k.1 197) u P)  : MM (d + 5) 269 [.ref 183, .int (10)] k (fun v h2 => v = some (.int (nI u)) ∧ h2 = sI k 183 0 0) := by
  refine ⟨Nat.le_of_ble_eq_true rfl, ?_⟩
  have hm := hP.1.2.2.1
  have hS := hP.1.1
  have hE := hP.1.2.1
  refine t_go (op := o_aload 1 0) (fe_X12_count 0) (fun _ _ => rfl) ?_
  refine t_go (op := o_ci 2 0) (fe_X12_count 1) (fun _ _ => rfl) ?_
  refine t_go (op := o_putI 5 11 0) (fe_X12_count 2) (g_putI hS (show (lay 183).1 = 11 by decide) (by decide)) ?_
  have hB5 : RB ((sI k 183 0 0).1 197) 0 F := by rw [sI_ne (by decide)]; exact hB0
  have hP5 := hP.thr (v := 0)
  replace hS := hP5.1.1
  replace hE := hP5.1.2.1
  refine t_go (op := o_iload 6 1) (fe_X12_count 5) (fun _ _ => rfl) ?_
  refine t_go (op := o_sw (swT 0 [68, 73, 80, 87, 93, 100, 106, 138, 155, 162, 170, 175] 180)) (fe_X12_count 6) (fun _ _ => rfl) ?_
  rw [show swT 0 [68, 73, 80, 87, 93, 100, 106, 138, 155, 162, 170, 175] 180 (10 : Int32) = 170 by decide +kernel]
  refine t_go (op := o_aload 171 0) (fe_X12_count 170) (fun _ _ => rfl) ?_
  refine t_go (op := o_getI 174 11 23) (fe_X12_count 171) (g_getI hS (show (lay 183).1 = 11 by decide) (by decide)) ?_
  rw [show (sI k 183 0 0).1 183 23 = nI u from hu]
  refine t_ret (op := o_iret) (fe_X12_count 174) (fun _ _ => rfl) ?_
  exact ⟨rfl, rfl⟩
theorem r_count11 {d : Nat} {k h : AHP} {m n g T u : Nat} {F : FS} {P : Nat → FS} (hP : CP k h g n m) (hW : FW m T F) (hB0 : RB (k.1 197) 0 F) (hT : T < 90000) (hu : k.1 183 23 = nI u) (h16 : u ≤ 16) (hPs : RP (k.1 197) u P)  : MM (d + 5) 269 [.ref 183, .int (11)] k (fun v h2 => v = some (.int (k.1 183 2)) ∧ h2 = sI k 183 0 0) := by
  refine ⟨Nat.le_of_ble_eq_true rfl, ?_⟩
  have hm := hP.1.2.2.1
  have hS := hP.1.1
  have hE := hP.1.2.1
  refine t_go (op := o_aload 1 0) (fe_X12_count 0) (fun _ _ => rfl) ?_
  refine t_go (op := o_ci 2 0) (fe_X12_count 1) (fun _ _ => rfl) ?_
  refine t_go (op := o_putI 5 11 0) (fe_X12_count 2) (g_putI hS (show (lay 183).1 = 11 by decide) (by decide)) ?_
  have hB5 : RB ((sI k 183 0 0).1 197) 0 F := by rw [sI_ne (by decide)]; exact hB0
  have hP5 := hP.thr (v := 0)
  replace hS := hP5.1.1
  replace hE := hP5.1.2.1
  refine t_go (op := o_iload 6 1) (fe_X12_count 5) (fun _ _ => rfl) ?_
  refine t_go (op := o_sw (swT 0 [68, 73, 80, 87, 93, 100, 106, 138, 155, 162, 170, 175] 180)) (fe_X12_count 6) (fun _ _ => rfl) ?_
  rw [show swT 0 [68, 73, 80, 87, 93, 100, 106, 138, 155, 162, 170, 175] 180 (11 : Int32) = 175 by decide +kernel]
  refine t_go (op := o_aload 176 0) (fe_X12_count 175) (fun _ _ => rfl) ?_
  refine t_go (op := o_getI 179 11 2) (fe_X12_count 176) (g_getI hS (show (lay 183).1 = 11 by decide) (by decide)) ?_
  rw [show (sI k 183 0 0).1 183 2 = k.1 183 2 from rfl]
  refine t_ret (op := o_iret) (fe_X12_count 179) (fun _ _ => rfl) ?_
  exact ⟨rfl, rfl⟩
theorem r_countF {d : Nat} {k : AHP} (hS : Std k) {x : Int32} (hn : x.toInt < 0 ∨ 12 ≤ x.toInt) : MM (d + 5) 269 [.ref 183, .int x] k (fun v h2 => v = some (.int (-1)) ∧ h2 = sI k 183 0 0) := by
  refine ⟨Nat.le_of_ble_eq_true rfl, ?_⟩
  refine t_go (op := o_aload 1 0) (fe_X12_count 0) (fun _ _ => rfl) ?_
  refine t_go (op := o_ci 2 0) (fe_X12_count 1) (fun _ _ => rfl) ?_
  refine t_go (op := o_putI 5 11 0) (fe_X12_count 2) (g_putI hS (show (lay 183).1 = 11 by decide) (by decide)) ?_
  refine t_go (op := o_iload 6 1) (fe_X12_count 5) (fun _ _ => rfl) ?_
  refine t_go (op := o_sw (swT 0 [68, 73, 80, 87, 93, 100, 106, 138, 155, 162, 170, 175] 180)) (fe_X12_count 6) (fun _ _ => rfl) ?_
  refine t_swT (fun c1 => ?_) (fun jj hj c1 => ?_)
  · refine t_go (op := o_ci 181 (-1)) (fe_X12_count 180) (fun _ _ => rfl) ?_
    refine t_ret (op := o_iret) (fe_X12_count 181) (fun _ _ => rfl) ?_
    exact ⟨rfl, rfl⟩
  · exfalso
    have : jj < 12 := hj
    omega
theorem RT_add {s s2 : Nat → Int32} {tn : Nat} {E H L : Nat → Int32} {a b c : Int32} (hR : RT s 0 tn E H L) (h1 : s2 (24 + 3 * tn) = a) (h2 : s2 (24 + 3 * tn + 1) = b) (h3 : s2 (24 + 3 * tn + 2) = c) (h4 : s2 23 = nI (tn + 1)) (h5 : ∀ i, 24 ≤ i → i < 24 + 3 * tn → s2 i = s i) : RT s2 0 (tn + 1) (fup E tn a) (fup H tn b) (fup L tn c) := by
  refine ⟨h4, fun k hk => ?_⟩
  rw [Nat.zero_add, Nat.zero_add, Nat.zero_add]
  by_cases hkt : k = tn
  · subst hkt
    rw [fup_eq, fup_eq, fup_eq, show 25 + 3 * k = 24 + 3 * k + 1 by omega, show 26 + 3 * k = 24 + 3 * k + 2 by omega]
    exact ⟨h1, h2, h3⟩
  · obtain ⟨q1, q2, q3⟩ := hR.2 k (by omega)
    rw [Nat.zero_add] at q1 q2 q3
    rw [fup_ne hkt, fup_ne hkt, fup_ne hkt, h5 _ (by omega) (by omega), h5 _ (by omega) (by omega), h5 _ (by omega) (by omega)]
    exact ⟨q1, q2, q3⟩
theorem r_tell0 {d : Nat} {k : AHP} {m tn : Nat} {E H L : Nat → Int32} (hS : Std k) (hE : k.1 189 0 = nI m) (hm : m ≤ 7) (htn : tn ≤ 6) (hRT : RT (k.1 197) 0 tn E H L) {e q : Nat} (he : e < m) (hq : q ≤ 12) (h6 : tn < 6) : MM (d + 2) 249 [.ref 183, .int (nI e), .int (nI q), .int (0)] k (fun v h2 => v = some (.int 1) ∧ Zf (fun i => 23 ≤ i ∧ i < 42) k h2 ∧ RT (h2.1 197) 0 (tn + 1) (fup E tn (nI e)) (fup H tn (nI q)) (fup L tn (0))) := by
  refine ⟨Nat.le_of_ble_eq_true rfl, ?_⟩
  refine t_go (op := o_aload 1 0) (fe_X12_tell 0) (fun _ _ => rfl) ?_
  refine t_go (op := o_ci 2 0) (fe_X12_tell 1) (fun _ _ => rfl) ?_
  refine t_go (op := o_putI 5 11 0) (fe_X12_tell 2) (g_putI hS (show (lay 183).1 = 11 by decide) (by decide)) ?_
  refine t_go (op := o_aload 6 0) (fe_X12_tell 5) (fun _ _ => rfl) ?_
  refine t_go (op := o_iload 7 1) (fe_X12_tell 6) (fun _ _ => rfl) ?_
  refine t_call (op := o_callV 10 202 2 11) (fe_X12_tell 7) (g_callV hS (show (lay 183).1 = 11 by decide) (by decide) rfl rfl rfl (Nat.le_of_ble_eq_true rfl)) ?_
  refine M_eq (r_isEmber (by exact hS) (by exact hE)) ?_
  refine t_ite (op := o_if 13 35 (fun x => x = 0) (fun _ => inferInstance)) (fe_X12_tell 10) g_if (fun c1 => ?_) (fun c1 => ?_)
  · exact absurd (isE he hm) (b2i_z c1)
  · replace c1 := b2i_nn c1
    refine t_go (op := o_iload 14 2) (fe_X12_tell 13) (fun _ _ => rfl) ?_
    refine t_go (op := o_ci 15 0) (fe_X12_tell 14) (fun _ _ => rfl) ?_
    refine t_go (op := o_ci 17 12) (fe_X12_tell 15) (fun _ _ => rfl) ?_
    refine t_call (op := o_callS 20 173 3) (fe_X12_tell 17) (g_callS rfl rfl rfl (Nat.le_of_ble_eq_true rfl)) ?_
    refine M_eq r_within ?_
    refine t_ite (op := o_if 23 35 (fun x => x = 0) (fun _ => inferInstance)) (fe_X12_tell 20) g_if (fun c2 => ?_) (fun c2 => ?_)
    · exact absurd (show ¬ nI q < 0 ∧ ¬ (12 : Int32) < nI q from ⟨nI_pos (by omega), nI_nlt (a := 12) (by omega) (by omega)⟩) (b2i_z c2)
    · replace c2 := b2i_nn c2
      refine t_go (op := o_aload 24 0) (fe_X12_tell 23) (fun _ _ => rfl) ?_
      refine t_go (op := o_getR 27 11 22) (fe_X12_tell 24) (g_getR hS (show (lay 183).1 = 11 by decide) (by decide) (fr_11_22 hS) (by decide)) ?_
      refine t_go (op := o_ci 29 23) (fe_X12_tell 27) (fun _ _ => rfl) ?_
      refine t_go (op := o_iald 30) (fe_X12_tell 29) (g_ialdN hS (show lay 197 = (20, 966) by decide) (nIl 23) (by omega) (by decide)) ?_
      rw [show (sI k 183 0 0).1 197 23 = nI tn from hRT.1]
      refine t_go (op := o_ci 32 6) (fe_X12_tell 30) (fun _ _ => rfl) ?_
      refine t_ite (op := o_icmp 37 35 (fun x y => x = y) (fun _ _ => inferInstance)) (fe_X12_tell 32) g_icmp (fun c3 => ?_) (fun c3 => ?_)
      · exact absurd c3 (fun q => by have := nI_inj (a := tn) (b := 6) (by omega) (by decide) q; omega)
      · refine t_go (op := o_ci 39 24) (fe_X12_tell 37) (fun _ _ => rfl) ?_
        refine t_go (op := o_ci 40 3) (fe_X12_tell 39) (fun _ _ => rfl) ?_
        refine t_go (op := o_aload 41 0) (fe_X12_tell 40) (fun _ _ => rfl) ?_
        refine t_go (op := o_getR 44 11 22) (fe_X12_tell 41) (g_getR hS (show (lay 183).1 = 11 by decide) (by decide) (fr_11_22 hS) (by decide)) ?_
        refine t_go (op := o_ci 46 23) (fe_X12_tell 44) (fun _ _ => rfl) ?_
        refine t_go (op := o_iald 47) (fe_X12_tell 46) (g_ialdN hS (show lay 197 = (20, 966) by decide) (nIl 23) (by omega) (by decide)) ?_
        rw [show (sI k 183 0 0).1 197 23 = nI tn from hRT.1]
        refine t_go (op := o_i2 48 (fun x y => x * y)) (fe_X12_tell 47) (fun _ _ => rfl) ?_
        refine t_go (op := o_i2 49 (fun x y => x + y)) (fe_X12_tell 48) (fun _ _ => rfl) ?_
        refine t_go (op := o_istore 51 4) (fe_X12_tell 49) (fun _ _ => rfl) ?_
        refine t_go (op := o_aload 52 0) (fe_X12_tell 51) (fun _ _ => rfl) ?_
        refine t_go (op := o_getR 55 11 22) (fe_X12_tell 52) (g_getR hS (show (lay 183).1 = 11 by decide) (by decide) (fr_11_22 hS) (by decide)) ?_
        refine t_go (op := o_iload 57 4) (fe_X12_tell 55) (fun _ _ => rfl) ?_
        refine t_go (op := o_iload 58 1) (fe_X12_tell 57) (fun _ _ => rfl) ?_
        refine t_go (op := o_iast 59) (fe_X12_tell 58) (g_iastN hS (show lay 197 = (20, 966) by decide) (nIa (nIl 24) (nIm (nIl 3) rfl)) (by omega) (by decide)) ?_
        refine t_go (op := o_aload 60 0) (fe_X12_tell 59) (fun _ _ => rfl) ?_
        refine t_go (op := o_getR 63 11 22) (fe_X12_tell 60) (g_getR hS (show (lay 183).1 = 11 by decide) (by decide) (fr_11_22 hS) (by decide)) ?_
        refine t_go (op := o_iload 65 4) (fe_X12_tell 63) (fun _ _ => rfl) ?_
        refine t_go (op := o_ci 66 1) (fe_X12_tell 65) (fun _ _ => rfl) ?_
        refine t_go (op := o_i2 67 (fun x y => x + y)) (fe_X12_tell 66) (fun _ _ => rfl) ?_
        refine t_go (op := o_iload 68 2) (fe_X12_tell 67) (fun _ _ => rfl) ?_
        refine t_go (op := o_iast 69) (fe_X12_tell 68) (g_iastN hS (show lay 197 = (20, 966) by decide) (nIa (nIa (nIl 24) (nIm (nIl 3) rfl)) (nIl 1)) (by omega) (by decide)) ?_
        refine t_go (op := o_aload 70 0) (fe_X12_tell 69) (fun _ _ => rfl) ?_
        refine t_go (op := o_getR 73 11 22) (fe_X12_tell 70) (g_getR hS (show (lay 183).1 = 11 by decide) (by decide) (fr_11_22 hS) (by decide)) ?_
        refine t_go (op := o_iload 75 4) (fe_X12_tell 73) (fun _ _ => rfl) ?_
        refine t_go (op := o_ci 76 2) (fe_X12_tell 75) (fun _ _ => rfl) ?_
        refine t_go (op := o_i2 77 (fun x y => x + y)) (fe_X12_tell 76) (fun _ _ => rfl) ?_
        refine t_go (op := o_iload 78 3) (fe_X12_tell 77) (fun _ _ => rfl) ?_
        refine t_ite (op := o_if 81 85 (fun x => x = 0) (fun _ => inferInstance)) (fe_X12_tell 78) g_if (fun c4 => ?_) (fun c4 => ?_)
        · clear c4
          refine t_go (op := o_ci 86 0) (fe_X12_tell 85) (fun _ _ => rfl) ?_
          refine t_go (op := o_iast 87) (fe_X12_tell 86) (g_iastN hS (show lay 197 = (20, 966) by decide) (nIa (nIa (nIl 24) (nIm (nIl 3) rfl)) (nIl 2)) (by omega) (by decide)) ?_
          refine t_go (op := o_aload 88 0) (fe_X12_tell 87) (fun _ _ => rfl) ?_
          refine t_go (op := o_getR 91 11 22) (fe_X12_tell 88) (g_getR hS (show (lay 183).1 = 11 by decide) (by decide) (fr_11_22 hS) (by decide)) ?_
          refine t_go (op := o_ci 93 23) (fe_X12_tell 91) (fun _ _ => rfl) ?_
          refine t_go (op := o_dup2 94) (fe_X12_tell 93) (fun _ _ => rfl) ?_
          refine t_go (op := o_iald 95) (fe_X12_tell 94) (g_ialdN hS (show lay 197 = (20, 966) by decide) (nIl 23) (by omega) (by decide)) ?_
          rw [show (sI (sI (sI (sI k 183 0 0) 197 (24 + 3 * tn) (nI e)) 197 (24 + 3 * tn + 1) (nI q)) 197 (24 + 3 * tn + 2) (0)).1 197 23 = nI tn from by rw [sI_nr (by omega), sI_nr (by omega), sI_nr (by omega)]; exact hRT.1]
          refine t_go (op := o_ci 96 1) (fe_X12_tell 95) (fun _ _ => rfl) ?_
          refine t_go (op := o_i2 97 (fun x y => x + y)) (fe_X12_tell 96) (fun _ _ => rfl) ?_
          refine t_go (op := o_iast 98) (fe_X12_tell 97) (g_iastN hS (show lay 197 = (20, 966) by decide) (nIl 23) (by omega) (by decide)) ?_
          refine t_go (op := o_ci 99 1) (fe_X12_tell 98) (fun _ _ => rfl) ?_
          refine t_ret (op := o_zret) (fe_X12_tell 99) (g_zret (Or.inr rfl)) ?_
          dsimp only
          rw [nI_1]
          refine ⟨rfl, Zf_st (Zf_st (Zf_st (Zf_st (Zf_thr Zf.rf) (by omega)) (by omega)) (by omega)) (by omega), RT_add hRT ?_ ?_ ?_ sI_eq (fun i h1 h2 => ?_)⟩
          · rw [sI_nr (by omega), sI_nr (by omega), sI_nr (by omega), sI_eq]
          · rw [sI_nr (by omega), sI_nr (by omega), sI_eq]
          · rw [sI_nr (by omega), sI_eq]
          · rw [sI_nr (by omega), sI_nr (by omega), sI_nr (by omega), sI_nr (by omega), sI_ne (by decide)]
        · exact absurd (by decide) c4
theorem r_tell1 {d : Nat} {k : AHP} {m tn : Nat} {E H L : Nat → Int32} (hS : Std k) (hE : k.1 189 0 = nI m) (hm : m ≤ 7) (htn : tn ≤ 6) (hRT : RT (k.1 197) 0 tn E H L) {e q : Nat} (he : e < m) (hq : q ≤ 12) (h6 : tn < 6) : MM (d + 2) 249 [.ref 183, .int (nI e), .int (nI q), .int (1)] k (fun v h2 => v = some (.int 1) ∧ Zf (fun i => 23 ≤ i ∧ i < 42) k h2 ∧ RT (h2.1 197) 0 (tn + 1) (fup E tn (nI e)) (fup H tn (nI q)) (fup L tn (1))) := by
  refine ⟨Nat.le_of_ble_eq_true rfl, ?_⟩
  refine t_go (op := o_aload 1 0) (fe_X12_tell 0) (fun _ _ => rfl) ?_
  refine t_go (op := o_ci 2 0) (fe_X12_tell 1) (fun _ _ => rfl) ?_
  refine t_go (op := o_putI 5 11 0) (fe_X12_tell 2) (g_putI hS (show (lay 183).1 = 11 by decide) (by decide)) ?_
  refine t_go (op := o_aload 6 0) (fe_X12_tell 5) (fun _ _ => rfl) ?_
  refine t_go (op := o_iload 7 1) (fe_X12_tell 6) (fun _ _ => rfl) ?_
  refine t_call (op := o_callV 10 202 2 11) (fe_X12_tell 7) (g_callV hS (show (lay 183).1 = 11 by decide) (by decide) rfl rfl rfl (Nat.le_of_ble_eq_true rfl)) ?_
  refine M_eq (r_isEmber (by exact hS) (by exact hE)) ?_
  refine t_ite (op := o_if 13 35 (fun x => x = 0) (fun _ => inferInstance)) (fe_X12_tell 10) g_if (fun c1 => ?_) (fun c1 => ?_)
  · exact absurd (isE he hm) (b2i_z c1)
  · replace c1 := b2i_nn c1
    refine t_go (op := o_iload 14 2) (fe_X12_tell 13) (fun _ _ => rfl) ?_
    refine t_go (op := o_ci 15 0) (fe_X12_tell 14) (fun _ _ => rfl) ?_
    refine t_go (op := o_ci 17 12) (fe_X12_tell 15) (fun _ _ => rfl) ?_
    refine t_call (op := o_callS 20 173 3) (fe_X12_tell 17) (g_callS rfl rfl rfl (Nat.le_of_ble_eq_true rfl)) ?_
    refine M_eq r_within ?_
    refine t_ite (op := o_if 23 35 (fun x => x = 0) (fun _ => inferInstance)) (fe_X12_tell 20) g_if (fun c2 => ?_) (fun c2 => ?_)
    · exact absurd (show ¬ nI q < 0 ∧ ¬ (12 : Int32) < nI q from ⟨nI_pos (by omega), nI_nlt (a := 12) (by omega) (by omega)⟩) (b2i_z c2)
    · replace c2 := b2i_nn c2
      refine t_go (op := o_aload 24 0) (fe_X12_tell 23) (fun _ _ => rfl) ?_
      refine t_go (op := o_getR 27 11 22) (fe_X12_tell 24) (g_getR hS (show (lay 183).1 = 11 by decide) (by decide) (fr_11_22 hS) (by decide)) ?_
      refine t_go (op := o_ci 29 23) (fe_X12_tell 27) (fun _ _ => rfl) ?_
      refine t_go (op := o_iald 30) (fe_X12_tell 29) (g_ialdN hS (show lay 197 = (20, 966) by decide) (nIl 23) (by omega) (by decide)) ?_
      rw [show (sI k 183 0 0).1 197 23 = nI tn from hRT.1]
      refine t_go (op := o_ci 32 6) (fe_X12_tell 30) (fun _ _ => rfl) ?_
      refine t_ite (op := o_icmp 37 35 (fun x y => x = y) (fun _ _ => inferInstance)) (fe_X12_tell 32) g_icmp (fun c3 => ?_) (fun c3 => ?_)
      · exact absurd c3 (fun q => by have := nI_inj (a := tn) (b := 6) (by omega) (by decide) q; omega)
      · refine t_go (op := o_ci 39 24) (fe_X12_tell 37) (fun _ _ => rfl) ?_
        refine t_go (op := o_ci 40 3) (fe_X12_tell 39) (fun _ _ => rfl) ?_
        refine t_go (op := o_aload 41 0) (fe_X12_tell 40) (fun _ _ => rfl) ?_
        refine t_go (op := o_getR 44 11 22) (fe_X12_tell 41) (g_getR hS (show (lay 183).1 = 11 by decide) (by decide) (fr_11_22 hS) (by decide)) ?_
        refine t_go (op := o_ci 46 23) (fe_X12_tell 44) (fun _ _ => rfl) ?_
        refine t_go (op := o_iald 47) (fe_X12_tell 46) (g_ialdN hS (show lay 197 = (20, 966) by decide) (nIl 23) (by omega) (by decide)) ?_
        rw [show (sI k 183 0 0).1 197 23 = nI tn from hRT.1]
        refine t_go (op := o_i2 48 (fun x y => x * y)) (fe_X12_tell 47) (fun _ _ => rfl) ?_
        refine t_go (op := o_i2 49 (fun x y => x + y)) (fe_X12_tell 48) (fun _ _ => rfl) ?_
        refine t_go (op := o_istore 51 4) (fe_X12_tell 49) (fun _ _ => rfl) ?_
        refine t_go (op := o_aload 52 0) (fe_X12_tell 51) (fun _ _ => rfl) ?_
        refine t_go (op := o_getR 55 11 22) (fe_X12_tell 52) (g_getR hS (show (lay 183).1 = 11 by decide) (by decide) (fr_11_22 hS) (by decide)) ?_
        refine t_go (op := o_iload 57 4) (fe_X12_tell 55) (fun _ _ => rfl) ?_
        refine t_go (op := o_iload 58 1) (fe_X12_tell 57) (fun _ _ => rfl) ?_
        refine t_go (op := o_iast 59) (fe_X12_tell 58) (g_iastN hS (show lay 197 = (20, 966) by decide) (nIa (nIl 24) (nIm (nIl 3) rfl)) (by omega) (by decide)) ?_
        refine t_go (op := o_aload 60 0) (fe_X12_tell 59) (fun _ _ => rfl) ?_
        refine t_go (op := o_getR 63 11 22) (fe_X12_tell 60) (g_getR hS (show (lay 183).1 = 11 by decide) (by decide) (fr_11_22 hS) (by decide)) ?_
        refine t_go (op := o_iload 65 4) (fe_X12_tell 63) (fun _ _ => rfl) ?_
        refine t_go (op := o_ci 66 1) (fe_X12_tell 65) (fun _ _ => rfl) ?_
        refine t_go (op := o_i2 67 (fun x y => x + y)) (fe_X12_tell 66) (fun _ _ => rfl) ?_
        refine t_go (op := o_iload 68 2) (fe_X12_tell 67) (fun _ _ => rfl) ?_
        refine t_go (op := o_iast 69) (fe_X12_tell 68) (g_iastN hS (show lay 197 = (20, 966) by decide) (nIa (nIa (nIl 24) (nIm (nIl 3) rfl)) (nIl 1)) (by omega) (by decide)) ?_
        refine t_go (op := o_aload 70 0) (fe_X12_tell 69) (fun _ _ => rfl) ?_
        refine t_go (op := o_getR 73 11 22) (fe_X12_tell 70) (g_getR hS (show (lay 183).1 = 11 by decide) (by decide) (fr_11_22 hS) (by decide)) ?_
        refine t_go (op := o_iload 75 4) (fe_X12_tell 73) (fun _ _ => rfl) ?_
        refine t_go (op := o_ci 76 2) (fe_X12_tell 75) (fun _ _ => rfl) ?_
        refine t_go (op := o_i2 77 (fun x y => x + y)) (fe_X12_tell 76) (fun _ _ => rfl) ?_
        refine t_go (op := o_iload 78 3) (fe_X12_tell 77) (fun _ _ => rfl) ?_
        refine t_ite (op := o_if 81 85 (fun x => x = 0) (fun _ => inferInstance)) (fe_X12_tell 78) g_if (fun c4 => ?_) (fun c4 => ?_)
        · exact absurd c4 (by decide)
        · clear c4
          refine t_go (op := o_ci 82 1) (fe_X12_tell 81) (fun _ _ => rfl) ?_
          refine t_go (op := o_goto 86) (fe_X12_tell 82) (fun _ _ => rfl) ?_
          refine t_go (op := o_iast 87) (fe_X12_tell 86) (g_iastN hS (show lay 197 = (20, 966) by decide) (nIa (nIa (nIl 24) (nIm (nIl 3) rfl)) (nIl 2)) (by omega) (by decide)) ?_
          refine t_go (op := o_aload 88 0) (fe_X12_tell 87) (fun _ _ => rfl) ?_
          refine t_go (op := o_getR 91 11 22) (fe_X12_tell 88) (g_getR hS (show (lay 183).1 = 11 by decide) (by decide) (fr_11_22 hS) (by decide)) ?_
          refine t_go (op := o_ci 93 23) (fe_X12_tell 91) (fun _ _ => rfl) ?_
          refine t_go (op := o_dup2 94) (fe_X12_tell 93) (fun _ _ => rfl) ?_
          refine t_go (op := o_iald 95) (fe_X12_tell 94) (g_ialdN hS (show lay 197 = (20, 966) by decide) (nIl 23) (by omega) (by decide)) ?_
          rw [show (sI (sI (sI (sI k 183 0 0) 197 (24 + 3 * tn) (nI e)) 197 (24 + 3 * tn + 1) (nI q)) 197 (24 + 3 * tn + 2) (1)).1 197 23 = nI tn from by rw [sI_nr (by omega), sI_nr (by omega), sI_nr (by omega)]; exact hRT.1]
          refine t_go (op := o_ci 96 1) (fe_X12_tell 95) (fun _ _ => rfl) ?_
          refine t_go (op := o_i2 97 (fun x y => x + y)) (fe_X12_tell 96) (fun _ _ => rfl) ?_
          refine t_go (op := o_iast 98) (fe_X12_tell 97) (g_iastN hS (show lay 197 = (20, 966) by decide) (nIl 23) (by omega) (by decide)) ?_
          refine t_go (op := o_ci 99 1) (fe_X12_tell 98) (fun _ _ => rfl) ?_
          refine t_ret (op := o_zret) (fe_X12_tell 99) (g_zret (Or.inr rfl)) ?_
          dsimp only
          rw [nI_1]
          refine ⟨rfl, Zf_st (Zf_st (Zf_st (Zf_st (Zf_thr Zf.rf) (by omega)) (by omega)) (by omega)) (by omega), RT_add hRT ?_ ?_ ?_ sI_eq (fun i h1 h2 => ?_)⟩
          · rw [sI_nr (by omega), sI_nr (by omega), sI_nr (by omega), sI_eq]
          · rw [sI_nr (by omega), sI_nr (by omega), sI_eq]
          · rw [sI_nr (by omega), sI_eq]
          · rw [sI_nr (by omega), sI_nr (by omega), sI_nr (by omega), sI_nr (by omega), sI_ne (by decide)]
theorem r_tellF {d : Nat} {k : AHP} {m tn : Nat} {E H L : Nat → Int32} (hS : Std k) (hE : k.1 189 0 = nI m) (hm : m ≤ 7) (htn : tn ≤ 6) (hRT : RT (k.1 197) 0 tn E H L) {x y z : Int32} (hn : ¬ (¬ x < 0 ∧ x < nI m)) : MM (d + 2) 249 [.ref 183, .int x, .int y, .int z] k (fun v h2 => v = some (.int 0) ∧ h2 = sI k 183 0 0) := by
  refine ⟨Nat.le_of_ble_eq_true rfl, ?_⟩
  refine t_go (op := o_aload 1 0) (fe_X12_tell 0) (fun _ _ => rfl) ?_
  refine t_go (op := o_ci 2 0) (fe_X12_tell 1) (fun _ _ => rfl) ?_
  refine t_go (op := o_putI 5 11 0) (fe_X12_tell 2) (g_putI hS (show (lay 183).1 = 11 by decide) (by decide)) ?_
  refine t_go (op := o_aload 6 0) (fe_X12_tell 5) (fun _ _ => rfl) ?_
  refine t_go (op := o_iload 7 1) (fe_X12_tell 6) (fun _ _ => rfl) ?_
  refine t_call (op := o_callV 10 202 2 11) (fe_X12_tell 7) (g_callV hS (show (lay 183).1 = 11 by decide) (by decide) rfl rfl rfl (Nat.le_of_ble_eq_true rfl)) ?_
  refine M_eq (r_isEmber (by exact hS) (by exact hE)) ?_
  refine t_ite (op := o_if 13 35 (fun x => x = 0) (fun _ => inferInstance)) (fe_X12_tell 10) g_if (fun c1 => ?_) (fun c1 => ?_)
  · replace c1 := b2i_z c1
    refine t_go (op := o_ci 36 0) (fe_X12_tell 35) (fun _ _ => rfl) ?_
    refine t_ret (op := o_zret) (fe_X12_tell 36) (g_zret (Or.inl rfl)) ?_
    exact ⟨rfl, rfl⟩
  · exact absurd (b2i_nn c1) hn
theorem r_tellG {d : Nat} {k : AHP} {m tn : Nat} {E H L : Nat → Int32} (hS : Std k) (hE : k.1 189 0 = nI m) (hm : m ≤ 7) (htn : tn ≤ 6) (hRT : RT (k.1 197) 0 tn E H L) {x y z : Int32} (hx : ¬ x < 0 ∧ x < nI m) (hn : ¬ (¬ y < 0 ∧ ¬ 12 < y)) : MM (d + 2) 249 [.ref 183, .int x, .int y, .int z] k (fun v h2 => v = some (.int 0) ∧ h2 = sI k 183 0 0) := by
  refine ⟨Nat.le_of_ble_eq_true rfl, ?_⟩
  refine t_go (op := o_aload 1 0) (fe_X12_tell 0) (fun _ _ => rfl) ?_
  refine t_go (op := o_ci 2 0) (fe_X12_tell 1) (fun _ _ => rfl) ?_
  refine t_go (op := o_putI 5 11 0) (fe_X12_tell 2) (g_putI hS (show (lay 183).1 = 11 by decide) (by decide)) ?_
  refine t_go (op := o_aload 6 0) (fe_X12_tell 5) (fun _ _ => rfl) ?_
  refine t_go (op := o_iload 7 1) (fe_X12_tell 6) (fun _ _ => rfl) ?_
  refine t_call (op := o_callV 10 202 2 11) (fe_X12_tell 7) (g_callV hS (show (lay 183).1 = 11 by decide) (by decide) rfl rfl rfl (Nat.le_of_ble_eq_true rfl)) ?_
  refine M_eq (r_isEmber (by exact hS) (by exact hE)) ?_
  refine t_ite (op := o_if 13 35 (fun x => x = 0) (fun _ => inferInstance)) (fe_X12_tell 10) g_if (fun c1 => ?_) (fun c1 => ?_)
  · exact absurd hx (b2i_z c1)
  · replace c1 := b2i_nn c1
    refine t_go (op := o_iload 14 2) (fe_X12_tell 13) (fun _ _ => rfl) ?_
    refine t_go (op := o_ci 15 0) (fe_X12_tell 14) (fun _ _ => rfl) ?_
    refine t_go (op := o_ci 17 12) (fe_X12_tell 15) (fun _ _ => rfl) ?_
    refine t_call (op := o_callS 20 173 3) (fe_X12_tell 17) (g_callS rfl rfl rfl (Nat.le_of_ble_eq_true rfl)) ?_
    refine M_eq r_within ?_
    refine t_ite (op := o_if 23 35 (fun x => x = 0) (fun _ => inferInstance)) (fe_X12_tell 20) g_if (fun c2 => ?_) (fun c2 => ?_)
    · replace c2 := b2i_z c2
      refine t_go (op := o_ci 36 0) (fe_X12_tell 35) (fun _ _ => rfl) ?_
      refine t_ret (op := o_zret) (fe_X12_tell 36) (g_zret (Or.inl rfl)) ?_
      exact ⟨rfl, rfl⟩
    · exact absurd (b2i_nn c2) hn
theorem r_tellS {d : Nat} {k : AHP} {m tn : Nat} {E H L : Nat → Int32} (hS : Std k) (hE : k.1 189 0 = nI m) (hm : m ≤ 7) (htn : tn ≤ 6) (hRT : RT (k.1 197) 0 tn E H L) {x y z : Int32} (hx : ¬ x < 0 ∧ x < nI m) (hy : ¬ y < 0 ∧ ¬ 12 < y) (h6 : tn = 6) : MM (d + 2) 249 [.ref 183, .int x, .int y, .int z] k (fun v h2 => v = some (.int 0) ∧ h2 = sI k 183 0 0) := by
  refine ⟨Nat.le_of_ble_eq_true rfl, ?_⟩
  refine t_go (op := o_aload 1 0) (fe_X12_tell 0) (fun _ _ => rfl) ?_
  refine t_go (op := o_ci 2 0) (fe_X12_tell 1) (fun _ _ => rfl) ?_
  refine t_go (op := o_putI 5 11 0) (fe_X12_tell 2) (g_putI hS (show (lay 183).1 = 11 by decide) (by decide)) ?_
  refine t_go (op := o_aload 6 0) (fe_X12_tell 5) (fun _ _ => rfl) ?_
  refine t_go (op := o_iload 7 1) (fe_X12_tell 6) (fun _ _ => rfl) ?_
  refine t_call (op := o_callV 10 202 2 11) (fe_X12_tell 7) (g_callV hS (show (lay 183).1 = 11 by decide) (by decide) rfl rfl rfl (Nat.le_of_ble_eq_true rfl)) ?_
  refine M_eq (r_isEmber (by exact hS) (by exact hE)) ?_
  refine t_ite (op := o_if 13 35 (fun x => x = 0) (fun _ => inferInstance)) (fe_X12_tell 10) g_if (fun c1 => ?_) (fun c1 => ?_)
  · exact absurd hx (b2i_z c1)
  · replace c1 := b2i_nn c1
    refine t_go (op := o_iload 14 2) (fe_X12_tell 13) (fun _ _ => rfl) ?_
    refine t_go (op := o_ci 15 0) (fe_X12_tell 14) (fun _ _ => rfl) ?_
    refine t_go (op := o_ci 17 12) (fe_X12_tell 15) (fun _ _ => rfl) ?_
    refine t_call (op := o_callS 20 173 3) (fe_X12_tell 17) (g_callS rfl rfl rfl (Nat.le_of_ble_eq_true rfl)) ?_
    refine M_eq r_within ?_
    refine t_ite (op := o_if 23 35 (fun x => x = 0) (fun _ => inferInstance)) (fe_X12_tell 20) g_if (fun c2 => ?_) (fun c2 => ?_)
    · exact absurd hy (b2i_z c2)
    · replace c2 := b2i_nn c2
      refine t_go (op := o_aload 24 0) (fe_X12_tell 23) (fun _ _ => rfl) ?_
      refine t_go (op := o_getR 27 11 22) (fe_X12_tell 24) (g_getR hS (show (lay 183).1 = 11 by decide) (by decide) (fr_11_22 hS) (by decide)) ?_
      refine t_go (op := o_ci 29 23) (fe_X12_tell 27) (fun _ _ => rfl) ?_
      refine t_go (op := o_iald 30) (fe_X12_tell 29) (g_ialdN hS (show lay 197 = (20, 966) by decide) (nIl 23) (by omega) (by decide)) ?_
      rw [show (sI k 183 0 0).1 197 23 = 6 from hRT.1.trans (by rw [h6]; rfl)]
      refine t_go (op := o_ci 32 6) (fe_X12_tell 30) (fun _ _ => rfl) ?_
      refine t_ite (op := o_icmp 37 35 (fun x y => x = y) (fun _ _ => inferInstance)) (fe_X12_tell 32) g_icmp (fun c3 => ?_) (fun c3 => ?_)
      · clear c3
        refine t_go (op := o_ci 36 0) (fe_X12_tell 35) (fun _ _ => rfl) ?_
        refine t_ret (op := o_zret) (fe_X12_tell 36) (g_zret (Or.inl rfl)) ?_
        exact ⟨rfl, rfl⟩
      · exact absurd (by decide) c3
theorem r_markL {d : Nat} {k : AHP} {q : Nat} (hS : Std k) (hq : q < 4) : MM (d + 1) 268 [.ref 183, .int (nI q), .int (0)] k (fun v h2 => v = some (.int 1) ∧ Zf (fun i => 42 * (1 + q) ≤ i ∧ i < 42 * (1 + q) + 42) (sI k 198 q 1) h2 ∧ ∀ a, a < 42 → h2.1 197 (42 * (1 + q) + a) = k.1 197 a) := by
  refine ⟨Nat.le_of_ble_eq_true rfl, ?_⟩
  refine t_go (op := o_aload 1 0) (fe_X12_mark 0) (fun _ _ => rfl) ?_
  refine t_go (op := o_ci 2 0) (fe_X12_mark 1) (fun _ _ => rfl) ?_
  refine t_go (op := o_putI 5 11 0) (fe_X12_mark 2) (g_putI hS (show (lay 183).1 = 11 by decide) (by decide)) ?_
  refine t_go (op := o_iload 6 1) (fe_X12_mark 5) (fun _ _ => rfl) ?_
  refine t_go (op := o_ci 7 0) (fe_X12_mark 6) (fun _ _ => rfl) ?_
  refine t_go (op := o_ci 8 3) (fe_X12_mark 7) (fun _ _ => rfl) ?_
  refine t_call (op := o_callS 11 173 3) (fe_X12_mark 8) (g_callS rfl rfl rfl (Nat.le_of_ble_eq_true rfl)) ?_
  refine M_eq r_within ?_
  refine t_ite (op := o_if 14 27 (fun x => x = 0) (fun _ => inferInstance)) (fe_X12_mark 11) g_if (fun c1 => ?_) (fun c1 => ?_)
  · exact absurd (show ¬ nI q < 0 ∧ ¬ (3 : Int32) < nI q from ⟨nI_pos (by omega), nI_nlt (a := 3) (by omega) (by omega)⟩) (b2i_z c1)
  · replace c1 := b2i_nn c1
    refine t_go (op := o_iload 15 2) (fe_X12_mark 14) (fun _ _ => rfl) ?_
    refine t_ite (op := o_if 18 29 (fun x => x = 0) (fun _ => inferInstance)) (fe_X12_mark 15) g_if (fun c2 => ?_) (fun c2 => ?_)
    · clear c2
      refine t_go (op := o_aload 30 0) (fe_X12_mark 29) (fun _ _ => rfl) ?_
      refine t_go (op := o_getR 33 11 24) (fe_X12_mark 30) (g_getR hS (show (lay 183).1 = 11 by decide) (by decide) (fr_11_24 hS) (by decide)) ?_
      refine t_go (op := o_iload 34 1) (fe_X12_mark 33) (fun _ _ => rfl) ?_
      refine t_go (op := o_ci 35 1) (fe_X12_mark 34) (fun _ _ => rfl) ?_
      refine t_go (op := o_zast 36) (fe_X12_mark 35) (g_zastN hS (show lay 198 = (22, 4) by decide) rfl (by omega) (by decide) (by decide)) ?_
      refine t_go (op := o_aload 37 0) (fe_X12_mark 36) (fun _ _ => rfl) ?_
      refine t_go (op := o_iload 38 2) (fe_X12_mark 37) (fun _ _ => rfl) ?_
      refine t_ite (op := o_if 41 50 (fun x => x = 0) (fun _ => inferInstance)) (fe_X12_mark 38) g_if (fun c3 => ?_) (fun c3 => ?_)
      · clear c3
        refine t_go (op := o_ci 51 0) (fe_X12_mark 50) (fun _ _ => rfl) ?_
        refine t_go (op := o_iload 52 2) (fe_X12_mark 51) (fun _ _ => rfl) ?_
        refine t_ite (op := o_if 55 59 (fun x => x = 0) (fun _ => inferInstance)) (fe_X12_mark 52) g_if (fun c4 => ?_) (fun c4 => ?_)
        · clear c4
          refine t_go (op := o_ci 61 42) (fe_X12_mark 59) (fun _ _ => rfl) ?_
          refine t_go (op := o_ci 62 1) (fe_X12_mark 61) (fun _ _ => rfl) ?_
          refine t_go (op := o_iload 63 1) (fe_X12_mark 62) (fun _ _ => rfl) ?_
          refine t_go (op := o_i2 64 (fun x y => x + y)) (fe_X12_mark 63) (fun _ _ => rfl) ?_
          refine t_go (op := o_i2 65 (fun x y => x * y)) (fe_X12_mark 64) (fun _ _ => rfl) ?_
          refine t_go (op := o_ci 67 42) (fe_X12_mark 65) (fun _ _ => rfl) ?_
          refine t_call (op := o_callV 70 196 4 11) (fe_X12_mark 67) (g_callV hS (show (lay 183).1 = 11 by decide) (by decide) rfl rfl rfl (Nat.le_of_ble_eq_true rfl)) ?_
          refine M_args2 rfl (nIm (nIl 42) (nIa (nIl 1) rfl)) ?_
          refine M_mono ?_ (r_copies (k := sI (sI k 183 0 0) 198 q 1) (p := 0) (q := 42 * (1 + q)) (c := 42) hS (by omega) (by omega) (by omega))
          rintro _ h2 ⟨rfl, hz2, hc⟩
          replace hS := hz2.std hS
          refine t_go (op := o_aload 71 0) (fe_X12_mark 70) (fun _ _ => rfl) ?_
          refine t_go (op := o_iload 72 2) (fe_X12_mark 71) (fun _ _ => rfl) ?_
          refine t_ite (op := o_if 75 79 (fun x => x = 0) (fun _ => inferInstance)) (fe_X12_mark 72) g_if (fun c5 => ?_) (fun c5 => ?_)
          · clear c5
            refine t_go (op := o_aload 80 0) (fe_X12_mark 79) (fun _ _ => rfl) ?_
            refine t_go (op := o_getI 83 11 23) (fe_X12_mark 80) (g_getI hS (show (lay 183).1 = 11 by decide) (by decide)) ?_
            rw [show h2.1 183 23 = k.1 183 23 from hz2.2.2.2.1 23 (by decide)]
            refine t_go (op := o_putI 86 11 23) (fe_X12_mark 83) (g_putI hS (show (lay 183).1 = 11 by decide) (by decide)) ?_
            refine t_go (op := o_ci 87 1) (fe_X12_mark 86) (fun _ _ => rfl) ?_
            refine t_ret (op := o_zret) (fe_X12_mark 87) (g_zret (Or.inr rfl)) ?_
            rw [show k.1 183 23 = h2.1 183 23 from (hz2.2.2.2.1 23 (by decide)).symm, sI_id]
            refine ⟨rfl, Zf.tr ?_ hz2, fun a ha => ?_⟩
            · refine ⟨rfl, fun _ _ => rfl, fun a ha => ?_, fun i hi => ?_, fun i hi => ?_⟩
              · funext j
                simp only [sI, up2]
                by_cases h1 : a = 198
                · subst h1; simp
                · have : ¬ a = 183 := by omega
                  simp [h1, this]
              · rw [sI_ne (a := 198) (by decide), sI_nr hi, sI_ne (a := 198) (by decide)]
              · rw [sI_ne (by decide), sI_ne (by decide), sI_ne (by decide)]
            · rw [hc a ha, Nat.zero_add, sI_ne (by decide), sI_ne (by decide)]
          · exact absurd (by decide) c5
        · exact absurd (by decide) c4
      · exact absurd (by decide) c3
    · exact absurd (by decide) c2
theorem r_markB {d : Nat} {k : AHP} {q : Nat} (hS : Std k) (hq : q < 4) (hl : k.1 198 q = 1) : MM (d + 1) 268 [.ref 183, .int (nI q), .int (1)] k (fun v h2 => v = some (.int 1) ∧ Zf (fun i => i < 42) (sI k 183 23 0) h2 ∧ ∀ a, a < 42 → h2.1 197 a = k.1 197 (42 * (1 + q) + a)) := by
  refine ⟨Nat.le_of_ble_eq_true rfl, ?_⟩
  refine t_go (op := o_aload 1 0) (fe_X12_mark 0) (fun _ _ => rfl) ?_
  refine t_go (op := o_ci 2 0) (fe_X12_mark 1) (fun _ _ => rfl) ?_
  refine t_go (op := o_putI 5 11 0) (fe_X12_mark 2) (g_putI hS (show (lay 183).1 = 11 by decide) (by decide)) ?_
  refine t_go (op := o_iload 6 1) (fe_X12_mark 5) (fun _ _ => rfl) ?_
  refine t_go (op := o_ci 7 0) (fe_X12_mark 6) (fun _ _ => rfl) ?_
  refine t_go (op := o_ci 8 3) (fe_X12_mark 7) (fun _ _ => rfl) ?_
  refine t_call (op := o_callS 11 173 3) (fe_X12_mark 8) (g_callS rfl rfl rfl (Nat.le_of_ble_eq_true rfl)) ?_
  refine M_eq r_within ?_
  refine t_ite (op := o_if 14 27 (fun x => x = 0) (fun _ => inferInstance)) (fe_X12_mark 11) g_if (fun c1 => ?_) (fun c1 => ?_)
  · exact absurd (show ¬ nI q < 0 ∧ ¬ (3 : Int32) < nI q from ⟨nI_pos (by omega), nI_nlt (a := 3) (by omega) (by omega)⟩) (b2i_z c1)
  · replace c1 := b2i_nn c1
    refine t_go (op := o_iload 15 2) (fe_X12_mark 14) (fun _ _ => rfl) ?_
    refine t_ite (op := o_if 18 29 (fun x => x = 0) (fun _ => inferInstance)) (fe_X12_mark 15) g_if (fun c2 => ?_) (fun c2 => ?_)
    · exact absurd c2 (by decide)
    · clear c2
      refine t_go (op := o_aload 19 0) (fe_X12_mark 18) (fun _ _ => rfl) ?_
      refine t_go (op := o_getR 22 11 24) (fe_X12_mark 19) (g_getR hS (show (lay 183).1 = 11 by decide) (by decide) (fr_11_24 hS) (by decide)) ?_
      refine t_go (op := o_iload 23 1) (fe_X12_mark 22) (fun _ _ => rfl) ?_
      refine t_go (op := o_zald 24) (fe_X12_mark 23) (g_zaldN hS (show lay 198 = (22, 4) by decide) rfl (by omega) (by decide)) ?_
      rw [show (sI k 183 0 0).1 198 q = 1 from hl]
      refine t_ite (op := o_if 29 27 (fun x => x = 0) (fun _ => inferInstance)) (fe_X12_mark 24) g_if (fun c3 => ?_) (fun c3 => ?_)
      · exact absurd c3 (by decide)
      · clear c3
        refine t_go (op := o_aload 30 0) (fe_X12_mark 29) (fun _ _ => rfl) ?_
        refine t_go (op := o_getR 33 11 24) (fe_X12_mark 30) (g_getR hS (show (lay 183).1 = 11 by decide) (by decide) (fr_11_24 hS) (by decide)) ?_
        refine t_go (op := o_iload 34 1) (fe_X12_mark 33) (fun _ _ => rfl) ?_
        refine t_go (op := o_ci 35 1) (fe_X12_mark 34) (fun _ _ => rfl) ?_
        refine t_go (op := o_zast 36) (fe_X12_mark 35) (g_zastN hS (show lay 198 = (22, 4) by decide) rfl (by omega) (by decide) (by decide)) ?_
        refine t_go (op := o_aload 37 0) (fe_X12_mark 36) (fun _ _ => rfl) ?_
        refine t_go (op := o_iload 38 2) (fe_X12_mark 37) (fun _ _ => rfl) ?_
        refine t_ite (op := o_if 41 50 (fun x => x = 0) (fun _ => inferInstance)) (fe_X12_mark 38) g_if (fun c4 => ?_) (fun c4 => ?_)
        · exact absurd c4 (by decide)
        · clear c4
          refine t_go (op := o_ci 43 42) (fe_X12_mark 41) (fun _ _ => rfl) ?_
          refine t_go (op := o_ci 44 1) (fe_X12_mark 43) (fun _ _ => rfl) ?_
          refine t_go (op := o_iload 45 1) (fe_X12_mark 44) (fun _ _ => rfl) ?_
          refine t_go (op := o_i2 46 (fun x y => x + y)) (fe_X12_mark 45) (fun _ _ => rfl) ?_
          refine t_go (op := o_i2 47 (fun x y => x * y)) (fe_X12_mark 46) (fun _ _ => rfl) ?_
          refine t_go (op := o_goto 51) (fe_X12_mark 47) (fun _ _ => rfl) ?_
          refine t_go (op := o_iload 52 2) (fe_X12_mark 51) (fun _ _ => rfl) ?_
          refine t_ite (op := o_if 55 59 (fun x => x = 0) (fun _ => inferInstance)) (fe_X12_mark 52) g_if (fun c5 => ?_) (fun c5 => ?_)
          · exact absurd c5 (by decide)
          · clear c5
            refine t_go (op := o_ci 56 0) (fe_X12_mark 55) (fun _ _ => rfl) ?_
            refine t_go (op := o_goto 65) (fe_X12_mark 56) (fun _ _ => rfl) ?_
            refine t_go (op := o_ci 67 42) (fe_X12_mark 65) (fun _ _ => rfl) ?_
            refine t_call (op := o_callV 70 196 4 11) (fe_X12_mark 67) (g_callV hS (show (lay 183).1 = 11 by decide) (by decide) rfl rfl rfl (Nat.le_of_ble_eq_true rfl)) ?_
            refine M_args2 (nIm (nIl 42) (nIa (nIl 1) rfl)) rfl ?_
            refine M_mono ?_ (r_copies (k := sI (sI k 183 0 0) 198 q 1) (p := 42 * (1 + q)) (q := 0) (c := 42) hS (by omega) (by omega) (by omega))
            rintro _ h2 ⟨rfl, hz2, hc⟩
            replace hS := hz2.std hS
            refine t_go (op := o_aload 71 0) (fe_X12_mark 70) (fun _ _ => rfl) ?_
            refine t_go (op := o_iload 72 2) (fe_X12_mark 71) (fun _ _ => rfl) ?_
            refine t_ite (op := o_if 75 79 (fun x => x = 0) (fun _ => inferInstance)) (fe_X12_mark 72) g_if (fun c6 => ?_) (fun c6 => ?_)
            · exact absurd c6 (by decide)
            · clear c6
              refine t_go (op := o_ci 76 0) (fe_X12_mark 75) (fun _ _ => rfl) ?_
              refine t_go (op := o_goto 83) (fe_X12_mark 76) (fun _ _ => rfl) ?_
              refine t_go (op := o_putI 86 11 23) (fe_X12_mark 83) (g_putI hS (show (lay 183).1 = 11 by decide) (by decide)) ?_
              refine t_go (op := o_ci 87 1) (fe_X12_mark 86) (fun _ _ => rfl) ?_
              refine t_ret (op := o_zret) (fe_X12_mark 87) (g_zret (Or.inr rfl)) ?_
              refine ⟨rfl, ?_, fun a ha => ?_⟩
              · have e1 : sI (sI k 183 0 0) 198 q 1 = sI k 183 0 0 := by
                  have := sI_id (k := sI k 183 0 0) (a := 198) (i := q)
                  rw [show (sI k 183 0 0).1 198 q = 1 from hl] at this
                  exact this
                rw [e1] at hz2
                have hz3 : Zf (fun i => i < 42) (sI k 183 23 (k.1 183 23)) h2 := by
                  rw [sI_id]
                  exact (Zf_thr Zf.rf).tr (hz2.mono (fun i q => by have := q.2; omega))
                exact hz3.s23
              · have h1 := hc a ha
                rw [Nat.zero_add, sI_ne (a := 198) (by decide), sI_ne (by decide)] at h1
                rw [← h1]
                rfl
theorem r_markN {d : Nat} {k : AHP} {q : Nat} (hS : Std k) (hq : q < 4) (hl : k.1 198 q = 0) : MM (d + 1) 268 [.ref 183, .int (nI q), .int (1)] k (fun v h2 => v = some (.int 0) ∧ h2 = sI k 183 0 0) := by
  refine ⟨Nat.le_of_ble_eq_true rfl, ?_⟩
  refine t_go (op := o_aload 1 0) (fe_X12_mark 0) (fun _ _ => rfl) ?_
  refine t_go (op := o_ci 2 0) (fe_X12_mark 1) (fun _ _ => rfl) ?_
  refine t_go (op := o_putI 5 11 0) (fe_X12_mark 2) (g_putI hS (show (lay 183).1 = 11 by decide) (by decide)) ?_
  refine t_go (op := o_iload 6 1) (fe_X12_mark 5) (fun _ _ => rfl) ?_
  refine t_go (op := o_ci 7 0) (fe_X12_mark 6) (fun _ _ => rfl) ?_
  refine t_go (op := o_ci 8 3) (fe_X12_mark 7) (fun _ _ => rfl) ?_
  refine t_call (op := o_callS 11 173 3) (fe_X12_mark 8) (g_callS rfl rfl rfl (Nat.le_of_ble_eq_true rfl)) ?_
  refine M_eq r_within ?_
  refine t_ite (op := o_if 14 27 (fun x => x = 0) (fun _ => inferInstance)) (fe_X12_mark 11) g_if (fun c1 => ?_) (fun c1 => ?_)
  · exact absurd (show ¬ nI q < 0 ∧ ¬ (3 : Int32) < nI q from ⟨nI_pos (by omega), nI_nlt (a := 3) (by omega) (by omega)⟩) (b2i_z c1)
  · replace c1 := b2i_nn c1
    refine t_go (op := o_iload 15 2) (fe_X12_mark 14) (fun _ _ => rfl) ?_
    refine t_ite (op := o_if 18 29 (fun x => x = 0) (fun _ => inferInstance)) (fe_X12_mark 15) g_if (fun c2 => ?_) (fun c2 => ?_)
    · exact absurd c2 (by decide)
    · clear c2
      refine t_go (op := o_aload 19 0) (fe_X12_mark 18) (fun _ _ => rfl) ?_
      refine t_go (op := o_getR 22 11 24) (fe_X12_mark 19) (g_getR hS (show (lay 183).1 = 11 by decide) (by decide) (fr_11_24 hS) (by decide)) ?_
      refine t_go (op := o_iload 23 1) (fe_X12_mark 22) (fun _ _ => rfl) ?_
      refine t_go (op := o_zald 24) (fe_X12_mark 23) (g_zaldN hS (show lay 198 = (22, 4) by decide) rfl (by omega) (by decide)) ?_
      rw [show (sI k 183 0 0).1 198 q = 0 from hl]
      refine t_ite (op := o_if 29 27 (fun x => x = 0) (fun _ => inferInstance)) (fe_X12_mark 24) g_if (fun c3 => ?_) (fun c3 => ?_)
      · clear c3
        refine t_go (op := o_ci 28 0) (fe_X12_mark 27) (fun _ _ => rfl) ?_
        refine t_ret (op := o_zret) (fe_X12_mark 28) (g_zret (Or.inl rfl)) ?_
        exact ⟨rfl, rfl⟩
      · exact absurd (by decide) c3
theorem r_markF {d : Nat} {k : AHP} (hS : Std k) {x y : Int32} (hn : ¬ (¬ x < 0 ∧ ¬ 3 < x)) : MM (d + 1) 268 [.ref 183, .int x, .int y] k (fun v h2 => v = some (.int 0) ∧ h2 = sI k 183 0 0) := by
  refine ⟨Nat.le_of_ble_eq_true rfl, ?_⟩
  refine t_go (op := o_aload 1 0) (fe_X12_mark 0) (fun _ _ => rfl) ?_
  refine t_go (op := o_ci 2 0) (fe_X12_mark 1) (fun _ _ => rfl) ?_
  refine t_go (op := o_putI 5 11 0) (fe_X12_mark 2) (g_putI hS (show (lay 183).1 = 11 by decide) (by decide)) ?_
  refine t_go (op := o_iload 6 1) (fe_X12_mark 5) (fun _ _ => rfl) ?_
  refine t_go (op := o_ci 7 0) (fe_X12_mark 6) (fun _ _ => rfl) ?_
  refine t_go (op := o_ci 8 3) (fe_X12_mark 7) (fun _ _ => rfl) ?_
  refine t_call (op := o_callS 11 173 3) (fe_X12_mark 8) (g_callS rfl rfl rfl (Nat.le_of_ble_eq_true rfl)) ?_
  refine M_eq r_within ?_
  refine t_ite (op := o_if 14 27 (fun x => x = 0) (fun _ => inferInstance)) (fe_X12_mark 11) g_if (fun c1 => ?_) (fun c1 => ?_)
  · replace c1 := b2i_z c1
    refine t_go (op := o_ci 28 0) (fe_X12_mark 27) (fun _ _ => rfl) ?_
    refine t_ret (op := o_zret) (fe_X12_mark 28) (g_zret (Or.inl rfl)) ?_
    exact ⟨rfl, rfl⟩
  · exact absurd (b2i_nn c1) hn
def ulS (i : Nat) (h : AHP) : AHP := sI h 198 i 0
theorem ul_it : ∀ (j i : Nat) (h : AHP), (it ulS j i h).2 = h.2 ∧ (∀ a, a ≠ 198 → (it ulS j i h).1 a = h.1 a) ∧ ∀ q, i ≤ q → q < i + j → (it ulS j i h).1 198 q = 0 := by
  intro j
  induction j with
  | zero => intro i h; exact ⟨rfl, fun _ _ => rfl, fun q h1 h2 => by omega⟩
  | succ j ih =>
    intro i h
    rw [it_step]
    obtain ⟨h1, h2, h3⟩ := ih (i + 1) (ulS i h)
    refine ⟨h1, fun a ha => (h2 a ha).trans (sI_ne ha), fun q h4 h5 => ?_⟩
    by_cases hq : q = i
    · subst hq
      have h6 : ∀ (j i : Nat) (h : AHP), q < i → (it ulS j i h).1 198 q = h.1 198 q := by
        intro j
        induction j with
        | zero => intro i h _; rfl
        | succ j ih2 => intro i h hi; rw [it_step, ih2 (i + 1) _ (by omega)]; exact sI_nr (by omega)
      rw [h6 j (q + 1) _ (by omega)]
      exact sI_eq
    · exact h3 q (by omega) (by omega)
theorem lr_unl {d : Nat} {Q : Option Value → AHP → Prop} : ∀ (j i : Nat) (S : AHP), i + j = 4 → Std S → Q none (it ulS j i S) → TT d 198 27 [some (.ref 183), some (.int (nI i))] [] S Q := by
  intro j
  induction j with
  | zero =>
    intro i S hi hS hq
    have hN : i = 4 := by omega
    refine t_go (op := o_iload 28 1) (fe_X12_begins 27) (fun _ _ => rfl) ?_
    refine t_go (op := o_ci 29 4) (fe_X12_begins 28) (fun _ _ => rfl) ?_
    refine t_ite (op := o_icmp 32 45 (fun x y => y ≤ x) (fun _ _ => inferInstance)) (fe_X12_begins 29) g_icmp (fun c1 => ?_) (fun c1 => ?_)
    · refine t_ret (op := o_vret) (fe_X12_begins 45) (fun _ _ => rfl) ?_
      exact hq
    · exact absurd (by rw [hN]; exact Int32.le_refl _) c1
  | succ j ih =>
    intro i S hi hS hq
    have hi7 : i < 4 := by omega
    refine t_go (op := o_iload 28 1) (fe_X12_begins 27) (fun _ _ => rfl) ?_
    refine t_go (op := o_ci 29 4) (fe_X12_begins 28) (fun _ _ => rfl) ?_
    refine t_ite (op := o_icmp 32 45 (fun x y => y ≤ x) (fun _ _ => inferInstance)) (fe_X12_begins 29) g_icmp (fun c1 => ?_) (fun c1 => ?_)
    · exact absurd c1 (nI_ge hi7 (by decide))
    · refine t_go (op := o_aload 33 0) (fe_X12_begins 32) (fun _ _ => rfl) ?_
      refine t_go (op := o_getR 36 11 24) (fe_X12_begins 33) (g_getR hS (show (lay 183).1 = 11 by decide) (by decide) (fr_11_24 hS) (by decide)) ?_
      refine t_go (op := o_iload 37 1) (fe_X12_begins 36) (fun _ _ => rfl) ?_
      refine t_go (op := o_ci 38 0) (fe_X12_begins 37) (fun _ _ => rfl) ?_
      refine t_go (op := o_zast 39) (fe_X12_begins 38) (g_zastN hS (show lay 198 = (22, 4) by decide) rfl (by omega) (by decide) (by decide)) ?_
      refine t_go (op := o_iinc 42 1 1) (fe_X12_begins 39) (fun _ _ => rfl) ?_
      refine t_go (op := o_goto 27) (fe_X12_begins 42) (fun _ _ => rfl) ?_
      rw [it_step] at hq
      rw [nI_1]
      exact ih (i + 1) _ (by omega) hS hq
theorem RB_st {h : AHP} {F : FS} {v : Int32} (hB : RB (h.1 197) 0 F) : RB ((sI h 197 23 v).1 197) 0 F := by
  refine ⟨fun e he => ⟨?_, ?_, ?_⟩, ?_, ?_⟩
  · rw [sI_nr (by omega)]; exact (hB.1 e he).1
  · rw [sI_nr (by omega)]; exact (hB.1 e he).2.1
  · rw [sI_nr (by omega)]; exact (hB.1 e he).2.2
  · rw [sI_nr (by omega)]; exact hB.2.1
  · rw [sI_nr (by omega)]; exact hB.2.2
theorem r_begins {d : Nat} {k : AHP} {m : Nat} {F : FS} (hS : Std k) (hE : k.1 189 0 = nI m) (hm : m ≤ 7) (hG : RG k m F) : MM (d + 2) 198 [.ref 183] k (fun v h2 => v = none ∧ h2.2 = k.2 ∧ (∀ a, zRow a → a ≠ 194 → a ≠ 198 → h2.1 a = k.1 a) ∧ (∀ i, i ≠ 0 → i ≠ 23 → h2.1 183 i = k.1 183 i) ∧ RB (h2.1 197) 0 F ∧ h2.1 197 23 = 0 ∧ h2.1 194 0 = 0 ∧ h2.1 183 23 = 0 ∧ ∀ q, q < 4 → h2.1 198 q = 0) := by
  refine ⟨Nat.le_of_ble_eq_true rfl, ?_⟩
  refine t_go (op := o_aload 1 0) (fe_X12_begins 0) (fun _ _ => rfl) ?_
  refine t_go (op := o_ci 2 0) (fe_X12_begins 1) (fun _ _ => rfl) ?_
  refine t_call (op := o_callV 5 197 2 11) (fe_X12_begins 2) (g_callV hS (show (lay 183).1 = 11 by decide) (by decide) rfl rfl rfl (Nat.le_of_ble_eq_true rfl)) ?_
  refine M_mono ?_ (r_starts (b := 0) hS hE hm hG (by decide))
  rintro _ h2 ⟨rfl, hz, hB⟩
  replace hS := hz.std hS
  refine t_go (op := o_aload 6 0) (fe_X12_begins 5) (fun _ _ => rfl) ?_
  refine t_go (op := o_getR 9 11 22) (fe_X12_begins 6) (g_getR hS (show (lay 183).1 = 11 by decide) (by decide) (fr_11_22 hS) (by decide)) ?_
  refine t_go (op := o_ci 11 23) (fe_X12_begins 9) (fun _ _ => rfl) ?_
  refine t_go (op := o_ci 12 0) (fe_X12_begins 11) (fun _ _ => rfl) ?_
  refine t_go (op := o_iast 13) (fe_X12_begins 12) (g_iastN hS (show lay 197 = (20, 966) by decide) (nIl 23) (by omega) (by decide)) ?_
  refine t_go (op := o_aload 14 0) (fe_X12_begins 13) (fun _ _ => rfl) ?_
  refine t_go (op := o_getR 17 11 19) (fe_X12_begins 14) (g_getR hS (show (lay 183).1 = 11 by decide) (by decide) (fr_11_19 hS) (by decide)) ?_
  refine t_go (op := o_ci 18 0) (fe_X12_begins 17) (fun _ _ => rfl) ?_
  refine t_go (op := o_ci 19 0) (fe_X12_begins 18) (fun _ _ => rfl) ?_
  refine t_go (op := o_iast 20) (fe_X12_begins 19) (g_iastN hS (show lay 194 = (20, 250) by decide) (nIl 0) (by omega) (by decide)) ?_
  refine t_go (op := o_aload 21 0) (fe_X12_begins 20) (fun _ _ => rfl) ?_
  refine t_go (op := o_ci 22 0) (fe_X12_begins 21) (fun _ _ => rfl) ?_
  refine t_go (op := o_putI 25 11 23) (fe_X12_begins 22) (g_putI hS (show (lay 183).1 = 11 by decide) (by decide)) ?_
  refine t_go (op := o_ci 26 0) (fe_X12_begins 25) (fun _ _ => rfl) ?_
  refine t_go (op := o_istore 27 1) (fe_X12_begins 26) (fun _ _ => rfl) ?_
  refine lr_unl 4 0 _ (by omega) hS ?_
  obtain ⟨h1, h3, h4⟩ := ul_it 4 0 (sI (sI (sI h2 197 23 0) 194 0 0) 183 23 0)
  refine ⟨rfl, h1.trans ?_, fun a ha n1 n2 => (h3 a n2).trans ?_, fun i i1 i2 => ?_, ?_, ?_, ?_, ?_, fun q hq => h4 q (by omega) (by omega)⟩
  · exact Prod.ext (funext fun a => hz.g a) hz.1
  · rw [sI_ne (by omega), sI_ne n1, sI_ne (by omega)]; exact hz.row ha
  · rw [h3 183 (by decide), sI_nr i2, sI_ne (by decide), sI_ne (by decide)]; exact hz.2.2.2.1 i i1
  · rw [h3 197 (by decide), sI_ne (by decide), sI_ne (by decide)]
    exact RB_st hB
  · rw [h3 197 (by decide), sI_ne (by decide), sI_ne (by decide), sI_eq]
  · rw [h3 194 (by decide), sI_ne (by decide), sI_eq]
  · rw [h3 183 (by decide), sI_eq]
