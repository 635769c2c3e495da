/-! ===== the class's reader: which level, which step ===== -/
noncomputable def lvV (TK : Nat → Tk) (i : Nat) : Int32 := cI (isWd TK 17 i 0 ∨ isWd TK 18 i 0) 0 (cI (isS TK 60 i 0 ∨ isS TK 61 i 0) 1 (cI (isS TK 43 i 0 ∨ isS TK 45 i 0) 2 (cI (isS TK 42 i 0) 3 (-1))))
theorem lv_op {TK : Nat → Tk} {s : St} (hf : s.2.1 = 0) {l : Nat} (hl : l ≤ 3) : lvV TK s.1 = nI l ↔ opP TK l s := by
  have q1 : ∀ c j, isWd TK c s.1 0 → ¬ isS TK j s.1 0 := fun c j h1 h2 => by have a := h1.2.1; rw [h2.2.1] at a; exact absurd a (by decide)
  have q2 : ∀ c j, c ≠ j → isS TK c s.1 0 → ¬ isS TK j s.1 0 := fun c j h h1 h2 => h (h1.2.2.symm.trans h2.2.2)
  have hop : ∀ l, opP TK l s ↔ opP TK l (s.1, 0, s.2.2) := fun l => by
    have : s = (s.1, 0, s.2.2) := by rw [← hf]
    rw [← this]
  rw [hop]
  unfold lvV
  by_cases c0 : isWd TK 17 s.1 0 ∨ isWd TK 18 s.1 0
  · rw [cI_t c0]
    match l, hl with
    | 0, _ => exact ⟨fun _ => c0, fun _ => rfl⟩
    | 1, _ => exact ⟨fun q => absurd q (by decide), fun q => by rcases c0 with a | a <;> rcases q with b | b <;> exact absurd b (q1 _ _ a)⟩
    | 2, _ => exact ⟨fun q => absurd q (by decide), fun q => by rcases c0 with a | a <;> rcases q with b | b <;> exact absurd b (q1 _ _ a)⟩
    | 3, _ => exact ⟨fun q => absurd q (by decide), fun q => by rcases c0 with a | a <;> exact absurd q (q1 _ _ a)⟩
    | l + 4, hl => exact absurd hl (by omega)
  · rw [cI_f c0]
    by_cases c1 : isS TK 60 s.1 0 ∨ isS TK 61 s.1 0
    · rw [cI_t c1]
      match l, hl with
      | 0, _ => exact ⟨fun q => absurd q (by decide), fun q => absurd q c0⟩
      | 1, _ => exact ⟨fun _ => c1, fun _ => rfl⟩
      | 2, _ => exact ⟨fun q => absurd q (by decide), fun q => by rcases c1 with a | a <;> rcases q with b | b <;> exact absurd b (q2 _ _ (by decide) a)⟩
      | 3, _ => exact ⟨fun q => absurd q (by decide), fun q => by rcases c1 with a | a <;> exact absurd q (q2 _ _ (by decide) a)⟩
      | l + 4, hl => exact absurd hl (by omega)
    · rw [cI_f c1]
      by_cases c2 : isS TK 43 s.1 0 ∨ isS TK 45 s.1 0
      · rw [cI_t c2]
        match l, hl with
        | 0, _ => exact ⟨fun q => absurd q (by decide), fun q => absurd q c0⟩
        | 1, _ => exact ⟨fun q => absurd q (by decide), fun q => absurd q c1⟩
        | 2, _ => exact ⟨fun _ => c2, fun _ => rfl⟩
        | 3, _ => exact ⟨fun q => absurd q (by decide), fun q => by rcases c2 with a | a <;> exact absurd q (q2 _ _ (by decide) a)⟩
        | l + 4, hl => exact absurd hl (by omega)
      · rw [cI_f c2]
        by_cases c3 : isS TK 42 s.1 0
        · rw [cI_t c3]
          match l, hl with
          | 0, _ => exact ⟨fun q => absurd q (by decide), fun q => absurd q c0⟩
          | 1, _ => exact ⟨fun q => absurd q (by decide), fun q => absurd q c1⟩
          | 2, _ => exact ⟨fun q => absurd q (by decide), fun q => absurd q c2⟩
          | 3, _ => exact ⟨fun _ => c3, fun _ => rfl⟩
          | l + 4, hl => exact absurd hl (by omega)
        · rw [cI_f c3]
          match l, hl with
          | 0, _ => exact ⟨fun q => absurd q (by decide), fun q => absurd q c0⟩
          | 1, _ => exact ⟨fun q => absurd q (by decide), fun q => absurd q c1⟩
          | 2, _ => exact ⟨fun q => absurd q (by decide), fun q => absurd q c2⟩
          | 3, _ => exact ⟨fun q => absurd q (by decide), fun q => absurd q c3⟩
          | l + 4, hl => exact absurd hl (by omega)
theorem c_levelHere {d : Nat} {h : AHP} {ch : Nat → Nat} {len i : Nat} (hS : Std h) (hC : CU h ch len i) : MM (d + 1) 80 [.ref 4] h (fun v h2 => v = some (.int (lvV (tkT ch len) i)) ∧ h2 = h) := by
  refine ⟨Nat.le_of_ble_eq_true rfl, ?_⟩
  have hB := hC.b i
  refine t_go (op := o_aload 1 0) (fe_X7_levelHere 0) (fun _ _ => rfl) ?_
  refine t_go (op := o_getR 4 6 0) (fe_X7_levelHere 1) (g_getR hS (show (lay 4).1 = 6 by decide) (by decide) (fr_6_0 hS) (by decide)) ?_
  refine t_go (op := o_getR 7 8 6) (fe_X7_levelHere 4) (g_getR hS (by decide) (by decide) hC.key (by omega)) ?_
  refine t_go (op := o_gets 10 200017) (fe_X7_levelHere 7) (fun _ _ => rfl) ?_
  refine t_ite (op := o_acmpEq 13 26) (fe_X7_levelHere 10) (g_acmpEq (ky_b hB (c := 17) (by decide))) (fun c1 => ?_) (fun c1 => ?_)
  · refine t_go (op := o_ci 27 0) (fe_X7_levelHere 26) (fun _ _ => rfl) ?_
    refine t_ret (op := o_iret) (fe_X7_levelHere 27) (fun _ _ => rfl) ?_
    exact ⟨congrArg (fun z => some (Value.int z)) (show lvV (tkT ch len) i = _ from cI_t (Or.inl ((ky_w (c := 17) (by decide)).mp c1))).symm, rfl⟩
  · refine t_go (op := o_aload 14 0) (fe_X7_levelHere 13) (fun _ _ => rfl) ?_
    refine t_go (op := o_getR 17 6 0) (fe_X7_levelHere 14) (g_getR hS (show (lay 4).1 = 6 by decide) (by decide) (fr_6_0 hS) (by decide)) ?_
    refine t_go (op := o_getR 20 8 6) (fe_X7_levelHere 17) (g_getR hS (by decide) (by decide) hC.key (by omega)) ?_
    refine t_go (op := o_gets 23 200018) (fe_X7_levelHere 20) (fun _ _ => rfl) ?_
    refine t_ite (op := o_acmpNe 26 28) (fe_X7_levelHere 23) (g_acmpNe (ky_b hB (c := 18) (by decide))) (fun c2 => ?_) (fun c2 => ?_)
    · refine t_go (op := o_ci 27 0) (fe_X7_levelHere 26) (fun _ _ => rfl) ?_
      refine t_ret (op := o_iret) (fe_X7_levelHere 27) (fun _ _ => rfl) ?_
      exact ⟨congrArg (fun z => some (Value.int z)) (show lvV (tkT ch len) i = _ from cI_t (Or.inr ((ky_w (c := 18) (by decide)).mp c2))).symm, rfl⟩
    · refine t_go (op := o_aload 29 0) (fe_X7_levelHere 28) (fun _ _ => rfl) ?_
      refine t_go (op := o_getR 32 6 0) (fe_X7_levelHere 29) (g_getR hS (show (lay 4).1 = 6 by decide) (by decide) (fr_6_0 hS) (by decide)) ?_
      refine t_go (op := o_ci 34 60) (fe_X7_levelHere 32) (fun _ _ => rfl) ?_
      refine t_call (op := o_callV 37 98 2 8) (fe_X7_levelHere 34) (g_callV hS (by decide) (by decide) rfl rfl rfl (Nat.le_of_ble_eq_true rfl)) ?_
      refine M_eq (c_isSign (c := 60) hS hC (by decide)) ?_
      refine t_ite (op := o_if 52 40 (fun x => x = 0) (fun _ => inferInstance)) (fe_X7_levelHere 37) g_if (fun c3 => ?_) (fun c3 => ?_)
      · replace c3 := b2i_z c3
        refine t_go (op := o_aload 41 0) (fe_X7_levelHere 40) (fun _ _ => rfl) ?_
        refine t_go (op := o_getR 44 6 0) (fe_X7_levelHere 41) (g_getR hS (show (lay 4).1 = 6 by decide) (by decide) (fr_6_0 hS) (by decide)) ?_
        refine t_go (op := o_ci 46 61) (fe_X7_levelHere 44) (fun _ _ => rfl) ?_
        refine t_call (op := o_callV 49 98 2 8) (fe_X7_levelHere 46) (g_callV hS (by decide) (by decide) rfl rfl rfl (Nat.le_of_ble_eq_true rfl)) ?_
        refine M_eq (c_isSign (c := 61) hS hC (by decide)) ?_
        refine t_ite (op := o_if 52 54 (fun x => x = 0) (fun _ => inferInstance)) (fe_X7_levelHere 49) g_if (fun c4 => ?_) (fun c4 => ?_)
        · replace c4 := b2i_z c4
          refine t_go (op := o_aload 55 0) (fe_X7_levelHere 54) (fun _ _ => rfl) ?_
          refine t_go (op := o_getR 58 6 0) (fe_X7_levelHere 55) (g_getR hS (show (lay 4).1 = 6 by decide) (by decide) (fr_6_0 hS) (by decide)) ?_
          refine t_go (op := o_ci 60 43) (fe_X7_levelHere 58) (fun _ _ => rfl) ?_
          refine t_call (op := o_callV 63 98 2 8) (fe_X7_levelHere 60) (g_callV hS (by decide) (by decide) rfl rfl rfl (Nat.le_of_ble_eq_true rfl)) ?_
          refine M_eq (c_isSign (c := 43) hS hC (by decide)) ?_
          refine t_ite (op := o_if 78 66 (fun x => x = 0) (fun _ => inferInstance)) (fe_X7_levelHere 63) g_if (fun c5 => ?_) (fun c5 => ?_)
          · replace c5 := b2i_z c5
            refine t_go (op := o_aload 67 0) (fe_X7_levelHere 66) (fun _ _ => rfl) ?_
            refine t_go (op := o_getR 70 6 0) (fe_X7_levelHere 67) (g_getR hS (show (lay 4).1 = 6 by decide) (by decide) (fr_6_0 hS) (by decide)) ?_
            refine t_go (op := o_ci 72 45) (fe_X7_levelHere 70) (fun _ _ => rfl) ?_
            refine t_call (op := o_callV 75 98 2 8) (fe_X7_levelHere 72) (g_callV hS (by decide) (by decide) rfl rfl rfl (Nat.le_of_ble_eq_true rfl)) ?_
            refine M_eq (c_isSign (c := 45) hS hC (by decide)) ?_
            refine t_ite (op := o_if 78 80 (fun x => x = 0) (fun _ => inferInstance)) (fe_X7_levelHere 75) g_if (fun c6 => ?_) (fun c6 => ?_)
            · replace c6 := b2i_z c6
              refine t_go (op := o_aload 81 0) (fe_X7_levelHere 80) (fun _ _ => rfl) ?_
              refine t_go (op := o_getR 84 6 0) (fe_X7_levelHere 81) (g_getR hS (show (lay 4).1 = 6 by decide) (by decide) (fr_6_0 hS) (by decide)) ?_
              refine t_go (op := o_ci 86 42) (fe_X7_levelHere 84) (fun _ _ => rfl) ?_
              refine t_call (op := o_callV 89 98 2 8) (fe_X7_levelHere 86) (g_callV hS (by decide) (by decide) rfl rfl rfl (Nat.le_of_ble_eq_true rfl)) ?_
              refine M_eq (c_isSign (c := 42) hS hC (by decide)) ?_
              refine t_ite (op := o_if 92 96 (fun x => x = 0) (fun _ => inferInstance)) (fe_X7_levelHere 89) g_if (fun c7 => ?_) (fun c7 => ?_)
              · replace c7 := b2i_z c7
                refine t_go (op := o_ci 97 (-1)) (fe_X7_levelHere 96) (fun _ _ => rfl) ?_
                refine t_ret (op := o_iret) (fe_X7_levelHere 97) (fun _ _ => rfl) ?_
                exact ⟨congrArg (fun z => some (Value.int z)) (show lvV (tkT ch len) i = _ from (cI_f (fun q => q.elim (fun q => c1 ((ky_w (c := 17) (by decide)).mpr q)) (fun q => c2 ((ky_w (c := 18) (by decide)).mpr q)))).trans ((cI_f (fun q => q.elim c3 c4)).trans ((cI_f (fun q => q.elim c5 c6)).trans (cI_f (c7))))).symm, rfl⟩
              · replace c7 := b2i_nn c7
                refine t_go (op := o_ci 93 3) (fe_X7_levelHere 92) (fun _ _ => rfl) ?_
                refine t_go (op := o_goto 97) (fe_X7_levelHere 93) (fun _ _ => rfl) ?_
                refine t_ret (op := o_iret) (fe_X7_levelHere 97) (fun _ _ => rfl) ?_
                exact ⟨congrArg (fun z => some (Value.int z)) (show lvV (tkT ch len) i = _ from (cI_f (fun q => q.elim (fun q => c1 ((ky_w (c := 17) (by decide)).mpr q)) (fun q => c2 ((ky_w (c := 18) (by decide)).mpr q)))).trans ((cI_f (fun q => q.elim c3 c4)).trans ((cI_f (fun q => q.elim c5 c6)).trans (cI_t (c7))))).symm, rfl⟩
            · replace c6 := b2i_nn c6
              refine t_go (op := o_ci 79 2) (fe_X7_levelHere 78) (fun _ _ => rfl) ?_
              refine t_ret (op := o_iret) (fe_X7_levelHere 79) (fun _ _ => rfl) ?_
              exact ⟨congrArg (fun z => some (Value.int z)) (show lvV (tkT ch len) i = _ from (cI_f (fun q => q.elim (fun q => c1 ((ky_w (c := 17) (by decide)).mpr q)) (fun q => c2 ((ky_w (c := 18) (by decide)).mpr q)))).trans ((cI_f (fun q => q.elim c3 c4)).trans (cI_t (Or.inr c6)))).symm, rfl⟩
          · replace c5 := b2i_nn c5
            refine t_go (op := o_ci 79 2) (fe_X7_levelHere 78) (fun _ _ => rfl) ?_
            refine t_ret (op := o_iret) (fe_X7_levelHere 79) (fun _ _ => rfl) ?_
            exact ⟨congrArg (fun z => some (Value.int z)) (show lvV (tkT ch len) i = _ from (cI_f (fun q => q.elim (fun q => c1 ((ky_w (c := 17) (by decide)).mpr q)) (fun q => c2 ((ky_w (c := 18) (by decide)).mpr q)))).trans ((cI_f (fun q => q.elim c3 c4)).trans (cI_t (Or.inl c5)))).symm, rfl⟩
        · replace c4 := b2i_nn c4
          refine t_go (op := o_ci 53 1) (fe_X7_levelHere 52) (fun _ _ => rfl) ?_
          refine t_ret (op := o_iret) (fe_X7_levelHere 53) (fun _ _ => rfl) ?_
          exact ⟨congrArg (fun z => some (Value.int z)) (show lvV (tkT ch len) i = _ from (cI_f (fun q => q.elim (fun q => c1 ((ky_w (c := 17) (by decide)).mpr q)) (fun q => c2 ((ky_w (c := 18) (by decide)).mpr q)))).trans (cI_t (Or.inr c4))).symm, rfl⟩
      · replace c3 := b2i_nn c3
        refine t_go (op := o_ci 53 1) (fe_X7_levelHere 52) (fun _ _ => rfl) ?_
        refine t_ret (op := o_iret) (fe_X7_levelHere 53) (fun _ _ => rfl) ?_
        exact ⟨congrArg (fun z => some (Value.int z)) (show lvV (tkT ch len) i = _ from (cI_f (fun q => q.elim (fun q => c1 ((ky_w (c := 17) (by decide)).mpr q)) (fun q => c2 ((ky_w (c := 18) (by decide)).mpr q)))).trans (cI_t (Or.inl c3))).symm, rfl⟩
def stp (x : Nat × Nat) : Int32 :=
  match x.1 with
  | 1 => nI x.2
  | 2 => ofF (x.2 + 19)
  | 3 => -5
  | 4 => -43
  | 5 => -45
  | 6 => -42
  | 7 => -60
  | 8 => -61
  | 9 => -6
  | _ => -7
noncomputable def shV (TK : Nat → Tk) (i : Nat) : Int32 := cI ((TK i).1 = 3) (-(nI (TK i).2.2.1)) (cI (isWd TK 17 i 0) (-6) (-7))
theorem sh_op {TK : Nat → Tk} {s : St} {l : Nat} (hl : l ≤ 3) (hop : opP TK l s) : shV TK s.1 = stp (opC TK l s, 0) := by
  have hf := (opP_in hop).1
  match l, hl, hop with
  | 0, _, hop =>
    have h3 : ¬ (TK s.1).1 = 3 := by
      rcases hop with a | a
      · rw [a.2.1]; decide
      · rw [a.2.1]; decide
    unfold shV
    rw [cI_f h3]
    show _ = stp (cI (isWd TK 17 s.1 s.2.1) 9 10, 0)
    rw [hf]
    by_cases h1 : isWd TK 17 s.1 0
    · rw [cI_t h1, cI_t h1]; rfl
    · rw [cI_f h1, cI_f h1]; rfl
  | 1, _, hop =>
    show _ = stp (cI (isS TK 60 s.1 s.2.1) 7 8, 0)
    unfold shV
    rcases hop with a | a
    · rw [cI_t a.2.1, cI_t a, a.2.2]; decide +kernel
    · rw [cI_t a.2.1, cI_f (fun q => absurd (q.2.2.symm.trans a.2.2) (by decide)), a.2.2]; decide +kernel
  | 2, _, hop =>
    show _ = stp (cI (isS TK 43 s.1 s.2.1) 4 5, 0)
    unfold shV
    rcases hop with a | a
    · rw [cI_t a.2.1, cI_t a, a.2.2]; decide +kernel
    · rw [cI_t a.2.1, cI_f (fun q => absurd (q.2.2.symm.trans a.2.2) (by decide)), a.2.2]; decide +kernel
  | 3, _, hop =>
    show _ = stp (6, 0)
    unfold shV
    rw [cI_t hop.2.1, hop.2.2]; decide +kernel
  | l + 4, hl, _ => exact absurd hl (by omega)
theorem c_stepHere {d : Nat} {h : AHP} {ch : Nat → Nat} {len i : Nat} (hS : Std h) (hC : CU h ch len i) : MM d 81 [.ref 4] h (fun v h2 => v = some (.int (shV (tkT ch len) i)) ∧ h2 = h) := by
  refine ⟨Nat.le_of_ble_eq_true rfl, ?_⟩
  have hB := hC.b i
  refine t_go (op := o_aload 1 0) (fe_X7_stepHere 0) (fun _ _ => rfl) ?_
  refine t_go (op := o_getR 4 6 0) (fe_X7_stepHere 1) (g_getR hS (show (lay 4).1 = 6 by decide) (by decide) (fr_6_0 hS) (by decide)) ?_
  refine t_go (op := o_getI 7 8 2) (fe_X7_stepHere 4) (g_getI hS (by decide) (by decide)) ?_
  rw [show h.1 2 2 = nI (cSo (tkT ch len i).1) from hC.2.2.2.1]
  refine t_go (op := o_ci 8 4) (fe_X7_stepHere 7) (fun _ _ => rfl) ?_
  refine t_ite (op := o_icmp 20 11 (fun x y => x = y) (fun _ _ => inferInstance)) (fe_X7_stepHere 8) g_icmp (fun c1 => ?_) (fun c1 => ?_)
  · refine t_go (op := o_aload 12 0) (fe_X7_stepHere 11) (fun _ _ => rfl) ?_
    refine t_go (op := o_getR 15 6 0) (fe_X7_stepHere 12) (g_getR hS (show (lay 4).1 = 6 by decide) (by decide) (fr_6_0 hS) (by decide)) ?_
    refine t_go (op := o_getI 18 8 4) (fe_X7_stepHere 15) (g_getI hS (by decide) (by decide)) ?_
    rw [show h.1 2 4 = nI (tkT ch len i).2.2.1 from hC.2.2.2.2.2.1 (Or.inr ((cSo_4 _ hB.1).mp c1))]
    refine t_go (op := o_i1 19 (fun x => -x)) (fe_X7_stepHere 18) (fun _ _ => rfl) ?_
    refine t_ret (op := o_iret) (fe_X7_stepHere 19) (fun _ _ => rfl) ?_
    exact ⟨congrArg (fun z => some (Value.int z)) (show shV (tkT ch len) i = _ from cI_t ((cSo_4 _ hB.1).mp c1)).symm, rfl⟩
  · refine t_go (op := o_aload 21 0) (fe_X7_stepHere 20) (fun _ _ => rfl) ?_
    refine t_go (op := o_getR 24 6 0) (fe_X7_stepHere 21) (g_getR hS (show (lay 4).1 = 6 by decide) (by decide) (fr_6_0 hS) (by decide)) ?_
    refine t_go (op := o_getR 27 8 6) (fe_X7_stepHere 24) (g_getR hS (by decide) (by decide) hC.key (by omega)) ?_
    refine t_go (op := o_gets 30 200017) (fe_X7_stepHere 27) (fun _ _ => rfl) ?_
    refine t_ite (op := o_acmpNe 33 38) (fe_X7_stepHere 30) (g_acmpNe (ky_b hB (c := 17) (by decide))) (fun c2 => ?_) (fun c2 => ?_)
    · refine t_go (op := o_ci 35 (-6)) (fe_X7_stepHere 33) (fun _ _ => rfl) ?_
      refine t_go (op := o_goto 40) (fe_X7_stepHere 35) (fun _ _ => rfl) ?_
      refine t_ret (op := o_iret) (fe_X7_stepHere 40) (fun _ _ => rfl) ?_
      exact ⟨congrArg (fun z => some (Value.int z)) (show shV (tkT ch len) i = _ from (cI_f (fun q => c1 ((cSo_4 _ hB.1).mpr q))).trans (cI_t ((ky_w (c := 17) (by decide)).mp c2))).symm, rfl⟩
    · refine t_go (op := o_ci 40 (-7)) (fe_X7_stepHere 38) (fun _ _ => rfl) ?_
      refine t_ret (op := o_iret) (fe_X7_stepHere 40) (fun _ _ => rfl) ?_
      exact ⟨congrArg (fun z => some (Value.int z)) (show shV (tkT ch len) i = _ from (cI_f (fun q => c1 ((cSo_4 _ hB.1).mpr q))).trans (cI_f (fun q => c2 ((ky_w (c := 17) (by decide)).mpr q)))).symm, rfl⟩
