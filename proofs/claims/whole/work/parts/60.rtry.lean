/-! ===== the reference: more trials ===== -/
theorem FW_of {m T : Nat} {F G : FS} (hW : FW m T F) (hv : FV m G) (he : G.2.2.2.2 = F.2.2.2.2) : FW m T G := ⟨hv, by obtain ⟨t, h1, h2⟩ := hW.2; exact ⟨t, h1, by rw [he]; exact h2⟩⟩
theorem FW_take {m T e : Nat} {F : FS} (hW : FW m T F) (he : e < 7) : FW m T (takeOutF F (nI e)) := FW_of hW (FV_take hW.1 he) take_end
theorem FW_stoke {m T e : Nat} {F : FS} (hW : FW m T F) (he : e < 7) : FW m T (stokeF F (nI e)) := FW_of hW (FV_stoke hW.1 he) stoke_end
theorem FW_fuel {m T e x : Nat} {F : FS} (hW : FW m T F) (he : e < 7) (hx : x ≤ 100) : FW m T (addFuelF F (nI e) (nI x)) := FW_of hW (FV_addFuel hW.1 he hx) fuel_end
theorem FW_carry {m T e c : Nat} {F : FS} (hW : FW m T F) (he : e < 7) (hc : c < 12) : FW m T (carryF F (nI e) (nI c)) := FW_of hW (FV_carry hW.1 he hc) carry_end
theorem FV_bank {m : Nat} {F : FS} (hV : FV m F) : FV m (bankF F) := ⟨hV.1, hV.2.1, hV.2.2.1, by
  show (if F.2.2.2.2.2 = 0 then (1 : Int32) else 0) = 0 ∨ (if F.2.2.2.2.2 = 0 then (1 : Int32) else 0) = 1
  split
  · exact Or.inr rfl
  · exact Or.inl rfl⟩
theorem FW_bank {m T : Nat} {F : FS} (hW : FW m T F) : FW m T (bankF F) := ⟨FV_bank hW.1, hW.2⟩
theorem bank_1 {m : Nat} {F : FS} (hV : FV m F) : 1 - F.2.2.2.2.2 = if F.2.2.2.2.2 = 0 then 1 else 0 := by
  rcases hV.2.2.2 with h | h <;> rw [h] <;> rfl
theorem lr_alightH {d : Nat} {k h : AHP} {m n g T : Nat} {F : FS} (hP : CP k h g n m) (hW : FW m T F) (hT : T < 90000) {q : Nat} (hq6 : q ≤ 50) {Q : Option Value → AHP → Prop} : ∀ (j i : Nat) (S : AHP), i + j = q → Zf trl k S → RB (S.1 197) 882 (HN h g n i F) → (∀ S2, Zf trl k S2 → RB (S2.1 197) 882 (HN h g n q F) → TT (d + 5) 262 42 [some (.ref 183), some (.int (nI q)), some (.int (nI q))] [] S2 Q) → TT (d + 5) 262 23 [some (.ref 183), some (.int (nI q)), some (.int (nI i))] [] S Q := by
  intro j
  induction j with
  | zero =>
    intro i S hi hz hBt hq
    have hN : i = q := by omega
    have hm := hP.1.2.2.1
    have hS := (hP.zf hz).1.1
    have hE := (hP.zf hz).1.2.1
    have hWt := FW_HN (h := h) (g := g) (n := n) hm hW i
    refine t_go (op := o_iload 24 2) (fe_X12_alight 23) (fun _ _ => rfl) ?_
    refine t_go (op := o_iload 25 1) (fe_X12_alight 24) (fun _ _ => rfl) ?_
    refine t_ite (op := o_icmp 28 42 (fun x y => y ≤ x) (fun _ _ => inferInstance)) (fe_X12_alight 25) g_icmp (fun c1 => ?_) (fun c1 => ?_)
    · have eN : nI i = nI q := by rw [hN]
      rw [eN]
      exact hq S hz (by rw [← hN]; exact hBt)
    · exact absurd (by rw [hN]; exact Int32.le_refl _) c1
  | succ j ih =>
    intro i S hi hz hBt hq
    have hi7 : i < q := by omega
    have hm := hP.1.2.2.1
    have hS := (hP.zf hz).1.1
    have hE := (hP.zf hz).1.2.1
    have hWt := FW_HN (h := h) (g := g) (n := n) hm hW i
    refine t_go (op := o_iload 24 2) (fe_X12_alight 23) (fun _ _ => rfl) ?_
    refine t_go (op := o_iload 25 1) (fe_X12_alight 24) (fun _ _ => rfl) ?_
    refine t_ite (op := o_icmp 28 42 (fun x y => y ≤ x) (fun _ _ => inferInstance)) (fe_X12_alight 25) g_icmp (fun c1 => ?_) (fun c1 => ?_)
    · exact absurd c1 (nI_ge hi7 (by omega))
    · refine t_go (op := o_aload 29 0) (fe_X12_alight 28) (fun _ _ => rfl) ?_
      refine t_go (op := o_ci 32 882) (fe_X12_alight 29) (fun _ _ => rfl) ?_
      refine t_call (op := o_callV 35 215 2 11) (fe_X12_alight 32) (g_callV hS (show (lay 183).1 = 11 by decide) (by decide) rfl rfl rfl (Nat.le_of_ble_eq_true rfl)) ?_
      refine M_mono ?_ (r_hour (b := 882) (hP.zf hz) hWt hBt (by decide) (by omega))
      rintro _ h2 ⟨rfl, hz2, hB2⟩
      replace hz := hz.tr (hz2.mono trl_b)
      clear hz2
      have hS := (hP.zf hz).1.1
      have hE := (hP.zf hz).1.2.1
      refine t_go (op := o_popI 36) (fe_X12_alight 35) (fun _ _ => rfl) ?_
      refine t_go (op := o_iinc 39 2 1) (fe_X12_alight 36) (fun _ _ => rfl) ?_
      refine t_go (op := o_goto 23) (fe_X12_alight 39) (fun _ _ => rfl) ?_
      rw [nI_1]
      rw [← HN_succ] at hB2
      exact ih (i + 1) _ (by omega) hz hB2 hq
theorem r_alight {d : Nat} {k h : AHP} {m n g T : Nat} {F : FS} (hP : CP k h g n m) (hW : FW m T F) (hB0 : RB (k.1 197) 0 F) (hT : T < 90000) {q : Nat} (hq6 : q ≤ 40) : MM (d + 5) 262 [.ref 183, .int (nI q)] k (fun v h2 => v = some (.int (litH h g n (HN h g n q F))) ∧ Zf trl k h2) := by
  refine ⟨Nat.le_of_ble_eq_true rfl, ?_⟩
  have hm := hP.1.2.2.1
  have hS := hP.1.1
  have hE := hP.1.2.1
  refine t_go (op := o_aload 1 0) (fe_X12_alight 0) (fun _ _ => rfl) ?_
  refine t_go (op := o_ci 2 0) (fe_X12_alight 1) (fun _ _ => rfl) ?_
  refine t_go (op := o_putI 5 11 0) (fe_X12_alight 2) (g_putI hS (show (lay 183).1 = 11 by decide) (by decide)) ?_
  have hz : Zf trl k (sI k 183 0 0) := Zf_thr Zf.rf
  have hS := (hP.zf hz).1.1
  have hE := (hP.zf hz).1.2.1
  refine t_go (op := o_iload 6 1) (fe_X12_alight 5) (fun _ _ => rfl) ?_
  refine t_go (op := o_ci 7 0) (fe_X12_alight 6) (fun _ _ => rfl) ?_
  refine t_go (op := o_ci 9 40) (fe_X12_alight 7) (fun _ _ => rfl) ?_
  refine t_call (op := o_callS 12 173 3) (fe_X12_alight 9) (g_callS rfl rfl rfl (Nat.le_of_ble_eq_true rfl)) ?_
  refine M_eq r_within ?_
  refine t_ite (op := o_if 17 15 (fun x => x = 0) (fun _ => inferInstance)) (fe_X12_alight 12) g_if (fun c1 => ?_) (fun c1 => ?_)
  · exact absurd (show ¬ nI q < 0 ∧ ¬ (40 : Int32) < nI q from ⟨nI_pos (by omega), nI_nlt (a := 40) (by omega) (by omega)⟩) (b2i_z c1)
  · replace c1 := b2i_nn c1
    refine t_go (op := o_aload 18 0) (fe_X12_alight 17) (fun _ _ => rfl) ?_
    refine t_call (op := o_callV 21 229 1 11) (fe_X12_alight 18) (g_callV hS (show (lay 183).1 = 11 by decide) (by decide) rfl rfl rfl (Nat.le_of_ble_eq_true rfl)) ?_
    refine M_mono ?_ (r_triesNow (hP.zf hz).1.1 (hB0.zf hz trl0))
    rintro _ h2 ⟨rfl, hz2, hBt⟩
    replace hz := hz.tr hz2
    clear hz2
    have hS := (hP.zf hz).1.1
    have hE := (hP.zf hz).1.2.1
    refine t_go (op := o_ci 22 0) (fe_X12_alight 21) (fun _ _ => rfl) ?_
    refine t_go (op := o_istore 23 2) (fe_X12_alight 22) (fun _ _ => rfl) ?_
    refine lr_alightH hP hW hT (q := q) (by omega) q 0 _ (by omega) hz hBt fun S2 hz hBt => ?_
    have hWt := FW_HN (h := h) (g := g) (n := n) hm hW q
    have hS := (hP.zf hz).1.1
    have hE := (hP.zf hz).1.2.1
    refine t_go (op := o_aload 43 0) (fe_X12_alight 42) (fun _ _ => rfl) ?_
    refine t_go (op := o_ci 46 882) (fe_X12_alight 43) (fun _ _ => rfl) ?_
    refine t_call (op := o_callV 49 205 2 11) (fe_X12_alight 46) (g_callV hS (show (lay 183).1 = 11 by decide) (by decide) rfl rfl rfl (Nat.le_of_ble_eq_true rfl)) ?_
    refine M_eq (r_alightNow (b := 882) hS hWt.1 hBt (by decide) hm hE (hP.zf hz).1.2.2.2.1 (hP.zf hz).1.2.2.2.2.1) ?_
    refine t_ret (op := o_iret) (fe_X12_alight 49) (fun _ _ => rfl) ?_
    exact ⟨rfl, hz⟩
theorem r_alightF {d : Nat} {k h : AHP} {m n g T : Nat} {F : FS} (hP : CP k h g n m) (hW : FW m T F) (hB0 : RB (k.1 197) 0 F) (hT : T < 90000) {x : Int32} (hn : ¬ (¬ x < 0 ∧ ¬ 40 < x)) : MM (d + 5) 262 [.ref 183, .int x] k (fun v h2 => v = some (.int (-1)) ∧ Zf trl k h2) := by
  refine ⟨Nat.le_of_ble_eq_true rfl, ?_⟩
  have hm := hP.1.2.2.1
  have hS := hP.1.1
  have hE := hP.1.2.1
  refine t_go (op := o_aload 1 0) (fe_X12_alight 0) (fun _ _ => rfl) ?_
  refine t_go (op := o_ci 2 0) (fe_X12_alight 1) (fun _ _ => rfl) ?_
  refine t_go (op := o_putI 5 11 0) (fe_X12_alight 2) (g_putI hS (show (lay 183).1 = 11 by decide) (by decide)) ?_
  have hz : Zf trl k (sI k 183 0 0) := Zf_thr Zf.rf
  have hS := (hP.zf hz).1.1
  have hE := (hP.zf hz).1.2.1
  refine t_go (op := o_iload 6 1) (fe_X12_alight 5) (fun _ _ => rfl) ?_
  refine t_go (op := o_ci 7 0) (fe_X12_alight 6) (fun _ _ => rfl) ?_
  refine t_go (op := o_ci 9 40) (fe_X12_alight 7) (fun _ _ => rfl) ?_
  refine t_call (op := o_callS 12 173 3) (fe_X12_alight 9) (g_callS rfl rfl rfl (Nat.le_of_ble_eq_true rfl)) ?_
  refine M_eq r_within ?_
  refine t_ite (op := o_if 17 15 (fun x => x = 0) (fun _ => inferInstance)) (fe_X12_alight 12) g_if (fun c1 => ?_) (fun c1 => ?_)
  · replace c1 := b2i_z c1
    refine t_go (op := o_ci 16 (-1)) (fe_X12_alight 15) (fun _ _ => rfl) ?_
    refine t_ret (op := o_iret) (fe_X12_alight 16) (fun _ _ => rfl) ?_
    exact ⟨rfl, hz⟩
  · exact absurd (b2i_nn c1) hn
theorem lr_ashH {d : Nat} {k h : AHP} {m n g T : Nat} {F : FS} (hP : CP k h g n m) (hW : FW m T F) (hT : T < 90000) {q : Nat} (hq6 : q ≤ 50) {x3 : Option Value} {Q : Option Value → AHP → Prop} : ∀ (j i : Nat) (S : AHP), i + j = q → Zf trl k S → RB (S.1 197) 882 (HN h g n i F) → (∀ S2, Zf trl k S2 → RB (S2.1 197) 882 (HN h g n q F) → TT (d + 5) 236 42 [some (.ref 183), some (.int (nI q)), some (.int (nI q)), x3] [] S2 Q) → TT (d + 5) 236 23 [some (.ref 183), some (.int (nI q)), some (.int (nI i)), x3] [] S Q := by
  intro j
  induction j with
  | zero =>
    intro i S hi hz hBt hq
    have hN : i = q := by omega
    have hm := hP.1.2.2.1
    have hS := (hP.zf hz).1.1
    have hE := (hP.zf hz).1.2.1
    have hWt := FW_HN (h := h) (g := g) (n := n) hm hW i
    refine t_go (op := o_iload 24 2) (fe_X12_ash 23) (fun _ _ => rfl) ?_
    refine t_go (op := o_iload 25 1) (fe_X12_ash 24) (fun _ _ => rfl) ?_
    refine t_ite (op := o_icmp 28 42 (fun x y => y ≤ x) (fun _ _ => inferInstance)) (fe_X12_ash 25) g_icmp (fun c1 => ?_) (fun c1 => ?_)
    · have eN : nI i = nI q := by rw [hN]
      rw [eN]
      exact hq S hz (by rw [← hN]; exact hBt)
    · exact absurd (by rw [hN]; exact Int32.le_refl _) c1
  | succ j ih =>
    intro i S hi hz hBt hq
    have hi7 : i < q := by omega
    have hm := hP.1.2.2.1
    have hS := (hP.zf hz).1.1
    have hE := (hP.zf hz).1.2.1
    have hWt := FW_HN (h := h) (g := g) (n := n) hm hW i
    refine t_go (op := o_iload 24 2) (fe_X12_ash 23) (fun _ _ => rfl) ?_
    refine t_go (op := o_iload 25 1) (fe_X12_ash 24) (fun _ _ => rfl) ?_
    refine t_ite (op := o_icmp 28 42 (fun x y => y ≤ x) (fun _ _ => inferInstance)) (fe_X12_ash 25) g_icmp (fun c1 => ?_) (fun c1 => ?_)
    · exact absurd c1 (nI_ge hi7 (by omega))
    · refine t_go (op := o_aload 29 0) (fe_X12_ash 28) (fun _ _ => rfl) ?_
      refine t_go (op := o_ci 32 882) (fe_X12_ash 29) (fun _ _ => rfl) ?_
      refine t_call (op := o_callV 35 215 2 11) (fe_X12_ash 32) (g_callV hS (show (lay 183).1 = 11 by decide) (by decide) rfl rfl rfl (Nat.le_of_ble_eq_true rfl)) ?_
      refine M_mono ?_ (r_hour (b := 882) (hP.zf hz) hWt hBt (by decide) (by omega))
      rintro _ h2 ⟨rfl, hz2, hB2⟩
      replace hz := hz.tr (hz2.mono trl_b)
      clear hz2
      have hS := (hP.zf hz).1.1
      have hE := (hP.zf hz).1.2.1
      refine t_go (op := o_popI 36) (fe_X12_ash 35) (fun _ _ => rfl) ?_
      refine t_go (op := o_iinc 39 2 1) (fe_X12_ash 36) (fun _ _ => rfl) ?_
      refine t_go (op := o_goto 23) (fe_X12_ash 39) (fun _ _ => rfl) ?_
      rw [nI_1]
      rw [← HN_succ] at hB2
      exact ih (i + 1) _ (by omega) hz hB2 hq
theorem lr_ashB {d : Nat} {S : AHP} {m : Nat} {G : FS} (hS : Std S) (hE : S.1 189 0 = nI m) (hm : m ≤ 7) (hV : FV m G) (hB : RB (S.1 197) 882 G) {y : Int32} {Q : Option Value → AHP → Prop} : ∀ (j i : Nat) (s : Int32), i + j = m → Q (some (.int (it (ashS G (nI m)) j i s))) S → TT (d + 4) 236 46 [some (.ref 183), some (.int y), some (.int s), some (.int (nI i))] [] S Q := by
  intro j
  induction j with
  | zero =>
    intro i s hi  hq
    have hN : i = m := by omega
    refine t_go (op := o_iload 47 3) (fe_X12_ash 46) (fun _ _ => rfl) ?_
    refine t_go (op := o_aload 48 0) (fe_X12_ash 47) (fun _ _ => rfl) ?_
    refine t_call (op := o_callV 51 200 1 11) (fe_X12_ash 48) (g_callV hS (show (lay 183).1 = 11 by decide) (by decide) rfl rfl rfl (Nat.le_of_ble_eq_true rfl)) ?_
    refine M_eq (r_embers hS hE) ?_
    refine t_ite (op := o_icmp 54 81 (fun x y => y ≤ x) (fun _ _ => inferInstance)) (fe_X12_ash 51) g_icmp (fun c1 => ?_) (fun c1 => ?_)
    · refine t_go (op := o_iload 82 2) (fe_X12_ash 81) (fun _ _ => rfl) ?_
      refine t_ret (op := o_iret) (fe_X12_ash 82) (fun _ _ => rfl) ?_
      exact hq
    · exact absurd (by rw [hN]; exact Int32.le_refl _) c1
  | succ j ih =>
    intro i s hi  hq
    have hi7 : i < m := by omega
    refine t_go (op := o_iload 47 3) (fe_X12_ash 46) (fun _ _ => rfl) ?_
    refine t_go (op := o_aload 48 0) (fe_X12_ash 47) (fun _ _ => rfl) ?_
    refine t_call (op := o_callV 51 200 1 11) (fe_X12_ash 48) (g_callV hS (show (lay 183).1 = 11 by decide) (by decide) rfl rfl rfl (Nat.le_of_ble_eq_true rfl)) ?_
    refine M_eq (r_embers hS hE) ?_
    refine t_ite (op := o_icmp 54 81 (fun x y => y ≤ x) (fun _ _ => inferInstance)) (fe_X12_ash 51) g_icmp (fun c1 => ?_) (fun c1 => ?_)
    · exact absurd c1 (nI_ge hi7 (by omega))
    · refine t_go (op := o_iload 55 2) (fe_X12_ash 54) (fun _ _ => rfl) ?_
      refine t_go (op := o_aload 56 0) (fe_X12_ash 55) (fun _ _ => rfl) ?_
      refine t_go (op := o_ci 59 882) (fe_X12_ash 56) (fun _ _ => rfl) ?_
      refine t_go (op := o_iload 60 3) (fe_X12_ash 59) (fun _ _ => rfl) ?_
      refine t_call (op := o_callV 63 203 3 11) (fe_X12_ash 60) (g_callV hS (show (lay 183).1 = 11 by decide) (by decide) rfl rfl rfl (Nat.le_of_ble_eq_true rfl)) ?_
      refine M_eq (r_isThere (b := 882) hS hV hB (by decide) (e := i) (by omega)) ?_
      refine t_ite (op := o_if 66 70 (fun x => x = 0) (fun _ => inferInstance)) (fe_X12_ash 63) g_if (fun c2 => ?_) (fun c2 => ?_)
      · replace c2 := b2i_z c2
        refine t_go (op := o_ci 71 1) (fe_X12_ash 70) (fun _ _ => rfl) ?_
        refine t_go (op := o_iload 72 3) (fe_X12_ash 71) (fun _ _ => rfl) ?_
        refine t_go (op := o_i2 73 (fun x y => x <<< (y &&& 31))) (fe_X12_ash 72) (fun _ _ => rfl) ?_
        refine t_go (op := o_i2 74 (fun x y => x ||| y)) (fe_X12_ash 73) (fun _ _ => rfl) ?_
        refine t_go (op := o_istore 75 2) (fe_X12_ash 74) (fun _ _ => rfl) ?_
        refine t_go (op := o_iinc 78 3 1) (fe_X12_ash 75) (fun _ _ => rfl) ?_
        refine t_go (op := o_goto 46) (fe_X12_ash 78) (fun _ _ => rfl) ?_
        rw [it_step, ashS, if_pos ⟨nI_ge hi7 (by omega), c2⟩] at hq
        rw [nI_1]
        exact ih (i + 1) _ (by omega) hq
      · replace c2 := b2i_nn c2
        refine t_go (op := o_ci 67 0) (fe_X12_ash 66) (fun _ _ => rfl) ?_
        refine t_go (op := o_goto 73) (fe_X12_ash 67) (fun _ _ => rfl) ?_
        refine t_go (op := o_i2 74 (fun x y => x ||| y)) (fe_X12_ash 73) (fun _ _ => rfl) ?_
        refine t_go (op := o_istore 75 2) (fe_X12_ash 74) (fun _ _ => rfl) ?_
        refine t_go (op := o_iinc 78 3 1) (fe_X12_ash 75) (fun _ _ => rfl) ?_
        refine t_go (op := o_goto 46) (fe_X12_ash 78) (fun _ _ => rfl) ?_
        rw [it_step, ashS, if_neg (fun q => q.2 c2)] at hq
        rw [← Int32.or_zero (a := s)] at hq
        rw [nI_1]
        exact ih (i + 1) _ (by omega) hq
theorem ash_m {m : Nat} {G : FS} (hm : m ≤ 7) : it (ashS G (nI m)) 7 0 0 = it (ashS G (nI m)) m 0 0 := it_more hm fun t s h1 h2 => if_neg fun q => q.1 (nI_le h1 (by omega))
theorem r_ash {d : Nat} {k h : AHP} {m n g T : Nat} {F : FS} (hP : CP k h g n m) (hW : FW m T F) (hB0 : RB (k.1 197) 0 F) (hT : T < 90000) {q : Nat} (hq6 : q ≤ 40) : MM (d + 5) 236 [.ref 183, .int (nI q)] k (fun v h2 => v = some (.int (it (ashS (HN h g n q F) (nI m)) 7 0 0)) ∧ Zf trl k h2) := by
  refine ⟨Nat.le_of_ble_eq_true rfl, ?_⟩
  have hm := hP.1.2.2.1
  have hS := hP.1.1
  have hE := hP.1.2.1
  refine t_go (op := o_aload 1 0) (fe_X12_ash 0) (fun _ _ => rfl) ?_
  refine t_go (op := o_ci 2 0) (fe_X12_ash 1) (fun _ _ => rfl) ?_
  refine t_go (op := o_putI 5 11 0) (fe_X12_ash 2) (g_putI hS (show (lay 183).1 = 11 by decide) (by decide)) ?_
  have hz : Zf trl k (sI k 183 0 0) := Zf_thr Zf.rf
  have hS := (hP.zf hz).1.1
  have hE := (hP.zf hz).1.2.1
  refine t_go (op := o_iload 6 1) (fe_X12_ash 5) (fun _ _ => rfl) ?_
  refine t_go (op := o_ci 7 0) (fe_X12_ash 6) (fun _ _ => rfl) ?_
  refine t_go (op := o_ci 9 40) (fe_X12_ash 7) (fun _ _ => rfl) ?_
  refine t_call (op := o_callS 12 173 3) (fe_X12_ash 9) (g_callS rfl rfl rfl (Nat.le_of_ble_eq_true rfl)) ?_
  refine M_eq r_within ?_
  refine t_ite (op := o_if 17 15 (fun x => x = 0) (fun _ => inferInstance)) (fe_X12_ash 12) g_if (fun c1 => ?_) (fun c1 => ?_)
  · exact absurd (show ¬ nI q < 0 ∧ ¬ (40 : Int32) < nI q from ⟨nI_pos (by omega), nI_nlt (a := 40) (by omega) (by omega)⟩) (b2i_z c1)
  · replace c1 := b2i_nn c1
    refine t_go (op := o_aload 18 0) (fe_X12_ash 17) (fun _ _ => rfl) ?_
    refine t_call (op := o_callV 21 229 1 11) (fe_X12_ash 18) (g_callV hS (show (lay 183).1 = 11 by decide) (by decide) rfl rfl rfl (Nat.le_of_ble_eq_true rfl)) ?_
    refine M_mono ?_ (r_triesNow (hP.zf hz).1.1 (hB0.zf hz trl0))
    rintro _ h2 ⟨rfl, hz2, hBt⟩
    replace hz := hz.tr hz2
    clear hz2
    have hS := (hP.zf hz).1.1
    have hE := (hP.zf hz).1.2.1
    refine t_go (op := o_ci 22 0) (fe_X12_ash 21) (fun _ _ => rfl) ?_
    refine t_go (op := o_istore 23 2) (fe_X12_ash 22) (fun _ _ => rfl) ?_
    refine lr_ashH hP hW hT (q := q) (by omega) q 0 _ (by omega) hz hBt fun S2 hz hBt => ?_
    have hWt := FW_HN (h := h) (g := g) (n := n) hm hW q
    have hS := (hP.zf hz).1.1
    have hE := (hP.zf hz).1.2.1
    refine t_go (op := o_ci 43 0) (fe_X12_ash 42) (fun _ _ => rfl) ?_
    refine t_go (op := o_istore 44 2) (fe_X12_ash 43) (fun _ _ => rfl) ?_
    refine t_go (op := o_ci 45 0) (fe_X12_ash 44) (fun _ _ => rfl) ?_
    refine t_go (op := o_istore 46 3) (fe_X12_ash 45) (fun _ _ => rfl) ?_
    exact lr_ashB (d := d + 1) hS hE hm hWt.1 hBt m 0 0 (by omega) ⟨by rw [ash_m hm], hz⟩
theorem r_ashF {d : Nat} {k h : AHP} {m n g T : Nat} {F : FS} (hP : CP k h g n m) (hW : FW m T F) (hB0 : RB (k.1 197) 0 F) (hT : T < 90000) {x : Int32} (hn : ¬ (¬ x < 0 ∧ ¬ 40 < x)) : MM (d + 5) 236 [.ref 183, .int x] k (fun v h2 => v = some (.int (-1)) ∧ Zf trl k h2) := by
  refine ⟨Nat.le_of_ble_eq_true rfl, ?_⟩
  have hm := hP.1.2.2.1
  have hS := hP.1.1
  have hE := hP.1.2.1
  refine t_go (op := o_aload 1 0) (fe_X12_ash 0) (fun _ _ => rfl) ?_
  refine t_go (op := o_ci 2 0) (fe_X12_ash 1) (fun _ _ => rfl) ?_
  refine t_go (op := o_putI 5 11 0) (fe_X12_ash 2) (g_putI hS (show (lay 183).1 = 11 by decide) (by decide)) ?_
  have hz : Zf trl k (sI k 183 0 0) := Zf_thr Zf.rf
  have hS := (hP.zf hz).1.1
  have hE := (hP.zf hz).1.2.1
  refine t_go (op := o_iload 6 1) (fe_X12_ash 5) (fun _ _ => rfl) ?_
  refine t_go (op := o_ci 7 0) (fe_X12_ash 6) (fun _ _ => rfl) ?_
  refine t_go (op := o_ci 9 40) (fe_X12_ash 7) (fun _ _ => rfl) ?_
  refine t_call (op := o_callS 12 173 3) (fe_X12_ash 9) (g_callS rfl rfl rfl (Nat.le_of_ble_eq_true rfl)) ?_
  refine M_eq r_within ?_
  refine t_ite (op := o_if 17 15 (fun x => x = 0) (fun _ => inferInstance)) (fe_X12_ash 12) g_if (fun c1 => ?_) (fun c1 => ?_)
  · replace c1 := b2i_z c1
    refine t_go (op := o_ci 16 (-1)) (fe_X12_ash 15) (fun _ _ => rfl) ?_
    refine t_ret (op := o_iret) (fe_X12_ash 16) (fun _ _ => rfl) ?_
    exact ⟨rfl, hz⟩
  · exact absurd (b2i_nn c1) hn
theorem lr_fallsB {d : Nat} {S : AHP} {m : Nat} {G F : FS} (hS : Std S) (hE : S.1 189 0 = nI m) (hm : m ≤ 7) (hV : FV m G) (hB : RB (S.1 197) 882 G) (hB0 : RB (S.1 197) 0 F) {Q : Option Value → AHP → Prop} : ∀ (j i : Nat) (s : Int32), i + j = m → Q (some (.int (it (fallB G F) j i s))) S → TT (d + 4) 237 21 [some (.ref 183), some (.int s), some (.int (nI i))] [] S Q := by
  intro j
  induction j with
  | zero =>
    intro i s hi  hq
    have hN : i = m := by omega
    refine t_go (op := o_iload 22 2) (fe_X12_falls_ 21) (fun _ _ => rfl) ?_
    refine t_go (op := o_aload 23 0) (fe_X12_falls_ 22) (fun _ _ => rfl) ?_
    refine t_call (op := o_callV 26 200 1 11) (fe_X12_falls_ 23) (g_callV hS (show (lay 183).1 = 11 by decide) (by decide) rfl rfl rfl (Nat.le_of_ble_eq_true rfl)) ?_
    refine M_eq (r_embers hS hE) ?_
    refine t_ite (op := o_icmp 29 77 (fun x y => y ≤ x) (fun _ _ => inferInstance)) (fe_X12_falls_ 26) g_icmp (fun c1 => ?_) (fun c1 => ?_)
    · refine t_go (op := o_iload 78 1) (fe_X12_falls_ 77) (fun _ _ => rfl) ?_
      refine t_ret (op := o_iret) (fe_X12_falls_ 78) (fun _ _ => rfl) ?_
      exact hq
    · exact absurd (by rw [hN]; exact Int32.le_refl _) c1
  | succ j ih =>
    intro i s hi  hq
    have hi7 : i < m := by omega
    refine t_go (op := o_iload 22 2) (fe_X12_falls_ 21) (fun _ _ => rfl) ?_
    refine t_go (op := o_aload 23 0) (fe_X12_falls_ 22) (fun _ _ => rfl) ?_
    refine t_call (op := o_callV 26 200 1 11) (fe_X12_falls_ 23) (g_callV hS (show (lay 183).1 = 11 by decide) (by decide) rfl rfl rfl (Nat.le_of_ble_eq_true rfl)) ?_
    refine M_eq (r_embers hS hE) ?_
    refine t_ite (op := o_icmp 29 77 (fun x y => y ≤ x) (fun _ _ => inferInstance)) (fe_X12_falls_ 26) g_icmp (fun c1 => ?_) (fun c1 => ?_)
    · exact absurd c1 (nI_ge hi7 (by omega))
    · refine t_go (op := o_iload 30 1) (fe_X12_falls_ 29) (fun _ _ => rfl) ?_
      refine t_go (op := o_aload 31 0) (fe_X12_falls_ 30) (fun _ _ => rfl) ?_
      refine t_go (op := o_ci 34 882) (fe_X12_falls_ 31) (fun _ _ => rfl) ?_
      refine t_go (op := o_iload 35 2) (fe_X12_falls_ 34) (fun _ _ => rfl) ?_
      refine t_call (op := o_callV 38 203 3 11) (fe_X12_falls_ 35) (g_callV hS (show (lay 183).1 = 11 by decide) (by decide) rfl rfl rfl (Nat.le_of_ble_eq_true rfl)) ?_
      refine M_eq (r_isThere (b := 882) hS hV hB (by decide) (e := i) (by omega)) ?_
      refine t_ite (op := o_if 41 68 (fun x => x = 0) (fun _ => inferInstance)) (fe_X12_falls_ 38) g_if (fun c2 => ?_) (fun c2 => ?_)
      · replace c2 := b2i_z c2
        refine t_go (op := o_ci 69 0) (fe_X12_falls_ 68) (fun _ _ => rfl) ?_
        refine t_go (op := o_i2 70 (fun x y => x ||| y)) (fe_X12_falls_ 69) (fun _ _ => rfl) ?_
        refine t_go (op := o_istore 71 1) (fe_X12_falls_ 70) (fun _ _ => rfl) ?_
        refine t_go (op := o_iinc 74 2 1) (fe_X12_falls_ 71) (fun _ _ => rfl) ?_
        refine t_go (op := o_goto 21) (fe_X12_falls_ 74) (fun _ _ => rfl) ?_
        rw [it_step, fallB, nI_clamp (by omega), if_neg (fun q => c2 q.1)] at hq
        rw [← Int32.or_zero (a := s)] at hq
        rw [nI_1]
        exact ih (i + 1) _ (by omega) hq
      · replace c2 := b2i_nn c2
        refine t_go (op := o_aload 42 0) (fe_X12_falls_ 41) (fun _ _ => rfl) ?_
        refine t_go (op := o_getR 45 11 22) (fe_X12_falls_ 42) (g_getR hS (show (lay 183).1 = 11 by decide) (by decide) (fr_11_22 hS) (by decide)) ?_
        refine t_go (op := o_ci 48 884) (fe_X12_falls_ 45) (fun _ _ => rfl) ?_
        refine t_go (op := o_iload 49 2) (fe_X12_falls_ 48) (fun _ _ => rfl) ?_
        refine t_go (op := o_i2 50 (fun x y => x + y)) (fe_X12_falls_ 49) (fun _ _ => rfl) ?_
        refine t_go (op := o_iald 51) (fe_X12_falls_ 50) (g_ialdN hS (show lay 197 = (20, 966) by decide) (nIa (nIl 884) rfl) (by omega) (by decide)) ?_
        rw [show S.1 197 (884 + i) = G.1 i from (hB.1 i (by omega)).1]
        refine t_go (op := o_aload 52 0) (fe_X12_falls_ 51) (fun _ _ => rfl) ?_
        refine t_go (op := o_getR 55 11 22) (fe_X12_falls_ 52) (g_getR hS (show (lay 183).1 = 11 by decide) (by decide) (fr_11_22 hS) (by decide)) ?_
        refine t_go (op := o_ci 56 2) (fe_X12_falls_ 55) (fun _ _ => rfl) ?_
        refine t_go (op := o_iload 57 2) (fe_X12_falls_ 56) (fun _ _ => rfl) ?_
        refine t_go (op := o_i2 58 (fun x y => x + y)) (fe_X12_falls_ 57) (fun _ _ => rfl) ?_
        refine t_go (op := o_iald 59) (fe_X12_falls_ 58) (g_ialdN hS (show lay 197 = (20, 966) by decide) (nIa (nIl 2) rfl) (by omega) (by decide)) ?_
        rw [show S.1 197 (2 + i) = F.1 i from by have := (hB0.1 i (by omega)).1; rw [Nat.zero_add] at this; exact this]
        refine t_ite (op := o_icmp 62 68 (fun x y => x = y) (fun _ _ => inferInstance)) (fe_X12_falls_ 59) g_icmp (fun c3 => ?_) (fun c3 => ?_)
        · refine t_go (op := o_ci 69 0) (fe_X12_falls_ 68) (fun _ _ => rfl) ?_
          refine t_go (op := o_i2 70 (fun x y => x ||| y)) (fe_X12_falls_ 69) (fun _ _ => rfl) ?_
          refine t_go (op := o_istore 71 1) (fe_X12_falls_ 70) (fun _ _ => rfl) ?_
          refine t_go (op := o_iinc 74 2 1) (fe_X12_falls_ 71) (fun _ _ => rfl) ?_
          refine t_go (op := o_goto 21) (fe_X12_falls_ 74) (fun _ _ => rfl) ?_
          rw [it_step, fallB, nI_clamp (by omega), if_neg (fun q => q.2 c3)] at hq
          rw [← Int32.or_zero (a := s)] at hq
          rw [nI_1]
          exact ih (i + 1) _ (by omega) hq
        · refine t_go (op := o_ci 63 1) (fe_X12_falls_ 62) (fun _ _ => rfl) ?_
          refine t_go (op := o_iload 64 2) (fe_X12_falls_ 63) (fun _ _ => rfl) ?_
          refine t_go (op := o_i2 65 (fun x y => x <<< (y &&& 31))) (fe_X12_falls_ 64) (fun _ _ => rfl) ?_
          refine t_go (op := o_goto 69) (fe_X12_falls_ 65) (fun _ _ => rfl) ?_
          refine t_go (op := o_i2 70 (fun x y => x ||| y)) (fe_X12_falls_ 69) (fun _ _ => rfl) ?_
          refine t_go (op := o_istore 71 1) (fe_X12_falls_ 70) (fun _ _ => rfl) ?_
          refine t_go (op := o_iinc 74 2 1) (fe_X12_falls_ 71) (fun _ _ => rfl) ?_
          refine t_go (op := o_goto 21) (fe_X12_falls_ 74) (fun _ _ => rfl) ?_
          rw [it_step, fallB, nI_clamp (by omega), if_pos ⟨c2, c3⟩] at hq
          rw [nI_1]
          exact ih (i + 1) _ (by omega) hq
theorem fallB_m {m : Nat} {G F : FS} (hV : FV m G) (hm : m ≤ 7) : it (fallB G F) 7 0 0 = it (fallB G F) m 0 0 := it_more hm fun t s h1 h2 => if_neg fun q => FV_no hV h2 h1 q.1
theorem r_fallsP {d : Nat} {k h : AHP} {m n g T : Nat} {F : FS} (hP : CP k h g n m) (hW : FW m T F) (hB0 : RB (k.1 197) 0 F) (hT : T < 90000)  : MM (d + 5) 237 [.ref 183] k (fun v h2 => v = some (.int (it (fallB (HF h g n F) F) 7 0 0)) ∧ Zf trl k h2) := by
  refine ⟨Nat.le_of_ble_eq_true rfl, ?_⟩
  have hm := hP.1.2.2.1
  have hS := hP.1.1
  have hE := hP.1.2.1
  have hWt := hW
  refine t_go (op := o_aload 1 0) (fe_X12_falls_ 0) (fun _ _ => rfl) ?_
  refine t_go (op := o_ci 2 0) (fe_X12_falls_ 1) (fun _ _ => rfl) ?_
  refine t_go (op := o_putI 5 11 0) (fe_X12_falls_ 2) (g_putI hS (show (lay 183).1 = 11 by decide) (by decide)) ?_
  have hz : Zf trl k (sI k 183 0 0) := Zf_thr Zf.rf
  have hS := (hP.zf hz).1.1
  have hE := (hP.zf hz).1.2.1
  refine t_go (op := o_aload 6 0) (fe_X12_falls_ 5) (fun _ _ => rfl) ?_
  refine t_call (op := o_callV 9 229 1 11) (fe_X12_falls_ 6) (g_callV hS (show (lay 183).1 = 11 by decide) (by decide) rfl rfl rfl (Nat.le_of_ble_eq_true rfl)) ?_
  refine M_mono ?_ (r_triesNow (hP.zf hz).1.1 (hB0.zf hz trl0))
  rintro _ h2 ⟨rfl, hz2, hBt⟩
  replace hz := hz.tr hz2
  clear hz2
  have hS := (hP.zf hz).1.1
  have hE := (hP.zf hz).1.2.1
  refine t_go (op := o_aload 10 0) (fe_X12_falls_ 9) (fun _ _ => rfl) ?_
  refine t_go (op := o_ci 13 882) (fe_X12_falls_ 10) (fun _ _ => rfl) ?_
  refine t_call (op := o_callV 16 215 2 11) (fe_X12_falls_ 13) (g_callV hS (show (lay 183).1 = 11 by decide) (by decide) rfl rfl rfl (Nat.le_of_ble_eq_true rfl)) ?_
  refine M_mono ?_ (r_hour (b := 882) (hP.zf hz) hWt hBt (by decide) (by omega))
  rintro _ h2 ⟨rfl, hz2, hB2⟩
  replace hz := hz.tr (hz2.mono trl_b)
  clear hz2
  have hS := (hP.zf hz).1.1
  have hE := (hP.zf hz).1.2.1
  refine t_go (op := o_popI 17) (fe_X12_falls_ 16) (fun _ _ => rfl) ?_
  refine t_go (op := o_ci 18 0) (fe_X12_falls_ 17) (fun _ _ => rfl) ?_
  refine t_go (op := o_istore 19 1) (fe_X12_falls_ 18) (fun _ _ => rfl) ?_
  refine t_go (op := o_ci 20 0) (fe_X12_falls_ 19) (fun _ _ => rfl) ?_
  refine t_go (op := o_istore 21 2) (fe_X12_falls_ 20) (fun _ _ => rfl) ?_
  exact lr_fallsB (d := d + 1) hS hE hm (FW_HF hm hW).1 hB2 (hB0.zf hz trl0) m 0 0 (by omega) ⟨by rw [fallB_m (FW_HF hm hW).1 hm], hz⟩
theorem r_van {d : Nat} {k h : AHP} {m n g : Nat} {F : FS} (hP : CP k h g n m) (hV : FV m F) (hB : RB (k.1 197) 882 F) {e : Nat} (he : e < 7) (hh : hasF F (nI e)) : MM d 212 [.ref 183, .int (nI 882), .int (nI e)] k (fun v h2 => v = none ∧ Zf trl k h2 ∧ RB (h2.1 197) 882 (takeOutF F (nI e))) := by
  obtain ⟨_, c, _, _, hc, _, _, _, hce, _⟩ := FV_in hV he hh
  refine M_mono ?_ (r_vanishes hP.1 hB (by decide) he (F2 := takeOutF F (nI e)) (by rw [takeOut_eq hV he hh hce hc]))
  rintro _ h2 ⟨rfl, hz, hB2⟩
  exact ⟨rfl, hz.mono trl_b, hB2⟩
theorem r_spareF {d : Nat} {k h : AHP} {m n g T : Nat} {F : FS} (hP : CP k h g n m) (hW : FW m T F) (hB0 : RB (k.1 197) 0 F) (hT : T < 90000) {x : Int32} (hn : ¬ (¬ x < 0 ∧ x < nI m)) : MM (d + 6) 238 [.ref 183, .int x] k (fun v h2 => v = some (.int (-1000)) ∧ Zf trl k h2) := by
  refine ⟨Nat.le_of_ble_eq_true rfl, ?_⟩
  have hm := hP.1.2.2.1
  have hS := hP.1.1
  have hE := hP.1.2.1
  refine t_go (op := o_aload 1 0) (fe_X12_spare 0) (fun _ _ => rfl) ?_
  refine t_go (op := o_ci 2 0) (fe_X12_spare 1) (fun _ _ => rfl) ?_
  refine t_go (op := o_putI 5 11 0) (fe_X12_spare 2) (g_putI hS (show (lay 183).1 = 11 by decide) (by decide)) ?_
  have hz : Zf trl k (sI k 183 0 0) := Zf_thr Zf.rf
  have hS := (hP.zf hz).1.1
  have hE := (hP.zf hz).1.2.1
  refine t_go (op := o_aload 6 0) (fe_X12_spare 5) (fun _ _ => rfl) ?_
  refine t_go (op := o_iload 7 1) (fe_X12_spare 6) (fun _ _ => rfl) ?_
  refine t_call (op := o_callV 10 202 2 11) (fe_X12_spare 7) (g_callV hS (show (lay 183).1 = 11 by decide) (by decide) rfl rfl rfl (Nat.le_of_ble_eq_true rfl)) ?_
  refine M_eq (r_isEmber hS hE) ?_
  refine t_ite (op := o_if 13 22 (fun x => x = 0) (fun _ => inferInstance)) (fe_X12_spare 10) g_if (fun c1 => ?_) (fun c1 => ?_)
  · replace c1 := b2i_z c1
    refine t_go (op := o_ci 25 (-1000)) (fe_X12_spare 22) (fun _ _ => rfl) ?_
    refine t_ret (op := o_iret) (fe_X12_spare 25) (fun _ _ => rfl) ?_
    exact ⟨rfl, hz⟩
  · exact absurd (b2i_nn c1) hn
theorem r_spareA {d : Nat} {k h : AHP} {m n g T : Nat} {F : FS} (hP : CP k h g n m) (hW : FW m T F) (hB0 : RB (k.1 197) 0 F) (hT : T < 90000) {e : Nat} (he : e < m) (hh : ¬ hasF F (nI e)) : MM (d + 6) 238 [.ref 183, .int (nI e)] k (fun v h2 => v = some (.int (-1000)) ∧ Zf trl k h2) := by
  refine ⟨Nat.le_of_ble_eq_true rfl, ?_⟩
  have hm := hP.1.2.2.1
  have hS := hP.1.1
  have hE := hP.1.2.1
  refine t_go (op := o_aload 1 0) (fe_X12_spare 0) (fun _ _ => rfl) ?_
  refine t_go (op := o_ci 2 0) (fe_X12_spare 1) (fun _ _ => rfl) ?_
  refine t_go (op := o_putI 5 11 0) (fe_X12_spare 2) (g_putI hS (show (lay 183).1 = 11 by decide) (by decide)) ?_
  have hz : Zf trl k (sI k 183 0 0) := Zf_thr Zf.rf
  have hS := (hP.zf hz).1.1
  have hE := (hP.zf hz).1.2.1
  refine t_go (op := o_aload 6 0) (fe_X12_spare 5) (fun _ _ => rfl) ?_
  refine t_go (op := o_iload 7 1) (fe_X12_spare 6) (fun _ _ => rfl) ?_
  refine t_call (op := o_callV 10 202 2 11) (fe_X12_spare 7) (g_callV hS (show (lay 183).1 = 11 by decide) (by decide) rfl rfl rfl (Nat.le_of_ble_eq_true rfl)) ?_
  refine M_eq (r_isEmber hS hE) ?_
  refine t_ite (op := o_if 13 22 (fun x => x = 0) (fun _ => inferInstance)) (fe_X12_spare 10) g_if (fun c1 => ?_) (fun c1 => ?_)
  · exact absurd (isE he hm) (b2i_z c1)
  · replace c1 := b2i_nn c1
    refine t_go (op := o_aload 14 0) (fe_X12_spare 13) (fun _ _ => rfl) ?_
    refine t_go (op := o_ci 15 0) (fe_X12_spare 14) (fun _ _ => rfl) ?_
    refine t_go (op := o_iload 16 1) (fe_X12_spare 15) (fun _ _ => rfl) ?_
    refine t_call (op := o_callV 19 203 3 11) (fe_X12_spare 16) (g_callV hS (show (lay 183).1 = 11 by decide) (by decide) rfl rfl rfl (Nat.le_of_ble_eq_true rfl)) ?_
    refine M_eq (r_isThere (b := 0) hS hW.1 (hB0.zf hz trl0) (by decide) (e := e) (by omega)) ?_
    refine t_ite (op := o_if 26 22 (fun x => x = 0) (fun _ => inferInstance)) (fe_X12_spare 19) g_if (fun c2 => ?_) (fun c2 => ?_)
    · replace c2 := b2i_z c2
      refine t_go (op := o_ci 25 (-1000)) (fe_X12_spare 22) (fun _ _ => rfl) ?_
      refine t_ret (op := o_iret) (fe_X12_spare 25) (fun _ _ => rfl) ?_
      exact ⟨rfl, hz⟩
    · exact absurd (b2i_nn c2) hh
theorem r_spare {d : Nat} {k h : AHP} {m n g T : Nat} {F : FS} (hP : CP k h g n m) (hW : FW m T F) (hB0 : RB (k.1 197) 0 F) (hT : T < 90000) {e : Nat} (he : e < m) (hh : hasF F (nI e)) : MM (d + 6) 238 [.ref 183, .int (nI e)] k (fun v h2 => v = some (.int (lastsV h g n (-1) 41 0 F - lastsV h g n (-1) 41 0 (takeOutF F (nI e)))) ∧ Zf trl k h2) := by
  refine ⟨Nat.le_of_ble_eq_true rfl, ?_⟩
  have hm := hP.1.2.2.1
  have hS := hP.1.1
  have hE := hP.1.2.1
  have hWt := hW
  refine t_go (op := o_aload 1 0) (fe_X12_spare 0) (fun _ _ => rfl) ?_
  refine t_go (op := o_ci 2 0) (fe_X12_spare 1) (fun _ _ => rfl) ?_
  refine t_go (op := o_putI 5 11 0) (fe_X12_spare 2) (g_putI hS (show (lay 183).1 = 11 by decide) (by decide)) ?_
  have hz : Zf trl k (sI k 183 0 0) := Zf_thr Zf.rf
  have hS := (hP.zf hz).1.1
  have hE := (hP.zf hz).1.2.1
  refine t_go (op := o_aload 6 0) (fe_X12_spare 5) (fun _ _ => rfl) ?_
  refine t_go (op := o_iload 7 1) (fe_X12_spare 6) (fun _ _ => rfl) ?_
  refine t_call (op := o_callV 10 202 2 11) (fe_X12_spare 7) (g_callV hS (show (lay 183).1 = 11 by decide) (by decide) rfl rfl rfl (Nat.le_of_ble_eq_true rfl)) ?_
  refine M_eq (r_isEmber hS hE) ?_
  refine t_ite (op := o_if 13 22 (fun x => x = 0) (fun _ => inferInstance)) (fe_X12_spare 10) g_if (fun c1 => ?_) (fun c1 => ?_)
  · exact absurd (isE he hm) (b2i_z c1)
  · replace c1 := b2i_nn c1
    refine t_go (op := o_aload 14 0) (fe_X12_spare 13) (fun _ _ => rfl) ?_
    refine t_go (op := o_ci 15 0) (fe_X12_spare 14) (fun _ _ => rfl) ?_
    refine t_go (op := o_iload 16 1) (fe_X12_spare 15) (fun _ _ => rfl) ?_
    refine t_call (op := o_callV 19 203 3 11) (fe_X12_spare 16) (g_callV hS (show (lay 183).1 = 11 by decide) (by decide) rfl rfl rfl (Nat.le_of_ble_eq_true rfl)) ?_
    refine M_eq (r_isThere (b := 0) hS hW.1 (hB0.zf hz trl0) (by decide) (e := e) (by omega)) ?_
    refine t_ite (op := o_if 26 22 (fun x => x = 0) (fun _ => inferInstance)) (fe_X12_spare 19) g_if (fun c2 => ?_) (fun c2 => ?_)
    · exact absurd hh (b2i_z c2)
    · replace c2 := b2i_nn c2
      refine t_go (op := o_aload 27 0) (fe_X12_spare 26) (fun _ _ => rfl) ?_
      refine t_call (op := o_callV 30 229 1 11) (fe_X12_spare 27) (g_callV hS (show (lay 183).1 = 11 by decide) (by decide) rfl rfl rfl (Nat.le_of_ble_eq_true rfl)) ?_
      refine M_mono ?_ (r_triesNow (hP.zf hz).1.1 (hB0.zf hz trl0))
      rintro _ h2 ⟨rfl, hz2, hBt⟩
      replace hz := hz.tr hz2
      clear hz2
      have hS := (hP.zf hz).1.1
      have hE := (hP.zf hz).1.2.1
      refine t_go (op := o_aload 31 0) (fe_X12_spare 30) (fun _ _ => rfl) ?_
      refine t_go (op := o_ci 32 0) (fe_X12_spare 31) (fun _ _ => rfl) ?_
      refine t_call (op := o_callV 35 233 2 11) (fe_X12_spare 32) (g_callV hS (show (lay 183).1 = 11 by decide) (by decide) rfl rfl rfl (Nat.le_of_ble_eq_true rfl)) ?_
      refine M_mono ?_ (r_lastsFor (i := 0) (j := 41) (hP.zf hz) (by decide) (show T < 98000 by omega) hBt hWt)
      rintro _ h2 ⟨rfl, hz2⟩
      replace hz := hz.tr hz2
      clear hz2
      have hS := (hP.zf hz).1.1
      have hE := (hP.zf hz).1.2.1
      refine t_go (op := o_istore 36 2) (fe_X12_spare 35) (fun _ _ => rfl) ?_
      refine t_go (op := o_aload 37 0) (fe_X12_spare 36) (fun _ _ => rfl) ?_
      refine t_call (op := o_callV 40 229 1 11) (fe_X12_spare 37) (g_callV hS (show (lay 183).1 = 11 by decide) (by decide) rfl rfl rfl (Nat.le_of_ble_eq_true rfl)) ?_
      refine M_mono ?_ (r_triesNow (hP.zf hz).1.1 (hB0.zf hz trl0))
      rintro _ h2 ⟨rfl, hz2, hBt⟩
      replace hz := hz.tr hz2
      clear hz2
      have hS := (hP.zf hz).1.1
      have hE := (hP.zf hz).1.2.1
      refine t_go (op := o_aload 41 0) (fe_X12_spare 40) (fun _ _ => rfl) ?_
      refine t_go (op := o_ci 44 882) (fe_X12_spare 41) (fun _ _ => rfl) ?_
      refine t_go (op := o_iload 45 1) (fe_X12_spare 44) (fun _ _ => rfl) ?_
      refine t_call (op := o_callV 48 212 3 11) (fe_X12_spare 45) (g_callV hS (show (lay 183).1 = 11 by decide) (by decide) rfl rfl rfl (Nat.le_of_ble_eq_true rfl)) ?_
      refine M_mono ?_ (r_van (hP.zf hz) hW.1 hBt (e := e) (by omega) hh)
      rintro _ h2 ⟨rfl, hz2, hBt⟩
      replace hz := hz.tr hz2
      clear hz2
      have hWt := FW_take (e := e) hW (by omega)
      have hS := (hP.zf hz).1.1
      have hE := (hP.zf hz).1.2.1
      refine t_go (op := o_iload 49 2) (fe_X12_spare 48) (fun _ _ => rfl) ?_
      refine t_go (op := o_aload 50 0) (fe_X12_spare 49) (fun _ _ => rfl) ?_
      refine t_go (op := o_ci 51 0) (fe_X12_spare 50) (fun _ _ => rfl) ?_
      refine t_call (op := o_callV 54 233 2 11) (fe_X12_spare 51) (g_callV hS (show (lay 183).1 = 11 by decide) (by decide) rfl rfl rfl (Nat.le_of_ble_eq_true rfl)) ?_
      refine M_mono ?_ (r_lastsFor (i := 0) (j := 41) (hP.zf hz) (by decide) (show T < 98000 by omega) hBt hWt)
      rintro _ h2 ⟨rfl, hz2⟩
      replace hz := hz.tr hz2
      clear hz2
      have hS := (hP.zf hz).1.1
      have hE := (hP.zf hz).1.2.1
      refine t_go (op := o_i2 55 (fun x y => x - y)) (fe_X12_spare 54) (fun _ _ => rfl) ?_
      refine t_ret (op := o_iret) (fe_X12_spare 55) (fun _ _ => rfl) ?_
      exact ⟨rfl, hz⟩
theorem heat_n {m : Nat} {F : FS} (hV : FV m F) : ∀ j i t, i + j ≤ 7 → t ≤ 20 * i → ∃ u : Nat, u ≤ 20 * (i + j) ∧ it (sumS F.2.1) j i (nI t) = nI u := by
  intro j
  induction j with
  | zero => intro i t _ h2; exact ⟨t, h2, rfl⟩
  | succ j ih =>
    intro i t h1 h2
    rw [it_step, sumS, nI_clamp (by omega)]
    obtain ⟨x, hx, ex⟩ : ∃ x : Nat, x ≤ 20 ∧ F.2.1 i = nI x := by
      rcases hV.1 i (by omega) with ⟨_, q, _⟩ | ⟨_, c, x, y, _, hx, _, _, _, q, _⟩
      · exact ⟨0, by omega, q⟩
      · exact ⟨x, hx, q⟩
    rw [ex, nI_add]
    obtain ⟨u, h3, h4⟩ := ih (i + 1) (t + x) (by omega) (by omega)
    exact ⟨u, by omega, h4⟩
noncomputable abbrev heatV (F : FS) : Int32 := it (sumS F.2.1) 7 0 0
theorem heat_N {m : Nat} {F : FS} (hV : FV m F) : ∃ u : Nat, u ≤ 140 ∧ heatV F = nI u := heat_n hV 7 0 0 (by omega) (by omega)
noncomputable abbrev heatT (h : AHP) (g n : Nat) (F : FS) : Nat → Int32 := fun t => heatV (HN h g n t F)
theorem hot_eq {h : AHP} {g n : Nat} {F : FS} : ∀ (j i : Nat) (s : Int32 × Int32), (it (hotS h g n) j (i + 1) (s, HN h g n i F)).1 = it (bestS (heatT h g n F)) j (i + 1) s := by
  intro j
  induction j with
  | zero => intro i s; rfl
  | succ j ih =>
    intro i s
    rw [it_step, it_step, show hotS h g n (i + 1) (s, HN h g n i F) = (bestS (heatT h g n F) (i + 1) s, HN h g n (i + 1) F) by
      unfold hotS bestS
      show (_, _) = _
      rw [← HN_succ]]
    exact ih (i + 1) _
theorem peak_eq {h : AHP} {g n m : Nat} {F : FS} (hV : FV m F) : it (bestS (heatT h g n F)) 41 0 (0, -1) = it (bestS (heatT h g n F)) 40 1 (0, heatV F) := by
  rw [it_step]
  obtain ⟨u, hu, eu⟩ := heat_N hV
  rw [bestS_f (v := heatT h g n F) (e := 0) (a := 0) (b := -1) (by show ¬ heatV F ≤ -1; rw [eu]; exact fun q => nI_pos (n := u) (by omega) (Int32.lt_of_le_of_lt q (by decide)))]
  rfl
theorem peak_hot {h : AHP} {g n m : Nat} {F : FS} (hV : FV m F) : (it (bestS (heatT h g n F)) 41 0 (0, -1)).1 = (it (hotS h g n) 40 1 ((0, heatV F), F)).1.1 := by
  have h1 := hot_eq (h := h) (g := g) (n := n) (F := F) 40 0 (0, heatV F)
  rw [show HN h g n 0 F = F from rfl, Nat.zero_add] at h1
  rw [peak_eq hV, h1]
theorem lr_peak {d : Nat} {k h : AHP} {m n g T : Nat} {F : FS} (hP : CP k h g n m) (hW : FW m T F) (hB0 : RB (k.1 197) 0 F) (hT : T < 90000) {Q : Option Value → AHP → Prop} : ∀ (j i : Nat) (S : AHP) (a c : Int32) (x4 : Option Value), i + j = 41 → Zf trl k S → RB (S.1 197) 882 (HN h g n i F) → (∀ S2, Zf trl k S2 → Q (some (.int (it (bestS (heatT h g n F)) j i (a, c)).1)) S2) → TT (d + 5) 239 15 [some (.ref 183), some (.int a), some (.int c), some (.int (nI i)), x4] [] S Q := by
  intro j
  induction j with
  | zero =>
    intro i S a c x4 hi hz hBt hq
    have hN : i = 41 := by omega
    have hm := hP.1.2.2.1
    have hS := (hP.zf hz).1.1
    have hE := (hP.zf hz).1.2.1
    have hWt := FW_HN (h := h) (g := g) (n := n) hm hW i
    refine t_go (op := o_iload 16 3) (fe_X12_peak 15) (fun _ _ => rfl) ?_
    refine t_go (op := o_ci 18 40) (fe_X12_peak 16) (fun _ _ => rfl) ?_
    refine t_ite (op := o_icmp 21 69 (fun x y => y < x) (fun _ _ => inferInstance)) (fe_X12_peak 18) g_icmp (fun c1 => ?_) (fun c1 => ?_)
    · refine t_go (op := o_iload 70 1) (fe_X12_peak 69) (fun _ _ => rfl) ?_
      refine t_ret (op := o_iret) (fe_X12_peak 70) (fun _ _ => rfl) ?_
      exact hq S hz
    · exact absurd (show (40 : Int32) < nI i by rw [hN]; decide) c1
  | succ j ih =>
    intro i S a c x4 hi hz hBt hq
    have hi7 : i < 41 := by omega
    have hm := hP.1.2.2.1
    have hS := (hP.zf hz).1.1
    have hE := (hP.zf hz).1.2.1
    have hWt := FW_HN (h := h) (g := g) (n := n) hm hW i
    refine t_go (op := o_iload 16 3) (fe_X12_peak 15) (fun _ _ => rfl) ?_
    refine t_go (op := o_ci 18 40) (fe_X12_peak 16) (fun _ _ => rfl) ?_
    refine t_ite (op := o_icmp 21 69 (fun x y => y < x) (fun _ _ => inferInstance)) (fe_X12_peak 18) g_icmp (fun c1 => ?_) (fun c1 => ?_)
    · exact absurd c1 (nI_nlt (a := 40) (b := i) (by omega) (by omega))
    · refine t_go (op := o_aload 22 0) (fe_X12_peak 21) (fun _ _ => rfl) ?_
      refine t_go (op := o_ci 25 882) (fe_X12_peak 22) (fun _ _ => rfl) ?_
      refine t_call (op := o_callV 28 216 2 11) (fe_X12_peak 25) (g_callV hS (show (lay 183).1 = 11 by decide) (by decide) rfl rfl rfl (Nat.le_of_ble_eq_true rfl)) ?_
      refine M_eq (r_heatOfAll (b := 882) (hP.zf hz).1 hWt.1 hBt (by decide)) ?_
      refine t_go (op := o_istore 30 4) (fe_X12_peak 28) (fun _ _ => rfl) ?_
      refine t_go (op := o_iload 32 4) (fe_X12_peak 30) (fun _ _ => rfl) ?_
      refine t_go (op := o_iload 33 2) (fe_X12_peak 32) (fun _ _ => rfl) ?_
      refine t_ite (op := o_icmp 36 40 (fun x y => x ≤ y) (fun _ _ => inferInstance)) (fe_X12_peak 33) g_icmp (fun c2 => ?_) (fun c2 => ?_)
      · refine t_go (op := o_iload 41 1) (fe_X12_peak 40) (fun _ _ => rfl) ?_
        refine t_go (op := o_istore 42 1) (fe_X12_peak 41) (fun _ _ => rfl) ?_
        refine t_go (op := o_iload 44 4) (fe_X12_peak 42) (fun _ _ => rfl) ?_
        refine t_go (op := o_iload 45 2) (fe_X12_peak 44) (fun _ _ => rfl) ?_
        refine t_ite (op := o_icmp 48 53 (fun x y => x ≤ y) (fun _ _ => inferInstance)) (fe_X12_peak 45) g_icmp (fun c3 => ?_) (fun c3 => ?_)
        · refine t_go (op := o_iload 54 2) (fe_X12_peak 53) (fun _ _ => rfl) ?_
          refine t_go (op := o_istore 55 2) (fe_X12_peak 54) (fun _ _ => rfl) ?_
          refine t_go (op := o_aload 56 0) (fe_X12_peak 55) (fun _ _ => rfl) ?_
          refine t_go (op := o_ci 59 882) (fe_X12_peak 56) (fun _ _ => rfl) ?_
          refine t_call (op := o_callV 62 215 2 11) (fe_X12_peak 59) (g_callV hS (show (lay 183).1 = 11 by decide) (by decide) rfl rfl rfl (Nat.le_of_ble_eq_true rfl)) ?_
          refine M_mono ?_ (r_hour (b := 882) (hP.zf hz) hWt hBt (by decide) (by omega))
          rintro _ h2 ⟨rfl, hz2, hB2⟩
          replace hz := hz.tr (hz2.mono trl_b)
          clear hz2
          have hS := (hP.zf hz).1.1
          have hE := (hP.zf hz).1.2.1
          refine t_go (op := o_popI 63) (fe_X12_peak 62) (fun _ _ => rfl) ?_
          refine t_go (op := o_iinc 66 3 1) (fe_X12_peak 63) (fun _ _ => rfl) ?_
          refine t_go (op := o_goto 15) (fe_X12_peak 66) (fun _ _ => rfl) ?_
          rw [it_step, bestS_t (v := heatT h g n F) (e := i) (a := a) (b := c) c3] at hq
          rw [nI_1]
          rw [← HN_succ] at hB2
          exact ih (i + 1) _ _ _ _ (by omega) hz hB2 hq
        · exact absurd c2 c3
      · refine t_go (op := o_iload 37 3) (fe_X12_peak 36) (fun _ _ => rfl) ?_
        refine t_go (op := o_goto 41) (fe_X12_peak 37) (fun _ _ => rfl) ?_
        refine t_go (op := o_istore 42 1) (fe_X12_peak 41) (fun _ _ => rfl) ?_
        refine t_go (op := o_iload 44 4) (fe_X12_peak 42) (fun _ _ => rfl) ?_
        refine t_go (op := o_iload 45 2) (fe_X12_peak 44) (fun _ _ => rfl) ?_
        refine t_ite (op := o_icmp 48 53 (fun x y => x ≤ y) (fun _ _ => inferInstance)) (fe_X12_peak 45) g_icmp (fun c4 => ?_) (fun c4 => ?_)
        · exact absurd c4 c2
        · refine t_go (op := o_iload 50 4) (fe_X12_peak 48) (fun _ _ => rfl) ?_
          refine t_go (op := o_goto 54) (fe_X12_peak 50) (fun _ _ => rfl) ?_
          refine t_go (op := o_istore 55 2) (fe_X12_peak 54) (fun _ _ => rfl) ?_
          refine t_go (op := o_aload 56 0) (fe_X12_peak 55) (fun _ _ => rfl) ?_
          refine t_go (op := o_ci 59 882) (fe_X12_peak 56) (fun _ _ => rfl) ?_
          refine t_call (op := o_callV 62 215 2 11) (fe_X12_peak 59) (g_callV hS (show (lay 183).1 = 11 by decide) (by decide) rfl rfl rfl (Nat.le_of_ble_eq_true rfl)) ?_
          refine M_mono ?_ (r_hour (b := 882) (hP.zf hz) hWt hBt (by decide) (by omega))
          rintro _ h2 ⟨rfl, hz2, hB2⟩
          replace hz := hz.tr (hz2.mono trl_b)
          clear hz2
          have hS := (hP.zf hz).1.1
          have hE := (hP.zf hz).1.2.1
          refine t_go (op := o_popI 63) (fe_X12_peak 62) (fun _ _ => rfl) ?_
          refine t_go (op := o_iinc 66 3 1) (fe_X12_peak 63) (fun _ _ => rfl) ?_
          refine t_go (op := o_goto 15) (fe_X12_peak 66) (fun _ _ => rfl) ?_
          rw [it_step, bestS_f (v := heatT h g n F) (e := i) (a := a) (b := c) c4] at hq
          rw [nI_1]
          rw [← HN_succ] at hB2
          exact ih (i + 1) _ _ _ _ (by omega) hz hB2 hq
theorem r_peak {d : Nat} {k h : AHP} {m n g T : Nat} {F : FS} (hP : CP k h g n m) (hW : FW m T F) (hB0 : RB (k.1 197) 0 F) (hT : T < 90000)  : MM (d + 5) 239 [.ref 183] k (fun v h2 => v = some (.int (it (hotS h g n) 40 1 ((0, heatV F), F)).1.1) ∧ Zf trl k h2) := by
  refine ⟨Nat.le_of_ble_eq_true rfl, ?_⟩
  have hm := hP.1.2.2.1
  have hS := hP.1.1
  have hE := hP.1.2.1
  refine t_go (op := o_aload 1 0) (fe_X12_peak 0) (fun _ _ => rfl) ?_
  refine t_go (op := o_ci 2 0) (fe_X12_peak 1) (fun _ _ => rfl) ?_
  refine t_go (op := o_putI 5 11 0) (fe_X12_peak 2) (g_putI hS (show (lay 183).1 = 11 by decide) (by decide)) ?_
  have hz : Zf trl k (sI k 183 0 0) := Zf_thr Zf.rf
  have hS := (hP.zf hz).1.1
  have hE := (hP.zf hz).1.2.1
  refine t_go (op := o_aload 6 0) (fe_X12_peak 5) (fun _ _ => rfl) ?_
  refine t_call (op := o_callV 9 229 1 11) (fe_X12_peak 6) (g_callV hS (show (lay 183).1 = 11 by decide) (by decide) rfl rfl rfl (Nat.le_of_ble_eq_true rfl)) ?_
  refine M_mono ?_ (r_triesNow (hP.zf hz).1.1 (hB0.zf hz trl0))
  rintro _ h2 ⟨rfl, hz2, hBt⟩
  replace hz := hz.tr hz2
  clear hz2
  have hS := (hP.zf hz).1.1
  have hE := (hP.zf hz).1.2.1
  refine t_go (op := o_ci 10 0) (fe_X12_peak 9) (fun _ _ => rfl) ?_
  refine t_go (op := o_istore 11 1) (fe_X12_peak 10) (fun _ _ => rfl) ?_
  refine t_go (op := o_ci 12 (-1)) (fe_X12_peak 11) (fun _ _ => rfl) ?_
  refine t_go (op := o_istore 13 2) (fe_X12_peak 12) (fun _ _ => rfl) ?_
  refine t_go (op := o_ci 14 0) (fe_X12_peak 13) (fun _ _ => rfl) ?_
  refine t_go (op := o_istore 15 3) (fe_X12_peak 14) (fun _ _ => rfl) ?_
  exact (lr_peak hP hW hB0 hT 41 0 _ 0 (-1) _ (by omega) hz hBt fun S2 hz => ⟨by rw [peak_hot hW.1], hz⟩)
theorem r_age {d : Nat} {k h : AHP} {m n g T : Nat} {F : FS} (hP : CP k h g n m) (hW : FW m T F) (hB0 : RB (k.1 197) 0 F) (hT : T < 90000)  : MM (d + 2) 240 [.ref 183] k (fun v h2 => v = some (.int (heatV F / 20)) ∧ Zf trl k h2) := by
  refine ⟨Nat.le_of_ble_eq_true rfl, ?_⟩
  have hm := hP.1.2.2.1
  have hS := hP.1.1
  have hE := hP.1.2.1
  refine t_go (op := o_aload 1 0) (fe_X12_age 0) (fun _ _ => rfl) ?_
  refine t_go (op := o_ci 2 0) (fe_X12_age 1) (fun _ _ => rfl) ?_
  refine t_go (op := o_putI 5 11 0) (fe_X12_age 2) (g_putI hS (show (lay 183).1 = 11 by decide) (by decide)) ?_
  have hz : Zf trl k (sI k 183 0 0) := Zf_thr Zf.rf
  have hS := (hP.zf hz).1.1
  have hE := (hP.zf hz).1.2.1
  refine t_go (op := o_aload 6 0) (fe_X12_age 5) (fun _ _ => rfl) ?_
  refine t_go (op := o_ci 7 0) (fe_X12_age 6) (fun _ _ => rfl) ?_
  refine t_call (op := o_callV 10 216 2 11) (fe_X12_age 7) (g_callV hS (show (lay 183).1 = 11 by decide) (by decide) rfl rfl rfl (Nat.le_of_ble_eq_true rfl)) ?_
  refine M_eq (r_heatOfAll (b := 0) (hP.zf hz).1 hW.1 (hB0.zf hz trl0) (by decide)) ?_
  refine t_go (op := o_ci 12 20) (fe_X12_age 10) (fun _ _ => rfl) ?_
  refine t_go (op := o_i2d 13 (fun x y => x / y)) (fe_X12_age 12) (g_i2d (by decide)) ?_
  refine t_ret (op := o_iret) (fe_X12_age 13) (fun _ _ => rfl) ?_
  exact ⟨rfl, hz⟩
theorem nI_div {a q : Nat} (ha : a < 2 ^ 31) (hq : 1 ≤ q) (hq2 : q < 2 ^ 31) : nI a / nI q = nI (a / q) := by
  refine Int32.toInt_inj.mp ?_
  rw [Int32.toInt_div, nI_toInt ha, nI_toInt hq2, nI_toInt (Nat.lt_of_le_of_lt (Nat.div_le_self a q) ha), show ((a : Int).tdiv (q : Int)) = ((a / q : Nat) : Int) from rfl]
  refine Int.bmod_eq_of_le ?_ ?_
  · have : (0 : Int) ≤ ((a / q : Nat) : Int) := Int.natCast_nonneg _
    omega
  · have : a / q ≤ a := Nat.div_le_self a q
    omega
theorem i_div {i : Nat} (h : i < 84) : nI i / 12 = nI (i / 12) := nI_div (q := 12) (by omega) (by decide) (by decide)
theorem i_rem {i : Nat} (h : i < 84) : remI (nI i) 12 = nI (i % 12) := nI_mod (q := 12) (by omega) (by decide) (by decide)
theorem lie_neg {m c : Nat} {F : FS} (hV : FV m F) (hc : c < 12) : F.2.2.2.1 c < 0 ↔ freeF F (nI c) := by
  rw [free_n hc]
  rcases hV.2.1 c hc with ⟨h, _⟩ | ⟨e, he, h, _⟩
  · rw [h]; exact ⟨fun _ => rfl, fun _ => by decide⟩
  · rw [h]; exact ⟨fun q => absurd q (nI_pos (by omega)), fun q => absurd q (nI_m1 (by omega))⟩
theorem r_mayCarry {d : Nat} {k : AHP} {m b e c : Nat} {F : FS} (hS : Std k) (hE : k.1 189 0 = nI m) (hm : m ≤ 7) (hV : FV m F) (hB : RB (k.1 197) b F) (hb : b + 23 ≤ 966) (he : e < 7) (hc : c < 12) : MM (d + 2) 223 [.ref 183, .int (nI b), .int (nI e), .int (nI c)] k (fun v h2 => v = some (.int (b2i (hasF F (nI e) ∧ freeF F (nI c)))) ∧ h2 = k) := by
  refine ⟨Nat.le_of_ble_eq_true rfl, ?_⟩
  refine t_go (op := o_aload 1 0) (fe_X12_mayCarry 0) (fun _ _ => rfl) ?_
  refine t_go (op := o_iload 2 1) (fe_X12_mayCarry 1) (fun _ _ => rfl) ?_
  refine t_go (op := o_iload 3 2) (fe_X12_mayCarry 2) (fun _ _ => rfl) ?_
  refine t_call (op := o_callV 6 203 3 11) (fe_X12_mayCarry 3) (g_callV hS (show (lay 183).1 = 11 by decide) (by decide) rfl rfl rfl (Nat.le_of_ble_eq_true rfl)) ?_
  refine M_eq (r_isThere hS hV hB hb he) ?_
  refine t_ite (op := o_if 9 22 (fun x => x = 0) (fun _ => inferInstance)) (fe_X12_mayCarry 6) g_if (fun c1 => ?_) (fun c1 => ?_)
  · replace c1 := b2i_z c1
    refine t_go (op := o_ci 23 0) (fe_X12_mayCarry 22) (fun _ _ => rfl) ?_
    refine t_ret (op := o_zret) (fe_X12_mayCarry 23) (g_zret (Or.inl rfl)) ?_
    exact ⟨by rw [b2i_f fun q => c1 q.1], rfl⟩
  · replace c1 := b2i_nn c1
    refine t_go (op := o_aload 10 0) (fe_X12_mayCarry 9) (fun _ _ => rfl) ?_
    refine t_go (op := o_iload 11 1) (fe_X12_mayCarry 10) (fun _ _ => rfl) ?_
    refine t_go (op := o_iload 12 3) (fe_X12_mayCarry 11) (fun _ _ => rfl) ?_
    refine t_call (op := o_callV 15 206 3 11) (fe_X12_mayCarry 12) (g_callV hS (show (lay 183).1 = 11 by decide) (by decide) rfl rfl rfl (Nat.le_of_ble_eq_true rfl)) ?_
    refine M_eq (r_lyingIn hS hV hB hb hm hE hc) ?_
    refine t_ite (op := o_if 18 22 (fun x => 0 ≤ x) (fun _ => inferInstance)) (fe_X12_mayCarry 15) g_if (fun c2 => ?_) (fun c2 => ?_)
    · refine t_go (op := o_ci 23 0) (fe_X12_mayCarry 22) (fun _ _ => rfl) ?_
      refine t_ret (op := o_zret) (fe_X12_mayCarry 23) (g_zret (Or.inl rfl)) ?_
      exact ⟨by rw [b2i_f fun q => absurd ((lie_neg hV hc).mpr q.2) (Int32.not_lt.mpr c2)], rfl⟩
    · refine t_go (op := o_ci 19 1) (fe_X12_mayCarry 18) (fun _ _ => rfl) ?_
      refine t_go (op := o_goto 23) (fe_X12_mayCarry 19) (fun _ _ => rfl) ?_
      refine t_ret (op := o_zret) (fe_X12_mayCarry 23) (g_zret (Or.inr rfl)) ?_
      exact ⟨by rw [b2i_t ⟨c1, (lie_neg hV hc).mp (Int32.not_le.mp c2)⟩], rfl⟩
theorem it_moreK {α : Type} {f : Nat → α → α} {a b : Nat} {s : α} (hm : a ≤ b) (h : ∀ t s, a ≤ t → t < b → f t s = s) : it f b 0 s = it f a 0 s := by
  rw [show b = a + (b - a) by omega, it_app, it_id _ _ _ fun t s h1 h2 => h t s (by omega) (by omega)]
/-- the moves of a fire -/
noncomputable def moveG (h : AHP) (g n : Nat) (F : FS) (i : Nat) (s : Int32 × Int32) : Int32 × Int32 := @ite _ (hasF F (nI i / 12) ∧ freeF F (remI (nI i) 12)) (Classical.propDecidable _) (if lastsV h g n (-1) 41 0 (carryF F (nI i / 12) (remI (nI i) 12)) ≤ s.2 then s else (nI i, lastsV h g n (-1) 41 0 (carryF F (nI i / 12) (remI (nI i) 12)))) s
theorem move_m {h : AHP} {g n m : Nat} {F : FS} {s : Int32 × Int32} (hV : FV m F) (hm : m ≤ 7) : it (moveG h g n F) 84 0 s = it (moveG h g n F) (12 * m) 0 s := it_moreK (by omega) fun t s h1 h2 => if_neg fun q => FV_no hV (show t / 12 < 7 by omega) (show m ≤ t / 12 by omega) (by have := q.1; rw [i_div h2] at this; exact this)
def moveE (a y : Int32) : Int32 := if 0 ≤ a then (if y = 0 then a / 12 else remI a 12) else -1
theorem lr_move {d : Nat} {k h : AHP} {m n g T : Nat} {F : FS} (hP : CP k h g n m) (hW : FW m T F) (hB0 : RB (k.1 197) 0 F) (hT : T < 90000) {y : Int32} {Q : Option Value → AHP → Prop} : ∀ (j i : Nat) (S : AHP) (c a : Int32) (x5 : Option Value), i + j = (12 * m) → Zf trl k S → (∀ S2 x5, Zf trl k S2 → TT (d + 6) 241 123 [some (.ref 183), some (.int y), some (.int (it (moveG h g n F) j i (a, c)).2), some (.int (it (moveG h g n F) j i (a, c)).1), some (.int (nI (12 * m))), x5] [] S2 Q) → TT (d + 6) 241 31 [some (.ref 183), some (.int y), some (.int c), some (.int a), some (.int (nI i)), x5] [] S Q := by
  intro j
  induction j with
  | zero =>
    intro i S c a x5 hi hz hq
    have hN : i = (12 * m) := by omega
    have hm := hP.1.2.2.1
    have hS := (hP.zf hz).1.1
    have hE := (hP.zf hz).1.2.1
    refine t_go (op := o_iload 33 4) (fe_X12_move 31) (fun _ _ => rfl) ?_
    refine t_go (op := o_ci 35 12) (fe_X12_move 33) (fun _ _ => rfl) ?_
    refine t_go (op := o_aload 36 0) (fe_X12_move 35) (fun _ _ => rfl) ?_
    refine t_call (op := o_callV 39 200 1 11) (fe_X12_move 36) (g_callV hS (show (lay 183).1 = 11 by decide) (by decide) rfl rfl rfl (Nat.le_of_ble_eq_true rfl)) ?_
    refine M_eq (r_embers hS hE) ?_
    refine t_go (op := o_i2 40 (fun x y => x * y)) (fe_X12_move 39) (fun _ _ => rfl) ?_
    refine t_ite (op := o_icmp 43 123 (fun x y => y ≤ x) (fun _ _ => inferInstance)) (fe_X12_move 40) g_icmp (fun c1 => ?_) (fun c1 => ?_)
    · have eN : nI i = nI (12 * m) := by rw [hN]
      rw [eN]
      exact hq S _ hz
    · exact absurd (show (12 : Int32) * nI m ≤ nI i by rw [hN, show (12 : Int32) * nI m = nI (12 * m) from nIm (nIl 12) rfl]; exact Int32.le_refl _) c1
  | succ j ih =>
    intro i S c a x5 hi hz hq
    have hi7 : i < (12 * m) := by omega
    have hm := hP.1.2.2.1
    have hS := (hP.zf hz).1.1
    have hE := (hP.zf hz).1.2.1
    refine t_go (op := o_iload 33 4) (fe_X12_move 31) (fun _ _ => rfl) ?_
    refine t_go (op := o_ci 35 12) (fe_X12_move 33) (fun _ _ => rfl) ?_
    refine t_go (op := o_aload 36 0) (fe_X12_move 35) (fun _ _ => rfl) ?_
    refine t_call (op := o_callV 39 200 1 11) (fe_X12_move 36) (g_callV hS (show (lay 183).1 = 11 by decide) (by decide) rfl rfl rfl (Nat.le_of_ble_eq_true rfl)) ?_
    refine M_eq (r_embers hS hE) ?_
    refine t_go (op := o_i2 40 (fun x y => x * y)) (fe_X12_move 39) (fun _ _ => rfl) ?_
    refine t_ite (op := o_icmp 43 123 (fun x y => y ≤ x) (fun _ _ => inferInstance)) (fe_X12_move 40) g_icmp (fun c1 => ?_) (fun c1 => ?_)
    · exact absurd c1 (show ¬ (12 : Int32) * nI m ≤ nI i by rw [show (12 : Int32) * nI m = nI (12 * m) from nIm (nIl 12) rfl]; exact nI_ge hi7 (by omega))
    · refine t_go (op := o_aload 44 0) (fe_X12_move 43) (fun _ _ => rfl) ?_
      refine t_go (op := o_ci 45 0) (fe_X12_move 44) (fun _ _ => rfl) ?_
      refine t_go (op := o_iload 47 4) (fe_X12_move 45) (fun _ _ => rfl) ?_
      refine t_go (op := o_ci 49 12) (fe_X12_move 47) (fun _ _ => rfl) ?_
      refine t_go (op := o_i2d 50 (fun x y => x / y)) (fe_X12_move 49) (g_i2d (by decide)) ?_
      refine t_go (op := o_iload 52 4) (fe_X12_move 50) (fun _ _ => rfl) ?_
      refine t_go (op := o_ci 54 12) (fe_X12_move 52) (fun _ _ => rfl) ?_
      refine t_go (op := o_i2d 55 (fun x y => x - x / y * y)) (fe_X12_move 54) (g_i2d (by decide)) ?_
      refine t_call (op := o_callV 58 223 4 11) (fe_X12_move 55) (g_callV hS (show (lay 183).1 = 11 by decide) (by decide) rfl rfl rfl (Nat.le_of_ble_eq_true rfl)) ?_
      show MM _ _ [.ref 183, .int 0, .int (nI i / 12), .int (remI (nI i) 12)] _ _
      rw [i_div (show i < 84 by omega), i_rem (show i < 84 by omega)]
      refine M_eq (r_mayCarry (b := 0) hS hE hm hW.1 (hB0.zf hz trl0) (by decide) (e := i / 12) (c := i % 12) (by omega) (by omega)) ?_
      refine t_ite (op := o_if 61 117 (fun x => x = 0) (fun _ => inferInstance)) (fe_X12_move 58) g_if (fun c2 => ?_) (fun c2 => ?_)
      · replace c2 := b2i_z c2
        refine t_go (op := o_iinc 120 4 1) (fe_X12_move 117) (fun _ _ => rfl) ?_
        refine t_go (op := o_goto 31) (fe_X12_move 120) (fun _ _ => rfl) ?_
        rw [it_step, moveG, i_div (by omega), i_rem (by omega), if_neg c2] at hq
        rw [nI_1]
        exact ih (i + 1) _ _ _ _ (by omega) hz hq
      · replace c2 := b2i_nn c2
        refine t_go (op := o_aload 62 0) (fe_X12_move 61) (fun _ _ => rfl) ?_
        refine t_call (op := o_callV 65 229 1 11) (fe_X12_move 62) (g_callV hS (show (lay 183).1 = 11 by decide) (by decide) rfl rfl rfl (Nat.le_of_ble_eq_true rfl)) ?_
        refine M_mono ?_ (r_triesNow (hP.zf hz).1.1 (hB0.zf hz trl0))
        rintro _ h2 ⟨rfl, hz2, hBt⟩
        replace hz := hz.tr hz2
        clear hz2
        have hS := (hP.zf hz).1.1
        have hE := (hP.zf hz).1.2.1
        refine t_go (op := o_aload 66 0) (fe_X12_move 65) (fun _ _ => rfl) ?_
        refine t_go (op := o_getR 69 11 22) (fe_X12_move 66) (g_getR hS (show (lay 183).1 = 11 by decide) (by decide) (fr_11_22 hS) (by decide)) ?_
        refine t_go (op := o_ci 72 884) (fe_X12_move 69) (fun _ _ => rfl) ?_
        refine t_go (op := o_iload 74 4) (fe_X12_move 72) (fun _ _ => rfl) ?_
        refine t_go (op := o_ci 76 12) (fe_X12_move 74) (fun _ _ => rfl) ?_
        refine t_go (op := o_i2d 77 (fun x y => x / y)) (fe_X12_move 76) (g_i2d (by decide)) ?_
        refine t_go (op := o_i2 78 (fun x y => x + y)) (fe_X12_move 77) (fun _ _ => rfl) ?_
        refine t_go (op := o_iload 80 4) (fe_X12_move 78) (fun _ _ => rfl) ?_
        refine t_go (op := o_ci 82 12) (fe_X12_move 80) (fun _ _ => rfl) ?_
        refine t_go (op := o_i2d 83 (fun x y => x - x / y * y)) (fe_X12_move 82) (g_i2d (by decide)) ?_
        refine t_go (op := o_iast 84) (fe_X12_move 83) (g_iastN hS (show lay 197 = (20, 966) by decide) (nIa (nIl 884) (i_div (by omega))) (by omega) (by decide)) ?_
        show TT _ _ _ _ _ (sI _ 197 _ (remI (nI i) 12)) _
        rw [i_rem (show i < 84 by omega)]
        have hz3 : Zf trl k (sI h2 197 (884 + i / 12) (nI (i % 12))) := Zf_st hz (by constructor <;> omega)
        obtain ⟨_, c0, _, _, hc0, _, _, _, hce, _⟩ := FV_in hW.1 (show i / 12 < 7 by omega) c2.1
        have hBt2 : RB ((sI h2 197 (884 + i / 12) (nI (i % 12))).1 197) 882 (carryF F (nI (i / 12)) (nI (i % 12))) := by
          rw [carry_eq hW.1 (by omega) c2.1 hce hc0 (by omega) ((free_n (by omega)).mp c2.2)]
          exact RB_lies (RB_cell hBt (by omega))
        replace hz := hz3
        clear hz3
        replace hBt := hBt2
        clear hBt2
        have hWt := FW_carry (e := i / 12) (c := i % 12) hW (by omega) (by omega)
        have hS := (hP.zf hz).1.1
        have hE := (hP.zf hz).1.2.1
        refine t_go (op := o_aload 85 0) (fe_X12_move 84) (fun _ _ => rfl) ?_
        refine t_go (op := o_ci 86 0) (fe_X12_move 85) (fun _ _ => rfl) ?_
        refine t_call (op := o_callV 89 233 2 11) (fe_X12_move 86) (g_callV hS (show (lay 183).1 = 11 by decide) (by decide) rfl rfl rfl (Nat.le_of_ble_eq_true rfl)) ?_
        refine M_mono ?_ (r_lastsFor (i := 0) (j := 41) (hP.zf hz) (by decide) (show T < 98000 by omega) hBt hWt)
        rintro _ h2 ⟨rfl, hz2⟩
        replace hz := hz.tr hz2
        clear hz2
        have hS := (hP.zf hz).1.1
        have hE := (hP.zf hz).1.2.1
        refine t_go (op := o_istore 91 5) (fe_X12_move 89) (fun _ _ => rfl) ?_
        refine t_go (op := o_iload 93 5) (fe_X12_move 91) (fun _ _ => rfl) ?_
        refine t_go (op := o_iload 94 2) (fe_X12_move 93) (fun _ _ => rfl) ?_
        refine t_ite (op := o_icmp 97 102 (fun x y => x ≤ y) (fun _ _ => inferInstance)) (fe_X12_move 94) g_icmp (fun c3 => ?_) (fun c3 => ?_)
        · refine t_go (op := o_iload 103 3) (fe_X12_move 102) (fun _ _ => rfl) ?_
          refine t_go (op := o_istore 104 3) (fe_X12_move 103) (fun _ _ => rfl) ?_
          refine t_go (op := o_iload 106 5) (fe_X12_move 104) (fun _ _ => rfl) ?_
          refine t_go (op := o_iload 107 2) (fe_X12_move 106) (fun _ _ => rfl) ?_
          refine t_ite (op := o_icmp 110 115 (fun x y => x ≤ y) (fun _ _ => inferInstance)) (fe_X12_move 107) g_icmp (fun c4 => ?_) (fun c4 => ?_)
          · refine t_go (op := o_iload 116 2) (fe_X12_move 115) (fun _ _ => rfl) ?_
            refine t_go (op := o_istore 117 2) (fe_X12_move 116) (fun _ _ => rfl) ?_
            refine t_go (op := o_iinc 120 4 1) (fe_X12_move 117) (fun _ _ => rfl) ?_
            refine t_go (op := o_goto 31) (fe_X12_move 120) (fun _ _ => rfl) ?_
            rw [it_step, moveG, i_div (by omega), i_rem (by omega), if_pos c2, if_pos c4] at hq
            rw [nI_1]
            exact ih (i + 1) _ _ _ _ (by omega) hz hq
          · exact absurd c3 c4
        · refine t_go (op := o_iload 99 4) (fe_X12_move 97) (fun _ _ => rfl) ?_
          refine t_go (op := o_goto 103) (fe_X12_move 99) (fun _ _ => rfl) ?_
          refine t_go (op := o_istore 104 3) (fe_X12_move 103) (fun _ _ => rfl) ?_
          refine t_go (op := o_iload 106 5) (fe_X12_move 104) (fun _ _ => rfl) ?_
          refine t_go (op := o_iload 107 2) (fe_X12_move 106) (fun _ _ => rfl) ?_
          refine t_ite (op := o_icmp 110 115 (fun x y => x ≤ y) (fun _ _ => inferInstance)) (fe_X12_move 107) g_icmp (fun c5 => ?_) (fun c5 => ?_)
          · exact absurd c5 c3
          · refine t_go (op := o_iload 112 5) (fe_X12_move 110) (fun _ _ => rfl) ?_
            refine t_go (op := o_goto 116) (fe_X12_move 112) (fun _ _ => rfl) ?_
            refine t_go (op := o_istore 117 2) (fe_X12_move 116) (fun _ _ => rfl) ?_
            refine t_go (op := o_iinc 120 4 1) (fe_X12_move 117) (fun _ _ => rfl) ?_
            refine t_go (op := o_goto 31) (fe_X12_move 120) (fun _ _ => rfl) ?_
            rw [it_step, moveG, i_div (by omega), i_rem (by omega), if_pos c2, if_neg c5] at hq
            rw [nI_1]
            exact ih (i + 1) _ _ _ _ (by omega) hz hq
theorem r_move {d : Nat} {k h : AHP} {m n g T : Nat} {F : FS} (hP : CP k h g n m) (hW : FW m T F) (hB0 : RB (k.1 197) 0 F) (hT : T < 90000) {y : Int32} (hy : ¬ y < 0 ∧ ¬ 1 < y) : MM (d + 6) 241 [.ref 183, .int y] k (fun v h2 => v = some (.int (moveE (it (moveG h g n F) 84 0 (-1, lastsV h g n (-1) 41 0 F)).1 y)) ∧ Zf trl k h2) := by
  refine ⟨Nat.le_of_ble_eq_true rfl, ?_⟩
  have hm := hP.1.2.2.1
  have hS := hP.1.1
  have hE := hP.1.2.1
  have hWt := hW
  refine t_go (op := o_aload 1 0) (fe_X12_move 0) (fun _ _ => rfl) ?_
  refine t_go (op := o_ci 2 0) (fe_X12_move 1) (fun _ _ => rfl) ?_
  refine t_go (op := o_putI 5 11 0) (fe_X12_move 2) (g_putI hS (show (lay 183).1 = 11 by decide) (by decide)) ?_
  have hz : Zf trl k (sI k 183 0 0) := Zf_thr Zf.rf
  have hS := (hP.zf hz).1.1
  have hE := (hP.zf hz).1.2.1
  refine t_go (op := o_iload 6 1) (fe_X12_move 5) (fun _ _ => rfl) ?_
  refine t_go (op := o_ci 7 0) (fe_X12_move 6) (fun _ _ => rfl) ?_
  refine t_go (op := o_ci 8 1) (fe_X12_move 7) (fun _ _ => rfl) ?_
  refine t_call (op := o_callS 11 173 3) (fe_X12_move 8) (g_callS rfl rfl rfl (Nat.le_of_ble_eq_true rfl)) ?_
  refine M_eq r_within ?_
  refine t_ite (op := o_if 16 14 (fun x => x = 0) (fun _ => inferInstance)) (fe_X12_move 11) g_if (fun c1 => ?_) (fun c1 => ?_)
  · exact absurd hy (b2i_z c1)
  · replace c1 := b2i_nn c1
    refine t_go (op := o_aload 17 0) (fe_X12_move 16) (fun _ _ => rfl) ?_
    refine t_call (op := o_callV 20 229 1 11) (fe_X12_move 17) (g_callV hS (show (lay 183).1 = 11 by decide) (by decide) rfl rfl rfl (Nat.le_of_ble_eq_true rfl)) ?_
    refine M_mono ?_ (r_triesNow (hP.zf hz).1.1 (hB0.zf hz trl0))
    rintro _ h2 ⟨rfl, hz2, hBt⟩
    replace hz := hz.tr hz2
    clear hz2
    have hS := (hP.zf hz).1.1
    have hE := (hP.zf hz).1.2.1
    refine t_go (op := o_aload 21 0) (fe_X12_move 20) (fun _ _ => rfl) ?_
    refine t_go (op := o_ci 22 0) (fe_X12_move 21) (fun _ _ => rfl) ?_
    refine t_call (op := o_callV 25 233 2 11) (fe_X12_move 22) (g_callV hS (show (lay 183).1 = 11 by decide) (by decide) rfl rfl rfl (Nat.le_of_ble_eq_true rfl)) ?_
    refine M_mono ?_ (r_lastsFor (i := 0) (j := 41) (hP.zf hz) (by decide) (show T < 98000 by omega) hBt hWt)
    rintro _ h2 ⟨rfl, hz2⟩
    replace hz := hz.tr hz2
    clear hz2
    have hS := (hP.zf hz).1.1
    have hE := (hP.zf hz).1.2.1
    refine t_go (op := o_istore 26 2) (fe_X12_move 25) (fun _ _ => rfl) ?_
    refine t_go (op := o_ci 27 (-1)) (fe_X12_move 26) (fun _ _ => rfl) ?_
    refine t_go (op := o_istore 28 3) (fe_X12_move 27) (fun _ _ => rfl) ?_
    refine t_go (op := o_ci 29 0) (fe_X12_move 28) (fun _ _ => rfl) ?_
    refine t_go (op := o_istore 31 4) (fe_X12_move 29) (fun _ _ => rfl) ?_
    refine lr_move hP hW hB0 hT (12 * m) 0 _ _ _ _ (by omega) hz fun S2 x5 hz => ?_
    rw [← move_m hW.1 hm]
    have hS := (hP.zf hz).1.1
    have hE := (hP.zf hz).1.2.1
    refine t_go (op := o_iload 124 3) (fe_X12_move 123) (fun _ _ => rfl) ?_
    refine t_ite (op := o_if 127 131 (fun x => 0 ≤ x) (fun _ => inferInstance)) (fe_X12_move 124) g_if (fun c2 => ?_) (fun c2 => ?_)
    · refine t_go (op := o_iload 132 1) (fe_X12_move 131) (fun _ _ => rfl) ?_
      refine t_ite (op := o_if 142 135 (fun x => x = 0) (fun _ => inferInstance)) (fe_X12_move 132) g_if (fun c3 => ?_) (fun c3 => ?_)
      · refine t_go (op := o_iload 136 3) (fe_X12_move 135) (fun _ _ => rfl) ?_
        refine t_go (op := o_ci 138 12) (fe_X12_move 136) (fun _ _ => rfl) ?_
        refine t_go (op := o_i2d 139 (fun x y => x / y)) (fe_X12_move 138) (g_i2d (by decide)) ?_
        refine t_go (op := o_goto 146) (fe_X12_move 139) (fun _ _ => rfl) ?_
        refine t_ret (op := o_iret) (fe_X12_move 146) (fun _ _ => rfl) ?_
        exact ⟨congrArg (fun z => some (Value.int z)) (show moveE _ _ = _ from (Eq.trans (if_pos c2) (if_pos c3))).symm, hz⟩
      · refine t_go (op := o_iload 143 3) (fe_X12_move 142) (fun _ _ => rfl) ?_
        refine t_go (op := o_ci 145 12) (fe_X12_move 143) (fun _ _ => rfl) ?_
        refine t_go (op := o_i2d 146 (fun x y => x - x / y * y)) (fe_X12_move 145) (g_i2d (by decide)) ?_
        refine t_ret (op := o_iret) (fe_X12_move 146) (fun _ _ => rfl) ?_
        exact ⟨congrArg (fun z => some (Value.int z)) (show moveE _ _ = _ from (Eq.trans (if_pos c2) (if_neg c3))).symm, hz⟩
    · refine t_go (op := o_ci 128 (-1)) (fe_X12_move 127) (fun _ _ => rfl) ?_
      refine t_go (op := o_goto 146) (fe_X12_move 128) (fun _ _ => rfl) ?_
      refine t_ret (op := o_iret) (fe_X12_move 146) (fun _ _ => rfl) ?_
      exact ⟨congrArg (fun z => some (Value.int z)) (show moveE _ _ = _ from (if_neg c2)).symm, hz⟩
theorem r_moveF {d : Nat} {k h : AHP} {m n g T : Nat} {F : FS} (hP : CP k h g n m) (hW : FW m T F) (hB0 : RB (k.1 197) 0 F) (hT : T < 90000) {y : Int32} (hn : ¬ (¬ y < 0 ∧ ¬ 1 < y)) : MM (d + 6) 241 [.ref 183, .int y] k (fun v h2 => v = some (.int (-1)) ∧ Zf trl k h2) := by
  refine ⟨Nat.le_of_ble_eq_true rfl, ?_⟩
  have hm := hP.1.2.2.1
  have hS := hP.1.1
  have hE := hP.1.2.1
  refine t_go (op := o_aload 1 0) (fe_X12_move 0) (fun _ _ => rfl) ?_
  refine t_go (op := o_ci 2 0) (fe_X12_move 1) (fun _ _ => rfl) ?_
  refine t_go (op := o_putI 5 11 0) (fe_X12_move 2) (g_putI hS (show (lay 183).1 = 11 by decide) (by decide)) ?_
  have hz : Zf trl k (sI k 183 0 0) := Zf_thr Zf.rf
  have hS := (hP.zf hz).1.1
  have hE := (hP.zf hz).1.2.1
  refine t_go (op := o_iload 6 1) (fe_X12_move 5) (fun _ _ => rfl) ?_
  refine t_go (op := o_ci 7 0) (fe_X12_move 6) (fun _ _ => rfl) ?_
  refine t_go (op := o_ci 8 1) (fe_X12_move 7) (fun _ _ => rfl) ?_
  refine t_call (op := o_callS 11 173 3) (fe_X12_move 8) (g_callS rfl rfl rfl (Nat.le_of_ble_eq_true rfl)) ?_
  refine M_eq r_within ?_
  refine t_ite (op := o_if 16 14 (fun x => x = 0) (fun _ => inferInstance)) (fe_X12_move 11) g_if (fun c1 => ?_) (fun c1 => ?_)
  · replace c1 := b2i_z c1
    refine t_go (op := o_ci 15 (-1)) (fe_X12_move 14) (fun _ _ => rfl) ?_
    refine t_ret (op := o_iret) (fe_X12_move 15) (fun _ _ => rfl) ?_
    exact ⟨rfl, hz⟩
  · exact absurd (b2i_nn c1) hn
theorem lastsV_past {h : AHP} {g n q : Nat} : ∀ (j i : Nat) (F : FS), q < i → i + j ≤ 41 → lastsV h g n (nI q) j i F = lastsV h g n (-1) j i F := by
  intro j
  induction j with
  | zero => intro i F _ _; rfl
  | succ j ih =>
    intro i F h1 h2
    rw [lastsV, lastsV, if_neg (show ¬ nI i = nI q from fun e => by have := nI_inj (by omega) (by omega) e; omega), if_neg (nI_m1 (show i < 2 ^ 31 by omega)), ih (i + 1) _ (by omega) (by omega)]
theorem lastsV_bank {h : AHP} {g n q j : Nat} {F : FS} (hj : q + j = 41) : lastsV h g n (nI q) j q F = lastsV h g n (-1) j q (bankF F) := by
  cases j with
  | zero => rfl
  | succ j =>
    rw [lastsV, lastsV, if_pos rfl, if_neg (nI_m1 (show q < 2 ^ 31 by omega)), lastsV_past j (q + 1) _ (by omega) (by omega)]
    rfl
theorem lr_lastsB {d : Nat} {k h : AHP} {m n g T : Nat} (hP : CP k h g n m) (hT : T < 90000) {q : Nat} (hq6 : q ≤ 12) {Q : Option Value → AHP → Prop} : ∀ (j i : Nat) (S : AHP) (G : FS), i + j = q → Zf trl k S → RB (S.1 197) 882 G → FW m (T + i) G → (∀ S2, Zf trl k S2 → Q (some (.int (lastsV h g n (nI q) (41 - q + j) i G))) S2) → TT (d + 6) 242 6 [some (.ref 183), some (.int (nI q)), some (.int (nI i))] [] S Q := by
  intro j
  induction j with
  | zero =>
    intro i S G hi hz hBt hWt hq
    have hN : i = q := by omega
    have hm := hP.1.2.2.1
    have hS := (hP.zf hz).1.1
    have hE := (hP.zf hz).1.2.1
    refine t_go (op := o_iload 7 2) (fe_X12_lastsBanked 6) (fun _ _ => rfl) ?_
    refine t_go (op := o_iload 8 1) (fe_X12_lastsBanked 7) (fun _ _ => rfl) ?_
    refine t_ite (op := o_icmp 11 37 (fun x y => y ≤ x) (fun _ _ => inferInstance)) (fe_X12_lastsBanked 8) g_icmp (fun c1 => ?_) (fun c1 => ?_)
    · refine t_go (op := o_aload 38 0) (fe_X12_lastsBanked 37) (fun _ _ => rfl) ?_
      refine t_go (op := o_getR 41 11 22) (fe_X12_lastsBanked 38) (g_getR hS (show (lay 183).1 = 11 by decide) (by decide) (fr_11_22 hS) (by decide)) ?_
      refine t_go (op := o_ci 44 883) (fe_X12_lastsBanked 41) (fun _ _ => rfl) ?_
      refine t_go (op := o_ci 45 1) (fe_X12_lastsBanked 44) (fun _ _ => rfl) ?_
      refine t_go (op := o_aload 46 0) (fe_X12_lastsBanked 45) (fun _ _ => rfl) ?_
      refine t_go (op := o_getR 49 11 22) (fe_X12_lastsBanked 46) (g_getR hS (show (lay 183).1 = 11 by decide) (by decide) (fr_11_22 hS) (by decide)) ?_
      refine t_go (op := o_ci 52 883) (fe_X12_lastsBanked 49) (fun _ _ => rfl) ?_
      refine t_go (op := o_iald 53) (fe_X12_lastsBanked 52) (g_ialdN hS (show lay 197 = (20, 966) by decide) (nIl 883) (by omega) (by decide)) ?_
      rw [show S.1 197 883 = G.2.2.2.2.2 from hBt.2.2]
      refine t_go (op := o_i2 54 (fun x y => x - y)) (fe_X12_lastsBanked 53) (fun _ _ => rfl) ?_
      refine t_go (op := o_iast 55) (fe_X12_lastsBanked 54) (g_iastN hS (show lay 197 = (20, 966) by decide) (nIl 883) (by omega) (by decide)) ?_
      have hz3 : Zf trl k (sI S 197 883 (1 - G.2.2.2.2.2)) := Zf_st hz (by decide)
      have hBt2 : RB ((sI S 197 883 (1 - G.2.2.2.2.2)).1 197) 882 (bankF G) := by
        have := RB_bank (x := 1 - G.2.2.2.2.2) hBt
        rw [bank_1 hWt.1] at this
        rw [bank_1 hWt.1]
        exact this
      refine t_go (op := o_aload 56 0) (fe_X12_lastsBanked 55) (fun _ _ => rfl) ?_
      refine t_go (op := o_iload 57 1) (fe_X12_lastsBanked 56) (fun _ _ => rfl) ?_
      refine t_call (op := o_callV 60 233 2 11) (fe_X12_lastsBanked 57) (g_callV hS (show (lay 183).1 = 11 by decide) (by decide) rfl rfl rfl (Nat.le_of_ble_eq_true rfl)) ?_
      refine M_mono ?_ (r_lastsFor (i := q) (j := 41 - q) (T := T + i) (hP.zf hz3) (by omega) (by omega) hBt2 (FW_bank hWt))
      rintro _ h2 ⟨rfl, hz2⟩
      replace hz := hz3.tr hz2
      refine t_ret (op := o_iret) (fe_X12_lastsBanked 60) (fun _ _ => rfl) ?_
      rw [Nat.add_zero, hN, lastsV_bank (by omega)] at hq
      exact hq _ hz
    · exact absurd (by rw [hN]; exact Int32.le_refl _) c1
  | succ j ih =>
    intro i S G hi hz hBt hWt hq
    have hi7 : i < q := by omega
    have hm := hP.1.2.2.1
    have hS := (hP.zf hz).1.1
    have hE := (hP.zf hz).1.2.1
    refine t_go (op := o_iload 7 2) (fe_X12_lastsBanked 6) (fun _ _ => rfl) ?_
    refine t_go (op := o_iload 8 1) (fe_X12_lastsBanked 7) (fun _ _ => rfl) ?_
    refine t_ite (op := o_icmp 11 37 (fun x y => y ≤ x) (fun _ _ => inferInstance)) (fe_X12_lastsBanked 8) g_icmp (fun c1 => ?_) (fun c1 => ?_)
    · exact absurd c1 (nI_ge hi7 (by omega))
    · refine t_go (op := o_aload 12 0) (fe_X12_lastsBanked 11) (fun _ _ => rfl) ?_
      refine t_go (op := o_ci 15 882) (fe_X12_lastsBanked 12) (fun _ _ => rfl) ?_
      refine t_call (op := o_callV 18 205 2 11) (fe_X12_lastsBanked 15) (g_callV hS (show (lay 183).1 = 11 by decide) (by decide) rfl rfl rfl (Nat.le_of_ble_eq_true rfl)) ?_
      refine M_eq (r_alightNow (b := 882) hS hWt.1 hBt (by decide) hm hE (hP.zf hz).1.2.2.2.1 (hP.zf hz).1.2.2.2.2.1) ?_
      refine t_ite (op := o_if 23 21 (fun x => x = 0) (fun _ => inferInstance)) (fe_X12_lastsBanked 18) g_if (fun c2 => ?_) (fun c2 => ?_)
      · refine t_go (op := o_iload 22 2) (fe_X12_lastsBanked 21) (fun _ _ => rfl) ?_
        refine t_ret (op := o_iret) (fe_X12_lastsBanked 22) (fun _ _ => rfl) ?_
        rw [show 41 - q + (j + 1) = 41 - q + j + 1 by omega, lastsV, if_pos (show litH h g n G = 0 from c2)] at hq
        exact hq S hz
      · refine t_go (op := o_aload 24 0) (fe_X12_lastsBanked 23) (fun _ _ => rfl) ?_
        refine t_go (op := o_ci 27 882) (fe_X12_lastsBanked 24) (fun _ _ => rfl) ?_
        refine t_call (op := o_callV 30 215 2 11) (fe_X12_lastsBanked 27) (g_callV hS (show (lay 183).1 = 11 by decide) (by decide) rfl rfl rfl (Nat.le_of_ble_eq_true rfl)) ?_
        refine M_mono ?_ (r_hour (b := 882) (hP.zf hz) hWt hBt (by decide) (by omega))
        rintro _ h2 ⟨rfl, hz2, hB2⟩
        replace hz := hz.tr (hz2.mono trl_b)
        clear hz2
        have hS := (hP.zf hz).1.1
        have hE := (hP.zf hz).1.2.1
        refine t_go (op := o_popI 31) (fe_X12_lastsBanked 30) (fun _ _ => rfl) ?_
        refine t_go (op := o_iinc 34 2 1) (fe_X12_lastsBanked 31) (fun _ _ => rfl) ?_
        refine t_go (op := o_goto 6) (fe_X12_lastsBanked 34) (fun _ _ => rfl) ?_
        rw [show 41 - q + (j + 1) = 41 - q + j + 1 by omega, lastsV, if_neg (show ¬ litH h g n G = 0 from c2), if_neg (show ¬ nI i = nI q from fun e => by have := nI_inj (by omega) (by omega) e; omega)] at hq
        rw [nI_1]
        exact ih (i + 1) _ (HF h g n G) (by omega) hz hB2 (FW_HF hm hWt) hq
theorem r_lastsBanked {d : Nat} {k h : AHP} {m n g T : Nat} {F : FS} (hP : CP k h g n m) (hW : FW m T F) (hB0 : RB (k.1 197) 0 F) (hT : T < 90000) {q : Nat} (hq6 : q ≤ 12) : MM (d + 6) 242 [.ref 183, .int (nI q)] k (fun v h2 => v = some (.int (lastsV h g n (nI q) 41 0 F)) ∧ Zf trl k h2) := by
  refine ⟨Nat.le_of_ble_eq_true rfl, ?_⟩
  have hm := hP.1.2.2.1
  have hS := hP.1.1
  have hE := hP.1.2.1
  have hz : Zf trl k k := Zf.rf
  refine t_go (op := o_aload 1 0) (fe_X12_lastsBanked 0) (fun _ _ => rfl) ?_
  refine t_call (op := o_callV 4 229 1 11) (fe_X12_lastsBanked 1) (g_callV hS (show (lay 183).1 = 11 by decide) (by decide) rfl rfl rfl (Nat.le_of_ble_eq_true rfl)) ?_
  refine M_mono ?_ (r_triesNow (hP.zf hz).1.1 (hB0.zf hz trl0))
  rintro _ h2 ⟨rfl, hz2, hBt⟩
  replace hz := hz.tr hz2
  clear hz2
  have hS := (hP.zf hz).1.1
  have hE := (hP.zf hz).1.2.1
  refine t_go (op := o_ci 5 0) (fe_X12_lastsBanked 4) (fun _ _ => rfl) ?_
  refine t_go (op := o_istore 6 2) (fe_X12_lastsBanked 5) (fun _ _ => rfl) ?_
  refine lr_lastsB hP hT hq6 q 0 _ F (by omega) hz hBt (FW_le hW (by omega)) fun S2 hz => ⟨?_, hz⟩
  rw [show 41 - q + q = 41 by omega]
theorem lr_banks {d : Nat} {k h : AHP} {m n g T : Nat} {F : FS} (hP : CP k h g n m) (hW : FW m T F) (hB0 : RB (k.1 197) 0 F) (hT : T < 90000) {Q : Option Value → AHP → Prop} : ∀ (j i : Nat) (S : AHP) (a c : Int32) (x4 : Option Value), i + j = 13 → Zf trl k S → (∀ S2 x4, Zf trl k S2 → TT (d + 7) 243 55 [some (.ref 183), some (.int (it (bestS (fun i => lastsV h g n (nI i) 41 0 F)) j i (a, c)).1), some (.int (it (bestS (fun i => lastsV h g n (nI i) 41 0 F)) j i (a, c)).2), some (.int 13), x4] [] S2 Q) → TT (d + 7) 243 11 [some (.ref 183), some (.int a), some (.int c), some (.int (nI i)), x4] [] S Q := by
  intro j
  induction j with
  | zero =>
    intro i S a c x4 hi hz hq
    have hN : i = 13 := by omega
    have hm := hP.1.2.2.1
    have hS := (hP.zf hz).1.1
    have hE := (hP.zf hz).1.2.1
    refine t_go (op := o_iload 12 3) (fe_X12_banks 11) (fun _ _ => rfl) ?_
    refine t_go (op := o_ci 14 12) (fe_X12_banks 12) (fun _ _ => rfl) ?_
    refine t_ite (op := o_icmp 17 55 (fun x y => y < x) (fun _ _ => inferInstance)) (fe_X12_banks 14) g_icmp (fun c1 => ?_) (fun c1 => ?_)
    · have eN : nI i = 13 := by rw [hN]; rfl
      rw [eN]
      exact hq S _ hz
    · exact absurd (show (12 : Int32) < nI i by rw [hN]; decide) c1
  | succ j ih =>
    intro i S a c x4 hi hz hq
    have hi7 : i < 13 := by omega
    have hm := hP.1.2.2.1
    have hS := (hP.zf hz).1.1
    have hE := (hP.zf hz).1.2.1
    refine t_go (op := o_iload 12 3) (fe_X12_banks 11) (fun _ _ => rfl) ?_
    refine t_go (op := o_ci 14 12) (fe_X12_banks 12) (fun _ _ => rfl) ?_
    refine t_ite (op := o_icmp 17 55 (fun x y => y < x) (fun _ _ => inferInstance)) (fe_X12_banks 14) g_icmp (fun c1 => ?_) (fun c1 => ?_)
    · exact absurd c1 (nI_nlt (a := 12) (b := i) (by omega) (by omega))
    · refine t_go (op := o_aload 18 0) (fe_X12_banks 17) (fun _ _ => rfl) ?_
      refine t_go (op := o_iload 19 3) (fe_X12_banks 18) (fun _ _ => rfl) ?_
      refine t_call (op := o_callV 22 242 2 11) (fe_X12_banks 19) (g_callV hS (show (lay 183).1 = 11 by decide) (by decide) rfl rfl rfl (Nat.le_of_ble_eq_true rfl)) ?_
      refine M_mono ?_ (r_lastsBanked (hP.zf hz) hW (hB0.zf hz trl0) hT (q := i) (by omega))
      rintro _ h2 ⟨rfl, hz2⟩
      replace hz := hz.tr hz2
      clear hz2
      have hS := (hP.zf hz).1.1
      have hE := (hP.zf hz).1.2.1
      refine t_go (op := o_istore 24 4) (fe_X12_banks 22) (fun _ _ => rfl) ?_
      refine t_go (op := o_iload 26 4) (fe_X12_banks 24) (fun _ _ => rfl) ?_
      refine t_go (op := o_iload 27 2) (fe_X12_banks 26) (fun _ _ => rfl) ?_
      refine t_ite (op := o_icmp 30 34 (fun x y => x ≤ y) (fun _ _ => inferInstance)) (fe_X12_banks 27) g_icmp (fun c2 => ?_) (fun c2 => ?_)
      · refine t_go (op := o_iload 35 1) (fe_X12_banks 34) (fun _ _ => rfl) ?_
        refine t_go (op := o_istore 36 1) (fe_X12_banks 35) (fun _ _ => rfl) ?_
        refine t_go (op := o_iload 38 4) (fe_X12_banks 36) (fun _ _ => rfl) ?_
        refine t_go (op := o_iload 39 2) (fe_X12_banks 38) (fun _ _ => rfl) ?_
        refine t_ite (op := o_icmp 42 47 (fun x y => x ≤ y) (fun _ _ => inferInstance)) (fe_X12_banks 39) g_icmp (fun c3 => ?_) (fun c3 => ?_)
        · refine t_go (op := o_iload 48 2) (fe_X12_banks 47) (fun _ _ => rfl) ?_
          refine t_go (op := o_istore 49 2) (fe_X12_banks 48) (fun _ _ => rfl) ?_
          refine t_go (op := o_iinc 52 3 1) (fe_X12_banks 49) (fun _ _ => rfl) ?_
          refine t_go (op := o_goto 11) (fe_X12_banks 52) (fun _ _ => rfl) ?_
          rw [it_step, bestS_t (v := fun i => lastsV h g n (nI i) 41 0 F) (e := i) (a := a) (b := c) c3] at hq
          rw [nI_1]
          exact ih (i + 1) _ _ _ _ (by omega) hz hq
        · exact absurd c2 c3
      · refine t_go (op := o_iload 31 3) (fe_X12_banks 30) (fun _ _ => rfl) ?_
        refine t_go (op := o_goto 35) (fe_X12_banks 31) (fun _ _ => rfl) ?_
        refine t_go (op := o_istore 36 1) (fe_X12_banks 35) (fun _ _ => rfl) ?_
        refine t_go (op := o_iload 38 4) (fe_X12_banks 36) (fun _ _ => rfl) ?_
        refine t_go (op := o_iload 39 2) (fe_X12_banks 38) (fun _ _ => rfl) ?_
        refine t_ite (op := o_icmp 42 47 (fun x y => x ≤ y) (fun _ _ => inferInstance)) (fe_X12_banks 39) g_icmp (fun c4 => ?_) (fun c4 => ?_)
        · exact absurd c4 c2
        · refine t_go (op := o_iload 44 4) (fe_X12_banks 42) (fun _ _ => rfl) ?_
          refine t_go (op := o_goto 48) (fe_X12_banks 44) (fun _ _ => rfl) ?_
          refine t_go (op := o_istore 49 2) (fe_X12_banks 48) (fun _ _ => rfl) ?_
          refine t_go (op := o_iinc 52 3 1) (fe_X12_banks 49) (fun _ _ => rfl) ?_
          refine t_go (op := o_goto 11) (fe_X12_banks 52) (fun _ _ => rfl) ?_
          rw [it_step, bestS_f (v := fun i => lastsV h g n (nI i) 41 0 F) (e := i) (a := a) (b := c) c4] at hq
          rw [nI_1]
          exact ih (i + 1) _ _ _ _ (by omega) hz hq
theorem r_banks {d : Nat} {k h : AHP} {m n g T : Nat} {F : FS} (hP : CP k h g n m) (hW : FW m T F) (hB0 : RB (k.1 197) 0 F) (hT : T < 90000)  : MM (d + 7) 243 [.ref 183] k (fun v h2 => v = some (.int (if lastsV h g n (-1) 41 0 F ≤ (it (bestS (fun i => lastsV h g n (nI i) 41 0 F)) 13 0 (-1, -1)).2 then (it (bestS (fun i => lastsV h g n (nI i) 41 0 F)) 13 0 (-1, -1)).1 else -1)) ∧ Zf trl k h2) := by
  refine ⟨Nat.le_of_ble_eq_true rfl, ?_⟩
  have hm := hP.1.2.2.1
  have hS := hP.1.1
  have hE := hP.1.2.1
  have hWt := hW
  refine t_go (op := o_aload 1 0) (fe_X12_banks 0) (fun _ _ => rfl) ?_
  refine t_go (op := o_ci 2 0) (fe_X12_banks 1) (fun _ _ => rfl) ?_
  refine t_go (op := o_putI 5 11 0) (fe_X12_banks 2) (g_putI hS (show (lay 183).1 = 11 by decide) (by decide)) ?_
  have hz : Zf trl k (sI k 183 0 0) := Zf_thr Zf.rf
  have hS := (hP.zf hz).1.1
  have hE := (hP.zf hz).1.2.1
  refine t_go (op := o_ci 6 (-1)) (fe_X12_banks 5) (fun _ _ => rfl) ?_
  refine t_go (op := o_istore 7 1) (fe_X12_banks 6) (fun _ _ => rfl) ?_
  refine t_go (op := o_ci 8 (-1)) (fe_X12_banks 7) (fun _ _ => rfl) ?_
  refine t_go (op := o_istore 9 2) (fe_X12_banks 8) (fun _ _ => rfl) ?_
  refine t_go (op := o_ci 10 0) (fe_X12_banks 9) (fun _ _ => rfl) ?_
  refine t_go (op := o_istore 11 3) (fe_X12_banks 10) (fun _ _ => rfl) ?_
  refine lr_banks hP hW hB0 hT 13 0 _ (-1) (-1) _ (by omega) hz fun S2 x4 hz => ?_
  have hS := (hP.zf hz).1.1
  have hE := (hP.zf hz).1.2.1
  refine t_go (op := o_aload 56 0) (fe_X12_banks 55) (fun _ _ => rfl) ?_
  refine t_call (op := o_callV 59 229 1 11) (fe_X12_banks 56) (g_callV hS (show (lay 183).1 = 11 by decide) (by decide) rfl rfl rfl (Nat.le_of_ble_eq_true rfl)) ?_
  refine M_mono ?_ (r_triesNow (hP.zf hz).1.1 (hB0.zf hz trl0))
  rintro _ h2 ⟨rfl, hz2, hBt⟩
  replace hz := hz.tr hz2
  clear hz2
  have hS := (hP.zf hz).1.1
  have hE := (hP.zf hz).1.2.1
  refine t_go (op := o_aload 60 0) (fe_X12_banks 59) (fun _ _ => rfl) ?_
  refine t_go (op := o_ci 61 0) (fe_X12_banks 60) (fun _ _ => rfl) ?_
  refine t_call (op := o_callV 64 233 2 11) (fe_X12_banks 61) (g_callV hS (show (lay 183).1 = 11 by decide) (by decide) rfl rfl rfl (Nat.le_of_ble_eq_true rfl)) ?_
  refine M_mono ?_ (r_lastsFor (i := 0) (j := 41) (hP.zf hz) (by decide) (show T < 98000 by omega) hBt hWt)
  rintro _ h2 ⟨rfl, hz2⟩
  replace hz := hz.tr hz2
  clear hz2
  have hS := (hP.zf hz).1.1
  have hE := (hP.zf hz).1.2.1
  refine t_go (op := o_iload 65 2) (fe_X12_banks 64) (fun _ _ => rfl) ?_
  refine t_ite (op := o_icmp 68 72 (fun x y => x ≤ y) (fun _ _ => inferInstance)) (fe_X12_banks 65) g_icmp (fun c1 => ?_) (fun c1 => ?_)
  · refine t_go (op := o_iload 73 1) (fe_X12_banks 72) (fun _ _ => rfl) ?_
    refine t_ret (op := o_iret) (fe_X12_banks 73) (fun _ _ => rfl) ?_
    exact ⟨by rw [if_pos c1], hz⟩
  · refine t_go (op := o_ci 69 (-1)) (fe_X12_banks 68) (fun _ _ => rfl) ?_
    refine t_go (op := o_goto 73) (fe_X12_banks 69) (fun _ _ => rfl) ?_
    refine t_ret (op := o_iret) (fe_X12_banks 73) (fun _ _ => rfl) ?_
    exact ⟨by rw [if_neg c1], hz⟩
noncomputable def stirV (h : AHP) (g n : Nat) (F : FS) (q : Nat) (e : Nat) : Int32 := heatV (HN h g n q (stokeF F (nI e)))
noncomputable def stirS (h : AHP) (g n : Nat) (F : FS) (q : Nat) (e : Nat) (s : Int32 × Int32) : Int32 × Int32 := @ite _ (hasF F (nI e)) (Classical.propDecidable _) (bestS (stirV h g n F q) e s) s
theorem stir_m {h : AHP} {g n m q : Nat} {F : FS} {s : Int32 × Int32} (hV : FV m F) (hm : m ≤ 7) : it (stirS h g n F q) 7 0 s = it (stirS h g n F q) m 0 s := it_more hm fun t s h1 h2 => if_neg fun q => FV_no hV h2 h1 q
theorem lr_stirH {d : Nat} {k h : AHP} {m n g T : Nat} {F : FS} (hP : CP k h g n m) (hW : FW m T F) (hT : T < 90000) {q : Nat} (hq6 : q ≤ 50) {a c : Int32} {e : Nat} {Q : Option Value → AHP → Prop} : ∀ (j i : Nat) (S : AHP), i + j = q → Zf trl k S → RB (S.1 197) 882 (HN h g n i F) → (∀ S2, Zf trl k S2 → RB (S2.1 197) 882 (HN h g n q F) → TT (d + 5) 244 79 [some (.ref 183), some (.int (nI q)), some (.int a), some (.int c), some (.int (nI e)), some (.int (nI q))] [] S2 Q) → TT (d + 5) 244 59 [some (.ref 183), some (.int (nI q)), some (.int a), some (.int c), some (.int (nI e)), some (.int (nI i))] [] S Q := by
  intro j
  induction j with
  | zero =>
    intro i S hi hz hBt hq
    have hN : i = q := by omega
    have hm := hP.1.2.2.1
    have hS := (hP.zf hz).1.1
    have hE := (hP.zf hz).1.2.1
    have hWt := FW_HN (h := h) (g := g) (n := n) hm hW i
    refine t_go (op := o_iload 61 5) (fe_X12_stir 59) (fun _ _ => rfl) ?_
    refine t_go (op := o_iload 62 1) (fe_X12_stir 61) (fun _ _ => rfl) ?_
    refine t_ite (op := o_icmp 65 79 (fun x y => y ≤ x) (fun _ _ => inferInstance)) (fe_X12_stir 62) g_icmp (fun c1 => ?_) (fun c1 => ?_)
    · have eN : nI i = nI q := by rw [hN]
      rw [eN]
      exact hq S hz (by rw [← hN]; exact hBt)
    · exact absurd (by rw [hN]; exact Int32.le_refl _) c1
  | succ j ih =>
    intro i S hi hz hBt hq
    have hi7 : i < q := by omega
    have hm := hP.1.2.2.1
    have hS := (hP.zf hz).1.1
    have hE := (hP.zf hz).1.2.1
    have hWt := FW_HN (h := h) (g := g) (n := n) hm hW i
    refine t_go (op := o_iload 61 5) (fe_X12_stir 59) (fun _ _ => rfl) ?_
    refine t_go (op := o_iload 62 1) (fe_X12_stir 61) (fun _ _ => rfl) ?_
    refine t_ite (op := o_icmp 65 79 (fun x y => y ≤ x) (fun _ _ => inferInstance)) (fe_X12_stir 62) g_icmp (fun c1 => ?_) (fun c1 => ?_)
    · exact absurd c1 (nI_ge hi7 (by omega))
    · refine t_go (op := o_aload 66 0) (fe_X12_stir 65) (fun _ _ => rfl) ?_
      refine t_go (op := o_ci 69 882) (fe_X12_stir 66) (fun _ _ => rfl) ?_
      refine t_call (op := o_callV 72 215 2 11) (fe_X12_stir 69) (g_callV hS (show (lay 183).1 = 11 by decide) (by decide) rfl rfl rfl (Nat.le_of_ble_eq_true rfl)) ?_
      refine M_mono ?_ (r_hour (b := 882) (hP.zf hz) hWt hBt (by decide) (by omega))
      rintro _ h2 ⟨rfl, hz2, hB2⟩
      replace hz := hz.tr (hz2.mono trl_b)
      clear hz2
      have hS := (hP.zf hz).1.1
      have hE := (hP.zf hz).1.2.1
      refine t_go (op := o_popI 73) (fe_X12_stir 72) (fun _ _ => rfl) ?_
      refine t_go (op := o_iinc 76 5 1) (fe_X12_stir 73) (fun _ _ => rfl) ?_
      refine t_go (op := o_goto 59) (fe_X12_stir 76) (fun _ _ => rfl) ?_
      rw [nI_1]
      rw [← HN_succ] at hB2
      exact ih (i + 1) _ (by omega) hz hB2 hq
theorem lr_stir {d : Nat} {k h : AHP} {m n g T : Nat} {F : FS} (hP : CP k h g n m) (hW : FW m T F) (hB0 : RB (k.1 197) 0 F) (hT : T < 90000) {q : Nat} (hq6 : q ≤ 12) {Q : Option Value → AHP → Prop} : ∀ (j i : Nat) (S : AHP) (a c : Int32) (x5 : Option Value), i + j = m → Zf trl k S → (∀ S2, Zf trl k S2 → Q (some (.int (it (stirS h g n F q) j i (a, c)).1)) S2) → TT (d + 5) 244 24 [some (.ref 183), some (.int (nI q)), some (.int a), some (.int c), some (.int (nI i)), x5] [] S Q := by
  intro j
  induction j with
  | zero =>
    intro i S a c x5 hi hz hq
    have hN : i = m := by omega
    have hm := hP.1.2.2.1
    have hS := (hP.zf hz).1.1
    have hE := (hP.zf hz).1.2.1
    refine t_go (op := o_iload 26 4) (fe_X12_stir 24) (fun _ _ => rfl) ?_
    refine t_go (op := o_aload 27 0) (fe_X12_stir 26) (fun _ _ => rfl) ?_
    refine t_call (op := o_callV 30 200 1 11) (fe_X12_stir 27) (g_callV hS (show (lay 183).1 = 11 by decide) (by decide) rfl rfl rfl (Nat.le_of_ble_eq_true rfl)) ?_
    refine M_eq (r_embers hS hE) ?_
    refine t_ite (op := o_icmp 33 120 (fun x y => y ≤ x) (fun _ _ => inferInstance)) (fe_X12_stir 30) g_icmp (fun c1 => ?_) (fun c1 => ?_)
    · refine t_go (op := o_iload 121 2) (fe_X12_stir 120) (fun _ _ => rfl) ?_
      refine t_ret (op := o_iret) (fe_X12_stir 121) (fun _ _ => rfl) ?_
      exact hq S hz
    · exact absurd (by rw [hN]; exact Int32.le_refl _) c1
  | succ j ih =>
    intro i S a c x5 hi hz hq
    have hi7 : i < m := by omega
    have hm := hP.1.2.2.1
    have hS := (hP.zf hz).1.1
    have hE := (hP.zf hz).1.2.1
    refine t_go (op := o_iload 26 4) (fe_X12_stir 24) (fun _ _ => rfl) ?_
    refine t_go (op := o_aload 27 0) (fe_X12_stir 26) (fun _ _ => rfl) ?_
    refine t_call (op := o_callV 30 200 1 11) (fe_X12_stir 27) (g_callV hS (show (lay 183).1 = 11 by decide) (by decide) rfl rfl rfl (Nat.le_of_ble_eq_true rfl)) ?_
    refine M_eq (r_embers hS hE) ?_
    refine t_ite (op := o_icmp 33 120 (fun x y => y ≤ x) (fun _ _ => inferInstance)) (fe_X12_stir 30) g_icmp (fun c1 => ?_) (fun c1 => ?_)
    · exact absurd c1 (nI_ge hi7 (by omega))
    · refine t_go (op := o_aload 34 0) (fe_X12_stir 33) (fun _ _ => rfl) ?_
      refine t_go (op := o_ci 35 0) (fe_X12_stir 34) (fun _ _ => rfl) ?_
      refine t_go (op := o_iload 37 4) (fe_X12_stir 35) (fun _ _ => rfl) ?_
      refine t_call (op := o_callV 40 203 3 11) (fe_X12_stir 37) (g_callV hS (show (lay 183).1 = 11 by decide) (by decide) rfl rfl rfl (Nat.le_of_ble_eq_true rfl)) ?_
      refine M_eq (r_isThere (b := 0) hS hW.1 (hB0.zf hz trl0) (by decide) (e := i) (by omega)) ?_
      refine t_ite (op := o_if 43 114 (fun x => x = 0) (fun _ => inferInstance)) (fe_X12_stir 40) g_if (fun c2 => ?_) (fun c2 => ?_)
      · replace c2 := b2i_z c2
        refine t_go (op := o_iinc 117 4 1) (fe_X12_stir 114) (fun _ _ => rfl) ?_
        refine t_go (op := o_goto 24) (fe_X12_stir 117) (fun _ _ => rfl) ?_
        rw [it_step, stirS, if_neg c2] at hq
        rw [nI_1]
        exact ih (i + 1) _ _ _ _ (by omega) hz hq
      · replace c2 := b2i_nn c2
        refine t_go (op := o_aload 44 0) (fe_X12_stir 43) (fun _ _ => rfl) ?_
        refine t_call (op := o_callV 47 229 1 11) (fe_X12_stir 44) (g_callV hS (show (lay 183).1 = 11 by decide) (by decide) rfl rfl rfl (Nat.le_of_ble_eq_true rfl)) ?_
        refine M_mono ?_ (r_triesNow (hP.zf hz).1.1 (hB0.zf hz trl0))
        rintro _ h2 ⟨rfl, hz2, hBt⟩
        replace hz := hz.tr hz2
        clear hz2
        have hS := (hP.zf hz).1.1
        have hE := (hP.zf hz).1.2.1
        refine t_go (op := o_aload 48 0) (fe_X12_stir 47) (fun _ _ => rfl) ?_
        refine t_go (op := o_ci 51 882) (fe_X12_stir 48) (fun _ _ => rfl) ?_
        refine t_go (op := o_iload 53 4) (fe_X12_stir 51) (fun _ _ => rfl) ?_
        refine t_call (op := o_callV 56 217 3 11) (fe_X12_stir 53) (g_callV hS (show (lay 183).1 = 11 by decide) (by decide) rfl rfl rfl (Nat.le_of_ble_eq_true rfl)) ?_
        refine M_mono ?_ (r_pokes (b := 882) (hP.zf hz).1 hW.1 hBt (by decide) (e := i) (by omega) c2)
        rintro _ h2 ⟨rfl, hz2, hBt⟩
        replace hz := hz.tr (hz2.mono trl_b)
        clear hz2
        have hWt := FW_stoke (e := i) hW (by omega)
        have hS := (hP.zf hz).1.1
        have hE := (hP.zf hz).1.2.1
        refine t_go (op := o_ci 57 0) (fe_X12_stir 56) (fun _ _ => rfl) ?_
        refine t_go (op := o_istore 59 5) (fe_X12_stir 57) (fun _ _ => rfl) ?_
        refine lr_stirH (F := stokeF F (nI i)) (hP.zf hz) hWt hT (q := q) (by omega) q 0 _ (by omega) Zf.rf hBt fun S2 hz2 hBt => ?_
        replace hz := hz.tr hz2
        clear hz2
        replace hWt := FW_HN (h := h) (g := g) (n := n) hm hWt q
        have hS := (hP.zf hz).1.1
        have hE := (hP.zf hz).1.2.1
        refine t_go (op := o_aload 80 0) (fe_X12_stir 79) (fun _ _ => rfl) ?_
        refine t_go (op := o_ci 83 882) (fe_X12_stir 80) (fun _ _ => rfl) ?_
        refine t_call (op := o_callV 86 216 2 11) (fe_X12_stir 83) (g_callV hS (show (lay 183).1 = 11 by decide) (by decide) rfl rfl rfl (Nat.le_of_ble_eq_true rfl)) ?_
        refine M_eq (r_heatOfAll (b := 882) (hP.zf hz).1 hWt.1 hBt (by decide)) ?_
        refine t_go (op := o_istore 88 5) (fe_X12_stir 86) (fun _ _ => rfl) ?_
        refine t_go (op := o_iload 90 5) (fe_X12_stir 88) (fun _ _ => rfl) ?_
        refine t_go (op := o_iload 91 3) (fe_X12_stir 90) (fun _ _ => rfl) ?_
        refine t_ite (op := o_icmp 94 99 (fun x y => x ≤ y) (fun _ _ => inferInstance)) (fe_X12_stir 91) g_icmp (fun c3 => ?_) (fun c3 => ?_)
        · refine t_go (op := o_iload 100 2) (fe_X12_stir 99) (fun _ _ => rfl) ?_
          refine t_go (op := o_istore 101 2) (fe_X12_stir 100) (fun _ _ => rfl) ?_
          refine t_go (op := o_iload 103 5) (fe_X12_stir 101) (fun _ _ => rfl) ?_
          refine t_go (op := o_iload 104 3) (fe_X12_stir 103) (fun _ _ => rfl) ?_
          refine t_ite (op := o_icmp 107 112 (fun x y => x ≤ y) (fun _ _ => inferInstance)) (fe_X12_stir 104) g_icmp (fun c4 => ?_) (fun c4 => ?_)
          · refine t_go (op := o_iload 113 3) (fe_X12_stir 112) (fun _ _ => rfl) ?_
            refine t_go (op := o_istore 114 3) (fe_X12_stir 113) (fun _ _ => rfl) ?_
            refine t_go (op := o_iinc 117 4 1) (fe_X12_stir 114) (fun _ _ => rfl) ?_
            refine t_go (op := o_goto 24) (fe_X12_stir 117) (fun _ _ => rfl) ?_
            rw [it_step, stirS, if_pos c2, bestS_t (v := stirV h g n F q) (e := i) (a := a) (b := c) c4] at hq
            rw [nI_1]
            exact ih (i + 1) _ _ _ _ (by omega) hz hq
          · exact absurd c3 c4
        · refine t_go (op := o_iload 96 4) (fe_X12_stir 94) (fun _ _ => rfl) ?_
          refine t_go (op := o_goto 100) (fe_X12_stir 96) (fun _ _ => rfl) ?_
          refine t_go (op := o_istore 101 2) (fe_X12_stir 100) (fun _ _ => rfl) ?_
          refine t_go (op := o_iload 103 5) (fe_X12_stir 101) (fun _ _ => rfl) ?_
          refine t_go (op := o_iload 104 3) (fe_X12_stir 103) (fun _ _ => rfl) ?_
          refine t_ite (op := o_icmp 107 112 (fun x y => x ≤ y) (fun _ _ => inferInstance)) (fe_X12_stir 104) g_icmp (fun c5 => ?_) (fun c5 => ?_)
          · exact absurd c5 c3
          · refine t_go (op := o_iload 109 5) (fe_X12_stir 107) (fun _ _ => rfl) ?_
            refine t_go (op := o_goto 113) (fe_X12_stir 109) (fun _ _ => rfl) ?_
            refine t_go (op := o_istore 114 3) (fe_X12_stir 113) (fun _ _ => rfl) ?_
            refine t_go (op := o_iinc 117 4 1) (fe_X12_stir 114) (fun _ _ => rfl) ?_
            refine t_go (op := o_goto 24) (fe_X12_stir 117) (fun _ _ => rfl) ?_
            rw [it_step, stirS, if_pos c2, bestS_f (v := stirV h g n F q) (e := i) (a := a) (b := c) c5] at hq
            rw [nI_1]
            exact ih (i + 1) _ _ _ _ (by omega) hz hq
theorem r_stir {d : Nat} {k h : AHP} {m n g T : Nat} {F : FS} (hP : CP k h g n m) (hW : FW m T F) (hB0 : RB (k.1 197) 0 F) (hT : T < 90000) {q : Nat} (hq1 : 1 ≤ q) (hq6 : q ≤ 12) : MM (d + 5) 244 [.ref 183, .int (nI q)] k (fun v h2 => v = some (.int (it (stirS h g n F q) 7 0 (-1, -1)).1) ∧ Zf trl k h2) := by
  refine ⟨Nat.le_of_ble_eq_true rfl, ?_⟩
  have hm := hP.1.2.2.1
  have hS := hP.1.1
  have hE := hP.1.2.1
  refine t_go (op := o_aload 1 0) (fe_X12_stir 0) (fun _ _ => rfl) ?_
  refine t_go (op := o_ci 2 0) (fe_X12_stir 1) (fun _ _ => rfl) ?_
  refine t_go (op := o_putI 5 11 0) (fe_X12_stir 2) (g_putI hS (show (lay 183).1 = 11 by decide) (by decide)) ?_
  have hz : Zf trl k (sI k 183 0 0) := Zf_thr Zf.rf
  have hS := (hP.zf hz).1.1
  have hE := (hP.zf hz).1.2.1
  refine t_go (op := o_iload 6 1) (fe_X12_stir 5) (fun _ _ => rfl) ?_
  refine t_go (op := o_ci 7 1) (fe_X12_stir 6) (fun _ _ => rfl) ?_
  refine t_go (op := o_ci 9 12) (fe_X12_stir 7) (fun _ _ => rfl) ?_
  refine t_call (op := o_callS 12 173 3) (fe_X12_stir 9) (g_callS rfl rfl rfl (Nat.le_of_ble_eq_true rfl)) ?_
  refine M_eq r_within ?_
  refine t_ite (op := o_if 17 15 (fun x => x = 0) (fun _ => inferInstance)) (fe_X12_stir 12) g_if (fun c1 => ?_) (fun c1 => ?_)
  · exact absurd (show ¬ nI q < 1 ∧ ¬ (12 : Int32) < nI q from ⟨nI_nlt (b := 1) hq1 (by omega), nI_nlt (a := 12) (by omega) (by omega)⟩) (b2i_z c1)
  · replace c1 := b2i_nn c1
    refine t_go (op := o_ci 18 (-1)) (fe_X12_stir 17) (fun _ _ => rfl) ?_
    refine t_go (op := o_istore 19 2) (fe_X12_stir 18) (fun _ _ => rfl) ?_
    refine t_go (op := o_ci 20 (-1)) (fe_X12_stir 19) (fun _ _ => rfl) ?_
    refine t_go (op := o_istore 21 3) (fe_X12_stir 20) (fun _ _ => rfl) ?_
    refine t_go (op := o_ci 22 0) (fe_X12_stir 21) (fun _ _ => rfl) ?_
    refine t_go (op := o_istore 24 4) (fe_X12_stir 22) (fun _ _ => rfl) ?_
    exact (lr_stir hP hW hB0 hT hq6 m 0 _ (-1) (-1) _ (by omega) hz fun S2 hz => ⟨by rw [stir_m hW.1 hm], hz⟩)
theorem r_stirF {d : Nat} {k h : AHP} {m n g T : Nat} {F : FS} (hP : CP k h g n m) (hW : FW m T F) (hB0 : RB (k.1 197) 0 F) (hT : T < 90000) {x : Int32} (hn : ¬ (¬ x < 1 ∧ ¬ 12 < x)) : MM (d + 5) 244 [.ref 183, .int x] k (fun v h2 => v = some (.int (-1)) ∧ Zf trl k h2) := by
  refine ⟨Nat.le_of_ble_eq_true rfl, ?_⟩
  have hm := hP.1.2.2.1
  have hS := hP.1.1
  have hE := hP.1.2.1
  refine t_go (op := o_aload 1 0) (fe_X12_stir 0) (fun _ _ => rfl) ?_
  refine t_go (op := o_ci 2 0) (fe_X12_stir 1) (fun _ _ => rfl) ?_
  refine t_go (op := o_putI 5 11 0) (fe_X12_stir 2) (g_putI hS (show (lay 183).1 = 11 by decide) (by decide)) ?_
  have hz : Zf trl k (sI k 183 0 0) := Zf_thr Zf.rf
  have hS := (hP.zf hz).1.1
  have hE := (hP.zf hz).1.2.1
  refine t_go (op := o_iload 6 1) (fe_X12_stir 5) (fun _ _ => rfl) ?_
  refine t_go (op := o_ci 7 1) (fe_X12_stir 6) (fun _ _ => rfl) ?_
  refine t_go (op := o_ci 9 12) (fe_X12_stir 7) (fun _ _ => rfl) ?_
  refine t_call (op := o_callS 12 173 3) (fe_X12_stir 9) (g_callS rfl rfl rfl (Nat.le_of_ble_eq_true rfl)) ?_
  refine M_eq r_within ?_
  refine t_ite (op := o_if 17 15 (fun x => x = 0) (fun _ => inferInstance)) (fe_X12_stir 12) g_if (fun c1 => ?_) (fun c1 => ?_)
  · replace c1 := b2i_z c1
    refine t_go (op := o_ci 16 (-1)) (fe_X12_stir 15) (fun _ _ => rfl) ?_
    refine t_ret (op := o_iret) (fe_X12_stir 16) (fun _ _ => rfl) ?_
    exact ⟨rfl, hz⟩
  · exact absurd (b2i_nn c1) hn
