/-! ===== the class reads an evening ===== -/
def acF (c : Nat) : Int32 := if 200000 + c = 200007 then 0 else if 200000 + c = 200008 then 1 else if 200000 + c = 200009 then 2 else if 200000 + c = 200010 then 3 else if 200000 + c = 200011 then 4 else -1
theorem acF_n : ∀ c, c < 25 → acF c = (if 7 ≤ c ∧ c < 12 then nI (c - 7) else -1) := by decide +kernel
theorem ac_y {t : Tk} {q : Nat} (h : t.1 = 1 ∧ t.2.2.1 = 7 + q) (hq : q < 5) : acF (kyN t) = nI q := by
  have e : kyN t = 7 + q := (if_pos h.1).trans h.2
  rw [e, acF_n _ (by omega), if_pos (by omega), Nat.add_sub_cancel_left]
theorem ac_n {t : Tk} (hb : TKb t) (h : ¬ (t.1 = 1 ∧ 7 ≤ t.2.2.1 ∧ t.2.2.1 < 12)) : acF (kyN t) = -1 := by
  have hk := ky_le hb
  rw [acF_n _ (by omega)]
  unfold kyN
  by_cases q : t.1 = 1
  · rw [if_pos q, if_neg (fun w => h ⟨q, w⟩)]
  · rw [if_neg q, if_neg (by decide)]
theorem c_actOf0 {d : Nat} {h : AHP} {c : Nat} (hc : c < 25) : MM d 1 [.ref (200000 + c)] h (fun v h2 => v = some (.int (acF c)) ∧ h2 = h) := by
  refine ⟨Nat.le_of_ble_eq_true rfl, ?_⟩
  refine t_go (op := o_aload 1 0) (fe_X0_actOf 0) (fun _ _ => rfl) ?_
  refine t_go (op := o_gets 4 200007) (fe_X0_actOf 1) (fun _ _ => rfl) ?_
  refine t_ite (op := o_acmpNe 7 9) (fe_X0_actOf 4) (g_acmpNe ⟨by omega, by omega, by decide, by decide⟩) (fun c1 => ?_) (fun c1 => ?_)
  · refine t_go (op := o_ci 8 0) (fe_X0_actOf 7) (fun _ _ => rfl) ?_
    refine t_ret (op := o_iret) (fe_X0_actOf 8) (fun _ _ => rfl) ?_
    exact ⟨congrArg (fun z => some (Value.int z)) (Eq.symm (show acF c = _ from (if_pos c1))), rfl⟩
  · refine t_go (op := o_aload 10 0) (fe_X0_actOf 9) (fun _ _ => rfl) ?_
    refine t_go (op := o_gets 13 200008) (fe_X0_actOf 10) (fun _ _ => rfl) ?_
    refine t_ite (op := o_acmpNe 16 18) (fe_X0_actOf 13) (g_acmpNe ⟨by omega, by omega, by decide, by decide⟩) (fun c2 => ?_) (fun c2 => ?_)
    · refine t_go (op := o_ci 17 1) (fe_X0_actOf 16) (fun _ _ => rfl) ?_
      refine t_ret (op := o_iret) (fe_X0_actOf 17) (fun _ _ => rfl) ?_
      exact ⟨congrArg (fun z => some (Value.int z)) (Eq.symm (show acF c = _ from (Eq.trans (if_neg c1) (if_pos c2)))), rfl⟩
    · refine t_go (op := o_aload 19 0) (fe_X0_actOf 18) (fun _ _ => rfl) ?_
      refine t_go (op := o_gets 22 200009) (fe_X0_actOf 19) (fun _ _ => rfl) ?_
      refine t_ite (op := o_acmpNe 25 27) (fe_X0_actOf 22) (g_acmpNe ⟨by omega, by omega, by decide, by decide⟩) (fun c3 => ?_) (fun c3 => ?_)
      · refine t_go (op := o_ci 26 2) (fe_X0_actOf 25) (fun _ _ => rfl) ?_
        refine t_ret (op := o_iret) (fe_X0_actOf 26) (fun _ _ => rfl) ?_
        exact ⟨congrArg (fun z => some (Value.int z)) (Eq.symm (show acF c = _ from (Eq.trans (if_neg c1) (Eq.trans (if_neg c2) (if_pos c3))))), rfl⟩
      · refine t_go (op := o_aload 28 0) (fe_X0_actOf 27) (fun _ _ => rfl) ?_
        refine t_go (op := o_gets 31 200010) (fe_X0_actOf 28) (fun _ _ => rfl) ?_
        refine t_ite (op := o_acmpNe 34 36) (fe_X0_actOf 31) (g_acmpNe ⟨by omega, by omega, by decide, by decide⟩) (fun c4 => ?_) (fun c4 => ?_)
        · refine t_go (op := o_ci 35 3) (fe_X0_actOf 34) (fun _ _ => rfl) ?_
          refine t_ret (op := o_iret) (fe_X0_actOf 35) (fun _ _ => rfl) ?_
          exact ⟨congrArg (fun z => some (Value.int z)) (Eq.symm (show acF c = _ from (Eq.trans (if_neg c1) (Eq.trans (if_neg c2) (Eq.trans (if_neg c3) (if_pos c4)))))), rfl⟩
        · refine t_go (op := o_aload 37 0) (fe_X0_actOf 36) (fun _ _ => rfl) ?_
          refine t_go (op := o_gets 40 200011) (fe_X0_actOf 37) (fun _ _ => rfl) ?_
          refine t_ite (op := o_acmpNe 43 47) (fe_X0_actOf 40) (g_acmpNe ⟨by omega, by omega, by decide, by decide⟩) (fun c5 => ?_) (fun c5 => ?_)
          · refine t_go (op := o_ci 44 4) (fe_X0_actOf 43) (fun _ _ => rfl) ?_
            refine t_go (op := o_goto 48) (fe_X0_actOf 44) (fun _ _ => rfl) ?_
            refine t_ret (op := o_iret) (fe_X0_actOf 48) (fun _ _ => rfl) ?_
            exact ⟨congrArg (fun z => some (Value.int z)) (Eq.symm (show acF c = _ from (Eq.trans (if_neg c1) (Eq.trans (if_neg c2) (Eq.trans (if_neg c3) (Eq.trans (if_neg c4) (if_pos c5))))))), rfl⟩
          · refine t_go (op := o_ci 48 (-1)) (fe_X0_actOf 47) (fun _ _ => rfl) ?_
            refine t_ret (op := o_iret) (fe_X0_actOf 48) (fun _ _ => rfl) ?_
            exact ⟨congrArg (fun z => some (Value.int z)) (Eq.symm (show acF c = _ from (Eq.trans (if_neg c1) (Eq.trans (if_neg c2) (Eq.trans (if_neg c3) (Eq.trans (if_neg c4) (if_neg c5))))))), rfl⟩
theorem c_actOf {d : Nat} {h : AHP} {c K : Nat} (e : K = 200000 + c) (hc : c < 25) : MM d 1 [.ref K] h (fun v h2 => v = some (.int (acF c)) ∧ h2 = h) := by rw [e]; exact c_actOf0 hc
theorem c_has0 {d : Nat} {h : AHP} : MM d 2 [.int 0] h (fun v h2 => v = some (.int 0) ∧ h2 = h) := by
  refine ⟨Nat.le_of_ble_eq_true rfl, ?_⟩
  refine t_go (op := o_iload 1 0) (fe_X0_hasEmber 0) (fun _ _ => rfl) ?_
  refine t_go (op := o_ci 2 1) (fe_X0_hasEmber 1) (fun _ _ => rfl) ?_
  refine t_ite (op := o_icmp 5 15 (fun x y => x = y) (fun _ _ => inferInstance)) (fe_X0_hasEmber 2) g_icmp (fun c1 => ?_) (fun c1 => ?_)
  · exact absurd c1 (by decide)
  · clear c1
    refine t_go (op := o_iload 6 0) (fe_X0_hasEmber 5) (fun _ _ => rfl) ?_
    refine t_go (op := o_ci 7 2) (fe_X0_hasEmber 6) (fun _ _ => rfl) ?_
    refine t_ite (op := o_icmp 10 15 (fun x y => x = y) (fun _ _ => inferInstance)) (fe_X0_hasEmber 7) g_icmp (fun c2 => ?_) (fun c2 => ?_)
    · exact absurd c2 (by decide)
    · clear c2
      refine t_go (op := o_iload 11 0) (fe_X0_hasEmber 10) (fun _ _ => rfl) ?_
      refine t_go (op := o_ci 12 3) (fe_X0_hasEmber 11) (fun _ _ => rfl) ?_
      refine t_ite (op := o_icmp 19 15 (fun x y => x = y) (fun _ _ => inferInstance)) (fe_X0_hasEmber 12) g_icmp (fun c3 => ?_) (fun c3 => ?_)
      · exact absurd c3 (by decide)
      · clear c3
        refine t_go (op := o_ci 20 0) (fe_X0_hasEmber 19) (fun _ _ => rfl) ?_
        refine t_ret (op := o_zret) (fe_X0_hasEmber 20) (g_zret (Or.inl rfl)) ?_
        exact ⟨rfl, rfl⟩
theorem c_has1 {d : Nat} {h : AHP} : MM d 2 [.int 1] h (fun v h2 => v = some (.int 1) ∧ h2 = h) := by
  refine ⟨Nat.le_of_ble_eq_true rfl, ?_⟩
  refine t_go (op := o_iload 1 0) (fe_X0_hasEmber 0) (fun _ _ => rfl) ?_
  refine t_go (op := o_ci 2 1) (fe_X0_hasEmber 1) (fun _ _ => rfl) ?_
  refine t_ite (op := o_icmp 5 15 (fun x y => x = y) (fun _ _ => inferInstance)) (fe_X0_hasEmber 2) g_icmp (fun c1 => ?_) (fun c1 => ?_)
  · clear c1
    refine t_go (op := o_ci 16 1) (fe_X0_hasEmber 15) (fun _ _ => rfl) ?_
    refine t_go (op := o_goto 20) (fe_X0_hasEmber 16) (fun _ _ => rfl) ?_
    refine t_ret (op := o_zret) (fe_X0_hasEmber 20) (g_zret (Or.inr rfl)) ?_
    exact ⟨rfl, rfl⟩
  · exact absurd (by decide) c1
theorem c_has2 {d : Nat} {h : AHP} : MM d 2 [.int 2] h (fun v h2 => v = some (.int 1) ∧ h2 = h) := by
  refine ⟨Nat.le_of_ble_eq_true rfl, ?_⟩
  refine t_go (op := o_iload 1 0) (fe_X0_hasEmber 0) (fun _ _ => rfl) ?_
  refine t_go (op := o_ci 2 1) (fe_X0_hasEmber 1) (fun _ _ => rfl) ?_
  refine t_ite (op := o_icmp 5 15 (fun x y => x = y) (fun _ _ => inferInstance)) (fe_X0_hasEmber 2) g_icmp (fun c1 => ?_) (fun c1 => ?_)
  · exact absurd c1 (by decide)
  · clear c1
    refine t_go (op := o_iload 6 0) (fe_X0_hasEmber 5) (fun _ _ => rfl) ?_
    refine t_go (op := o_ci 7 2) (fe_X0_hasEmber 6) (fun _ _ => rfl) ?_
    refine t_ite (op := o_icmp 10 15 (fun x y => x = y) (fun _ _ => inferInstance)) (fe_X0_hasEmber 7) g_icmp (fun c2 => ?_) (fun c2 => ?_)
    · clear c2
      refine t_go (op := o_ci 16 1) (fe_X0_hasEmber 15) (fun _ _ => rfl) ?_
      refine t_go (op := o_goto 20) (fe_X0_hasEmber 16) (fun _ _ => rfl) ?_
      refine t_ret (op := o_zret) (fe_X0_hasEmber 20) (g_zret (Or.inr rfl)) ?_
      exact ⟨rfl, rfl⟩
    · exact absurd (by decide) c2
theorem c_has3 {d : Nat} {h : AHP} : MM d 2 [.int 3] h (fun v h2 => v = some (.int 1) ∧ h2 = h) := by
  refine ⟨Nat.le_of_ble_eq_true rfl, ?_⟩
  refine t_go (op := o_iload 1 0) (fe_X0_hasEmber 0) (fun _ _ => rfl) ?_
  refine t_go (op := o_ci 2 1) (fe_X0_hasEmber 1) (fun _ _ => rfl) ?_
  refine t_ite (op := o_icmp 5 15 (fun x y => x = y) (fun _ _ => inferInstance)) (fe_X0_hasEmber 2) g_icmp (fun c1 => ?_) (fun c1 => ?_)
  · exact absurd c1 (by decide)
  · clear c1
    refine t_go (op := o_iload 6 0) (fe_X0_hasEmber 5) (fun _ _ => rfl) ?_
    refine t_go (op := o_ci 7 2) (fe_X0_hasEmber 6) (fun _ _ => rfl) ?_
    refine t_ite (op := o_icmp 10 15 (fun x y => x = y) (fun _ _ => inferInstance)) (fe_X0_hasEmber 7) g_icmp (fun c2 => ?_) (fun c2 => ?_)
    · exact absurd c2 (by decide)
    · clear c2
      refine t_go (op := o_iload 11 0) (fe_X0_hasEmber 10) (fun _ _ => rfl) ?_
      refine t_go (op := o_ci 12 3) (fe_X0_hasEmber 11) (fun _ _ => rfl) ?_
      refine t_ite (op := o_icmp 19 15 (fun x y => x = y) (fun _ _ => inferInstance)) (fe_X0_hasEmber 12) g_icmp (fun c3 => ?_) (fun c3 => ?_)
      · clear c3
        refine t_go (op := o_ci 16 1) (fe_X0_hasEmber 15) (fun _ _ => rfl) ?_
        refine t_go (op := o_goto 20) (fe_X0_hasEmber 16) (fun _ _ => rfl) ?_
        refine t_ret (op := o_zret) (fe_X0_hasEmber 20) (g_zret (Or.inr rfl)) ?_
        exact ⟨rfl, rfl⟩
      · exact absurd (by decide) c3
theorem c_has4 {d : Nat} {h : AHP} : MM d 2 [.int 4] h (fun v h2 => v = some (.int 0) ∧ h2 = h) := by
  refine ⟨Nat.le_of_ble_eq_true rfl, ?_⟩
  refine t_go (op := o_iload 1 0) (fe_X0_hasEmber 0) (fun _ _ => rfl) ?_
  refine t_go (op := o_ci 2 1) (fe_X0_hasEmber 1) (fun _ _ => rfl) ?_
  refine t_ite (op := o_icmp 5 15 (fun x y => x = y) (fun _ _ => inferInstance)) (fe_X0_hasEmber 2) g_icmp (fun c1 => ?_) (fun c1 => ?_)
  · exact absurd c1 (by decide)
  · clear c1
    refine t_go (op := o_iload 6 0) (fe_X0_hasEmber 5) (fun _ _ => rfl) ?_
    refine t_go (op := o_ci 7 2) (fe_X0_hasEmber 6) (fun _ _ => rfl) ?_
    refine t_ite (op := o_icmp 10 15 (fun x y => x = y) (fun _ _ => inferInstance)) (fe_X0_hasEmber 7) g_icmp (fun c2 => ?_) (fun c2 => ?_)
    · exact absurd c2 (by decide)
    · clear c2
      refine t_go (op := o_iload 11 0) (fe_X0_hasEmber 10) (fun _ _ => rfl) ?_
      refine t_go (op := o_ci 12 3) (fe_X0_hasEmber 11) (fun _ _ => rfl) ?_
      refine t_ite (op := o_icmp 19 15 (fun x y => x = y) (fun _ _ => inferInstance)) (fe_X0_hasEmber 12) g_icmp (fun c3 => ?_) (fun c3 => ?_)
      · exact absurd c3 (by decide)
      · clear c3
        refine t_go (op := o_ci 20 0) (fe_X0_hasEmber 19) (fun _ _ => rfl) ?_
        refine t_ret (op := o_zret) (fe_X0_hasEmber 20) (g_zret (Or.inl rfl)) ?_
        exact ⟨rfl, rfl⟩
theorem c_evAdd {d : Nat} {h : AHP} {e m : Nat} {x y z : Int32} (hS : Std h) (he : (lay e).1 = 0) (hm : h.1 e 3 = nI m) (hm7 : m < 40) : MM d 4 [.ref e, .int x, .int y, .int z] h (fun v h2 => v = none ∧ h2 = sI (sI (sI (sI h (e + 1) m x) (e + 2) m y) (e + 3) m z) e 3 (nI (m + 1))) := by
  refine ⟨Nat.le_of_ble_eq_true rfl, ?_⟩
  refine t_go (op := o_aload 1 0) (fe_X0_add 0) (fun _ _ => rfl) ?_
  refine t_go (op := o_getI 4 0 3) (fe_X0_add 1) (g_getI hS he (by decide)) ?_
  rw [show h.1 e 3 = nI m from hm]
  refine t_go (op := o_ci 6 40) (fe_X0_add 4) (fun _ _ => rfl) ?_
  refine t_ite (op := o_icmp 9 49 (fun x y => y ≤ x) (fun _ _ => inferInstance)) (fe_X0_add 6) g_icmp (fun c1 => ?_) (fun c1 => ?_)
  · exact absurd ((nI_leI (a := 40) (b := m) (by decide) (by omega)).mp c1) (by omega)
  · refine t_go (op := o_aload 10 0) (fe_X0_add 9) (fun _ _ => rfl) ?_
    refine t_go (op := o_getR 13 0 0) (fe_X0_add 10) (g_getR hS he (by decide) (fr_0_0 hS he) (Nat.succ_pos _)) ?_
    refine t_go (op := o_aload 14 0) (fe_X0_add 13) (fun _ _ => rfl) ?_
    refine t_go (op := o_getI 17 0 3) (fe_X0_add 14) (g_getI hS he (by decide)) ?_
    rw [show h.1 e 3 = nI m from hm]
    refine t_go (op := o_iload 18 1) (fe_X0_add 17) (fun _ _ => rfl) ?_
    refine t_go (op := o_iast 19) (fe_X0_add 18) (g_iastN hS (ly_0_1 he) rfl (by omega) (by decide)) ?_
    refine t_go (op := o_aload 20 0) (fe_X0_add 19) (fun _ _ => rfl) ?_
    refine t_go (op := o_getR 23 0 1) (fe_X0_add 20) (g_getR hS he (by decide) (fr_0_1 hS he) (Nat.succ_pos _)) ?_
    refine t_go (op := o_aload 24 0) (fe_X0_add 23) (fun _ _ => rfl) ?_
    refine t_go (op := o_getI 27 0 3) (fe_X0_add 24) (g_getI hS he (by decide)) ?_
    rw [show (sI h (e + 1) m x).1 e 3 = nI m from (congrFun (sI_ne (by omega)) 3).trans hm]
    refine t_go (op := o_iload 28 2) (fe_X0_add 27) (fun _ _ => rfl) ?_
    refine t_go (op := o_iast 29) (fe_X0_add 28) (g_iastN hS (ly_0_2 he) rfl (by omega) (by decide)) ?_
    refine t_go (op := o_aload 30 0) (fe_X0_add 29) (fun _ _ => rfl) ?_
    refine t_go (op := o_getR 33 0 2) (fe_X0_add 30) (g_getR hS he (by decide) (fr_0_2 hS he) (Nat.succ_pos _)) ?_
    refine t_go (op := o_aload 34 0) (fe_X0_add 33) (fun _ _ => rfl) ?_
    refine t_go (op := o_getI 37 0 3) (fe_X0_add 34) (g_getI hS he (by decide)) ?_
    rw [show (sI (sI h (e + 1) m x) (e + 2) m y).1 e 3 = nI m from (congrFun (sI_ne (by omega)) 3).trans ((congrFun (sI_ne (by omega)) 3).trans hm)]
    refine t_go (op := o_iload 38 3) (fe_X0_add 37) (fun _ _ => rfl) ?_
    refine t_go (op := o_iast 39) (fe_X0_add 38) (g_iastN hS (ly_0_3 he) rfl (by omega) (by decide)) ?_
    refine t_go (op := o_aload 40 0) (fe_X0_add 39) (fun _ _ => rfl) ?_
    refine t_go (op := o_dupA 41) (fe_X0_add 40) (fun _ _ => rfl) ?_
    refine t_go (op := o_getI 44 0 3) (fe_X0_add 41) (g_getI hS he (by decide)) ?_
    rw [show (sI (sI (sI h (e + 1) m x) (e + 2) m y) (e + 3) m z).1 e 3 = nI m from (congrFun (sI_ne (by omega)) 3).trans ((congrFun (sI_ne (by omega)) 3).trans ((congrFun (sI_ne (by omega)) 3).trans hm))]
    refine t_go (op := o_ci 45 1) (fe_X0_add 44) (fun _ _ => rfl) ?_
    refine t_go (op := o_i2 46 (fun x y => x + y)) (fe_X0_add 45) (fun _ _ => rfl) ?_
    refine t_go (op := o_putI 49 0 3) (fe_X0_add 46) (g_putI hS he (by decide)) ?_
    refine t_ret (op := o_vret) (fe_X0_add 49) (fun _ _ => rfl) ?_
    exact ⟨rfl, congrArg (sI (sI (sI (sI h (e + 1) m x) (e + 2) m y) (e + 3) m z) e 3) (nI_1 m)⟩
def KVf (h0 h : AHP) (e : Nat) : Prop := h.2.2.2 = h0.2.2.2 ∧ (∀ a i, ¬ (a = 2 ∧ i = 6) → h.2.2.1 a i = h0.2.2.1 a i) ∧ (∀ a, a ≠ 2 → h.2.1 a = h0.2.1 a) ∧ (∀ a, a ≠ 2 → a ≠ 4 → (a < e ∨ e + 3 < a) → h.1 a = h0.1 a) ∧ h.1 2 1 = h0.1 2 1
theorem KVf.std {h0 h : AHP} {e : Nat} (h1 : KVf h0 h e) (hS : Std h0) : Std h := ⟨by rw [h1.1]; exact hS.1, fun q hq => by rw [h1.2.1 _ _ (fin_key q hq)]; exact hS.2 q hq⟩
theorem KVf.T {h0 h h2 : AHP} {e : Nat} (h1 : KVf h0 h e) (hT : Tf h h2) : KVf h0 h2 e := ⟨hT.1.trans h1.1, fun a i q => (hT.2.1 a i q).trans (h1.2.1 a i q), fun a q => (hT.2.2.1 a q).trans (h1.2.2.1 a q), fun a q1 q2 q3 => (hT.2.2.2.1 a q1).trans (h1.2.2.2.1 a q1 q2 q3), hT.2.2.2.2.trans h1.2.2.2.2⟩
theorem KVf.wr {h0 h : AHP} {e : Nat} {x : Int32} (h1 : KVf h0 h e) : KVf h0 (sI h 4 1 x) e := ⟨h1.1, h1.2.1, h1.2.2.1, fun a q1 q2 q3 => by rw [sI_ne q2]; exact h1.2.2.2.1 a q1 q2 q3, by rw [sI_ne (by decide)]; exact h1.2.2.2.2⟩
def KVd (h : AHP) (e : Nat) (L : ES) : Prop := h.1 e 3 = nI L.length ∧ ∀ k, k < L.length → h.1 (e + 1) k = nI (L.getD k (0, 0, 0)).1 ∧ (1 ≤ (L.getD k (0, 0, 0)).1 → (L.getD k (0, 0, 0)).1 ≤ 3 → h.1 (e + 2) k = nI (L.getD k (0, 0, 0)).2.1 ∧ h.1 (e + 3) k = nI (L.getD k (0, 0, 0)).2.2)
def KVs (h0 h : AHP) (e : Nat) (ch : Nat → Nat) (len i : Nat) (L : ES) : Prop := KVf h0 h e ∧ CU h ch len i ∧ KVd h e L
def KVF (h0 h : AHP) (e F : Nat) : Prop := KVf h0 h e ∧ h.1 4 1 = nI F
theorem KVs_T {h0 h h2 : AHP} {e : Nat} {ch : Nat → Nat} {len i : Nat} {L : ES} (he5 : 5 ≤ e) (hs : KVs h0 h e ch len i L) (hT : Tf h h2) (hC : CU h2 ch len (i + 1)) : KVs h0 h2 e ch len (i + 1) L := by
  refine ⟨hs.1.T hT, hC, ?_⟩
  have hd := hs.2.2
  unfold KVd at hd ⊢
  rw [hT.2.2.2.1 e (by omega), hT.2.2.2.1 (e + 1) (by omega), hT.2.2.2.1 (e + 2) (by omega), hT.2.2.2.1 (e + 3) (by omega)]
  exact hd
theorem KVF_w {h0 h : AHP} {e F : Nat} {ch : Nat → Nat} {len i : Nat} {L : ES} (hs : KVs h0 h e ch len i L) : KVF h0 (sI h 4 1 (nI F)) e F := ⟨hs.1.wr, sI_eq⟩
def KW_ (h0 : AHP) (e : Nat) (ch : Nat → Nat) (len : Nat) (r : Nat × Nat × ES) (v : Option Value) (h2 : AHP) : Prop := v = some (.int (b2i (r.1 = 0))) ∧ (r.1 = 0 → KVs h0 h2 e ch len r.2.1 r.2.2) ∧ (¬ r.1 = 0 → KVF h0 h2 e r.1)
theorem KW_f {h0 h2 : AHP} {e F : Nat} {ch : Nat → Nat} {len : Nat} {r : Nat × Nat × ES} (er : r.1 = F) (hF : ¬ F = 0) (h : KVF h0 h2 e F) : KW_ h0 e ch len r (some (.int 0)) h2 := by
  subst er
  exact ⟨by rw [b2i_f hF], fun q => absurd q hF, fun _ => h⟩
theorem KW_t {h0 h2 : AHP} {e : Nat} {ch : Nat → Nat} {len : Nat} {r : Nat × Nat × ES} (er : r.1 = 0) (h : KVs h0 h2 e ch len r.2.1 r.2.2) : KW_ h0 e ch len r (some (.int 1)) h2 := ⟨by rw [b2i_t er], fun _ => h, fun q => absurd er q⟩
/-- names, as the class holds them -/
def NK (h : AHP) (g : Nat) (W : Nat → List Nat) (m : Nat) : Prop := h.1 g 4 = nI m ∧ m ≤ 7 ∧ ∀ k, k < m → okW (W k) ∧ h.2.1 (g + 1) k = lN (n32 (W k))
theorem NK_v {h0 h : AHP} {e g m : Nat} {W : Nat → List Nat} (hf : KVf h0 h e) (hd : g + 12 < e) (hg5 : 5 ≤ g) (hN : NK h0 g W m) : NK h g W m := by
  refine ⟨by rw [hf.2.2.2.1 g (by omega) (by omega) (by omega)]; exact hN.1, hN.2.1, fun k hk => by rw [hf.2.2.1 (g + 1) (by omega)]; exact hN.2.2 k hk⟩
theorem KVs_ad {h0 h : AHP} {e : Nat} {ch : Nat → Nat} {len i : Nat} {L : ES} {a ix x : Nat} {y z : Int32} (he5 : 5 ≤ e) (hs : KVs h0 h e ch len i L) (hy : 1 ≤ a → a ≤ 3 → y = nI ix ∧ z = nI x) : KVs h0 (sI (sI (sI (sI h (e + 1) L.length (nI a)) (e + 2) L.length y) (e + 3) L.length z) e 3 (nI (L.length + 1))) e ch len i (L ++ [(a, ix, x)]) := by
  obtain ⟨⟨f1, f2, f3, f4, f5⟩, ⟨c1, c2, c3, c4⟩, k1, k2⟩ := hs
  have ra : ∀ b, (b < e ∨ e + 3 < b) → (sI (sI (sI (sI h (e + 1) L.length (nI a)) (e + 2) L.length y) (e + 3) L.length z) e 3 (nI (L.length + 1))).1 b = h.1 b := fun b q => by rw [sI_ne (by omega), sI_ne (by omega), sI_ne (by omega), sI_ne (by omega)]
  refine ⟨⟨f1, f2, f3, fun b q1 q2 q3 => by rw [ra b q3]; exact f4 b q1 q2 q3, by rw [ra 2 (by omega)]; exact f5⟩, ⟨by rw [ra 3 (by omega)]; exact c1, c2, by rw [ra 2 (by omega)]; exact c3, ?_⟩, ?_, fun k hk => ?_⟩
  · unfold TKp at c4 ⊢
    rw [ra 2 (by omega)]
    exact c4
  · rw [sI_eq]; exact congrArg nI len_sn.symm
  · rw [len_sn] at hk
    rw [getD_sn hk, sI_ne (a := e) (by omega), sI_ne (a := e) (by omega), sI_ne (a := e) (by omega), sI_ne (a := e + 3) (b := e + 1) (by omega), sI_ne (a := e + 2) (b := e + 1) (by omega), sI_ne (a := e + 3) (b := e + 2) (by omega)]
    by_cases q : k = L.length
    · subst q
      rw [if_pos rfl, sI_eq, sI_eq, sI_eq]
      exact ⟨rfl, fun w1 w2 => hy w1 w2⟩
    · rw [if_neg q, sI_nr q, sI_nr q, sI_nr q, sI_ne (by omega), sI_ne (by omega), sI_ne (by omega)]
      exact k2 k (by omega)
theorem c_tE1 {d : Nat} {h : AHP} {g : Nat} {ch : Nat → Nat} {len i m : Nat} {W : Nat → List Nat} (hS : Std h) (hg : (lay g).1 = 3) (hC : CU h ch len i) (hK : NK h g W m) (hN : ¬ nmP (tkT ch len) i) : MM (d + 3) 84 [.ref 4, .ref g] h (fun v h2 => v = some (.int (-1)) ∧ h2 = sI h 4 1 (nI (wrF (tkT ch len) 1 i 0))) := by
  refine ⟨Nat.le_of_ble_eq_true rfl, ?_⟩
  obtain ⟨K6, hK6, eK⟩ : ∃ x, h.2.2.1 2 6 = x ∧ x = 200000 + kyN (tkT ch len i) := ⟨_, hC.key, rfl⟩
  have hB6 := hC.b i
  have bK : 200000 ≤ K6 ∧ K6 < 200025 := by have := ky_le hB6; omega
  have eK2 : K6 - 200000 = kyN (tkT ch len i) := by omega
  refine t_go (op := o_aload 1 0) (fe_X7_takeEmber 0) (fun _ _ => rfl) ?_
  refine t_go (op := o_getR 4 6 0) (fe_X7_takeEmber 1) (g_getR hS (show (lay 4).1 = 6 by decide) (by decide) (fr_6_0 hS) (by decide)) ?_
  refine t_go (op := o_getR 7 8 6) (fe_X7_takeEmber 4) (g_getR hS (by decide) (by decide) hK6 (by omega)) ?_
  refine t_go (op := o_keyI 10 kCan) (fe_X7_takeEmber 7) (g_keyI bK) ?_
  rw [eK2, can_n hB6 hN]
  refine t_ite (op := o_if 21 13 (fun x => x = 0) (fun _ => inferInstance)) (fe_X7_takeEmber 10) g_if (fun c1 => ?_) (fun c1 => ?_)
  · refine t_go (op := o_aload 14 0) (fe_X7_takeEmber 13) (fun _ _ => rfl) ?_
    refine t_go (op := o_ci 15 1) (fe_X7_takeEmber 14) (fun _ _ => rfl) ?_
    refine t_call (op := o_callV 18 71 2 6) (fe_X7_takeEmber 15) (g_callV hS (show (lay 4).1 = 6 by decide) (by decide) rfl rfl rfl (Nat.le_of_ble_eq_true rfl)) ?_
    refine M_eq (c_wrong (c := 1) hS hC) ?_
    refine t_go (op := o_popI 19) (fe_X7_takeEmber 18) (fun _ _ => rfl) ?_
    refine t_go (op := o_ci 20 (-1)) (fe_X7_takeEmber 19) (fun _ _ => rfl) ?_
    refine t_ret (op := o_iret) (fe_X7_takeEmber 20) (fun _ _ => rfl) ?_
    exact ⟨rfl, rfl⟩
  · exact absurd rfl c1
theorem c_tE2 {d : Nat} {h : AHP} {g : Nat} {ch : Nat → Nat} {len i m : Nat} {W : Nat → List Nat} (hS : Std h) (hg : (lay g).1 = 3) (hC : CU h ch len i) (hK : NK h g W m) (hN : nmP (tkT ch len) i) (hu : ¬ ixV W (tkT ch len i).2.2.2.1 m 0 < m) : MM (d + 3) 84 [.ref 4, .ref g] h (fun v h2 => v = some (.int (-1)) ∧ h2 = sI h 4 1 (nI (wrF (tkT ch len) 2 i 0))) := by
  refine ⟨Nat.le_of_ble_eq_true rfl, ?_⟩
  obtain ⟨K6, hK6, eK⟩ : ∃ x, h.2.2.1 2 6 = x ∧ x = 200000 + kyN (tkT ch len i) := ⟨_, hC.key, rfl⟩
  have hB6 := hC.b i
  have bK : 200000 ≤ K6 ∧ K6 < 200025 := by have := ky_le hB6; omega
  have eK2 : K6 - 200000 = kyN (tkT ch len i) := by omega
  refine t_go (op := o_aload 1 0) (fe_X7_takeEmber 0) (fun _ _ => rfl) ?_
  refine t_go (op := o_getR 4 6 0) (fe_X7_takeEmber 1) (g_getR hS (show (lay 4).1 = 6 by decide) (by decide) (fr_6_0 hS) (by decide)) ?_
  refine t_go (op := o_getR 7 8 6) (fe_X7_takeEmber 4) (g_getR hS (by decide) (by decide) hK6 (by omega)) ?_
  refine t_go (op := o_keyI 10 kCan) (fe_X7_takeEmber 7) (g_keyI bK) ?_
  rw [eK2, can_y hB6 hN]
  refine t_ite (op := o_if 21 13 (fun x => x = 0) (fun _ => inferInstance)) (fe_X7_takeEmber 10) g_if (fun c1 => ?_) (fun c1 => ?_)
  · exact absurd c1 (by decide)
  · refine t_go (op := o_aload 22 1) (fe_X7_takeEmber 21) (fun _ _ => rfl) ?_
    refine t_go (op := o_aload 23 0) (fe_X7_takeEmber 22) (fun _ _ => rfl) ?_
    refine t_go (op := o_getR 26 6 0) (fe_X7_takeEmber 23) (g_getR hS (show (lay 4).1 = 6 by decide) (by decide) (fr_6_0 hS) (by decide)) ?_
    refine t_go (op := o_getJ 29 8 5) (fe_X7_takeEmber 26) (g_getJ hS (by decide) (by decide)) ?_
    rw [show h.2.1 2 5 = lN (n32 (tkT ch len i).2.2.2.1) from hC.2.2.2.2.2.2.1 hN.1]
    refine t_call (op := o_callV 32 53 2 3) (fe_X7_takeEmber 29) (g_callV hS hg (by decide) rfl rfl rfl (Nat.le_of_ble_eq_true rfl)) ?_
    refine M_mono ?_ (c_emberNamed hS hg hK.1 hK.2.1)
    rintro _ h9 ⟨⟨a9, rfl, hF9⟩, e9⟩
    replace e9 := e9.symm
    subst e9
    have hfi : ∀ k, k < m → (h.2.1 (g + 1) k = lN (n32 (tkT ch len i).2.2.2.1) ↔ W k = (tkT ch len i).2.2.2.1) := fun k hk => by rw [(hK.2.2 k hk).2]; exact n32_eq (hK.2.2 k hk).1 (hB6.2.2.2 hN.1).1
    have hix := FIp_ix hfi hF9
    refine t_go (op := o_istore 33 2) (fe_X7_takeEmber 32) (fun _ _ => rfl) ?_
    refine t_go (op := o_iload 34 2) (fe_X7_takeEmber 33) (fun _ _ => rfl) ?_
    refine t_go (op := o_ci 35 (-1)) (fe_X7_takeEmber 34) (fun _ _ => rfl) ?_
    refine t_ite (op := o_icmp 46 38 (fun x y => x = y) (fun _ _ => inferInstance)) (fe_X7_takeEmber 35) g_icmp (fun c2 => ?_) (fun c2 => ?_)
    · refine t_go (op := o_aload 39 0) (fe_X7_takeEmber 38) (fun _ _ => rfl) ?_
      refine t_go (op := o_ci 40 2) (fe_X7_takeEmber 39) (fun _ _ => rfl) ?_
      refine t_call (op := o_callV 43 71 2 6) (fe_X7_takeEmber 40) (g_callV hS (show (lay 4).1 = 6 by decide) (by decide) rfl rfl rfl (Nat.le_of_ble_eq_true rfl)) ?_
      refine M_eq (c_wrong (c := 2) hS hC) ?_
      refine t_go (op := o_popI 44) (fe_X7_takeEmber 43) (fun _ _ => rfl) ?_
      refine t_go (op := o_ci 45 (-1)) (fe_X7_takeEmber 44) (fun _ _ => rfl) ?_
      refine t_ret (op := o_iret) (fe_X7_takeEmber 45) (fun _ _ => rfl) ?_
      exact ⟨rfl, rfl⟩
    · exact absurd (hix.2 hu) c2
theorem c_tEY {d : Nat} {h : AHP} {g : Nat} {ch : Nat → Nat} {len i m : Nat} {W : Nat → List Nat} (hS : Std h) (hg : (lay g).1 = 3) (hC : CU h ch len i) (hK : NK h g W m) (hN : nmP (tkT ch len) i) (hu : ixV W (tkT ch len i).2.2.2.1 m 0 < m) : MM (d + 3) 84 [.ref 4, .ref g] h (fun v h2 => v = some (.int (nI (ixV W (tkT ch len i).2.2.2.1 m 0))) ∧ Tf h h2 ∧ CU h2 ch len (i + 1)) := by
  refine ⟨Nat.le_of_ble_eq_true rfl, ?_⟩
  obtain ⟨K6, hK6, eK⟩ : ∃ x, h.2.2.1 2 6 = x ∧ x = 200000 + kyN (tkT ch len i) := ⟨_, hC.key, rfl⟩
  have hB6 := hC.b i
  have bK : 200000 ≤ K6 ∧ K6 < 200025 := by have := ky_le hB6; omega
  have eK2 : K6 - 200000 = kyN (tkT ch len i) := by omega
  refine t_go (op := o_aload 1 0) (fe_X7_takeEmber 0) (fun _ _ => rfl) ?_
  refine t_go (op := o_getR 4 6 0) (fe_X7_takeEmber 1) (g_getR hS (show (lay 4).1 = 6 by decide) (by decide) (fr_6_0 hS) (by decide)) ?_
  refine t_go (op := o_getR 7 8 6) (fe_X7_takeEmber 4) (g_getR hS (by decide) (by decide) hK6 (by omega)) ?_
  refine t_go (op := o_keyI 10 kCan) (fe_X7_takeEmber 7) (g_keyI bK) ?_
  rw [eK2, can_y hB6 hN]
  refine t_ite (op := o_if 21 13 (fun x => x = 0) (fun _ => inferInstance)) (fe_X7_takeEmber 10) g_if (fun c1 => ?_) (fun c1 => ?_)
  · exact absurd c1 (by decide)
  · refine t_go (op := o_aload 22 1) (fe_X7_takeEmber 21) (fun _ _ => rfl) ?_
    refine t_go (op := o_aload 23 0) (fe_X7_takeEmber 22) (fun _ _ => rfl) ?_
    refine t_go (op := o_getR 26 6 0) (fe_X7_takeEmber 23) (g_getR hS (show (lay 4).1 = 6 by decide) (by decide) (fr_6_0 hS) (by decide)) ?_
    refine t_go (op := o_getJ 29 8 5) (fe_X7_takeEmber 26) (g_getJ hS (by decide) (by decide)) ?_
    rw [show h.2.1 2 5 = lN (n32 (tkT ch len i).2.2.2.1) from hC.2.2.2.2.2.2.1 hN.1]
    refine t_call (op := o_callV 32 53 2 3) (fe_X7_takeEmber 29) (g_callV hS hg (by decide) rfl rfl rfl (Nat.le_of_ble_eq_true rfl)) ?_
    refine M_mono ?_ (c_emberNamed hS hg hK.1 hK.2.1)
    rintro _ h9 ⟨⟨a9, rfl, hF9⟩, e9⟩
    replace e9 := e9.symm
    subst e9
    have hfi : ∀ k, k < m → (h.2.1 (g + 1) k = lN (n32 (tkT ch len i).2.2.2.1) ↔ W k = (tkT ch len i).2.2.2.1) := fun k hk => by rw [(hK.2.2 k hk).2]; exact n32_eq (hK.2.2 k hk).1 (hB6.2.2.2 hN.1).1
    have hix := FIp_ix hfi hF9
    refine t_go (op := o_istore 33 2) (fe_X7_takeEmber 32) (fun _ _ => rfl) ?_
    refine t_go (op := o_iload 34 2) (fe_X7_takeEmber 33) (fun _ _ => rfl) ?_
    refine t_go (op := o_ci 35 (-1)) (fe_X7_takeEmber 34) (fun _ _ => rfl) ?_
    refine t_ite (op := o_icmp 46 38 (fun x y => x = y) (fun _ _ => inferInstance)) (fe_X7_takeEmber 35) g_icmp (fun c2 => ?_) (fun c2 => ?_)
    · exact absurd ((hix.1 hu).symm.trans c2) (nI_m1 (by have := hK.2.1; omega))
    · refine t_go (op := o_aload 47 0) (fe_X7_takeEmber 46) (fun _ _ => rfl) ?_
      refine t_go (op := o_getR 50 6 0) (fe_X7_takeEmber 47) (g_getR hS (show (lay 4).1 = 6 by decide) (by decide) (fr_6_0 hS) (by decide)) ?_
      refine t_call (op := o_callV 53 97 1 8) (fe_X7_takeEmber 50) (g_callV hS (by decide) (by decide) rfl rfl rfl (Nat.le_of_ble_eq_true rfl)) ?_
      refine M_mono ?_ (c_toNext hS hC)
      rintro _ k2 ⟨rfl, hT, hC2⟩
      refine t_go (op := o_iload 54 2) (fe_X7_takeEmber 53) (fun _ _ => rfl) ?_
      refine t_ret (op := o_iret) (fe_X7_takeEmber 54) (fun _ _ => rfl) ?_
      exact ⟨congrArg (fun z => some (Value.int z)) (hix.1 hu), hT, hC2⟩
theorem k_v1 {d : Nat} {h0 h : AHP} {e g : Nat} {ch : Nat → Nat} {len i m : Nat} {W : Nat → List Nat} {L : ES} (hS0 : Std h0) (he : (lay e).1 = 0) (he5 : 5 ≤ e) (hg : (lay g).1 = 3) (hg5 : 5 ≤ g) (hge : g + 12 < e) (hK0 : NK h0 g W m) (hs : KVs h0 h e ch len i L) (hw : ¬ whP (tkT ch len) 7 i 0 5) {Q : Option Value → AHP → Prop} (hq : ∀ h2, KVF h0 h2 e (wrF (tkT ch len) 1 i 0) → Q (some (.int 0)) h2) : MM (d + 5) 83 [.ref 4, .ref e, .ref g] h (fun v h2 => Q v h2) := by
  refine ⟨Nat.le_of_ble_eq_true rfl, ?_⟩
  have hS := hs.1.std hS0
  have hC := hs.2.1
  obtain ⟨K6, hK6, eK⟩ : ∃ x, h.2.2.1 2 6 = x ∧ x = 200000 + kyN (tkT ch len i) := ⟨_, hC.key, rfl⟩
  have hB6 := hC.b i
  have bK : 200000 ≤ K6 ∧ K6 < 200025 := by have := ky_le hB6; omega
  have eK2 : K6 - 200000 = kyN (tkT ch len i) := by omega
  refine t_go (op := o_aload 1 0) (fe_X7_eveningLine 0) (fun _ _ => rfl) ?_
  refine t_go (op := o_getR 4 6 0) (fe_X7_eveningLine 1) (g_getR hS (show (lay 4).1 = 6 by decide) (by decide) (fr_6_0 hS) (by decide)) ?_
  refine t_go (op := o_getR 7 8 6) (fe_X7_eveningLine 4) (g_getR hS (by decide) (by decide) hK6 (by omega)) ?_
  refine t_call (op := o_callS 10 1 1) (fe_X7_eveningLine 7) (g_callS rfl rfl rfl (Nat.le_of_ble_eq_true rfl)) ?_
  refine M_eq (c_actOf eK (by have := ky_le hB6; omega)) ?_
  rw [ac_n hB6 (fun q => hw ⟨rfl, q.1, q.2.1, q.2.2⟩)]
  refine t_go (op := o_istore 11 3) (fe_X7_eveningLine 10) (fun _ _ => rfl) ?_
  refine t_go (op := o_iload 12 3) (fe_X7_eveningLine 11) (fun _ _ => rfl) ?_
  refine t_go (op := o_ci 13 (-1)) (fe_X7_eveningLine 12) (fun _ _ => rfl) ?_
  refine t_ite (op := o_icmp 22 16 (fun x y => x = y) (fun _ _ => inferInstance)) (fe_X7_eveningLine 13) g_icmp (fun c1 => ?_) (fun c1 => ?_)
  · clear c1
    refine t_go (op := o_aload 17 0) (fe_X7_eveningLine 16) (fun _ _ => rfl) ?_
    refine t_go (op := o_ci 18 1) (fe_X7_eveningLine 17) (fun _ _ => rfl) ?_
    refine t_call (op := o_callV 21 71 2 6) (fe_X7_eveningLine 18) (g_callV hS (show (lay 4).1 = 6 by decide) (by decide) rfl rfl rfl (Nat.le_of_ble_eq_true rfl)) ?_
    refine M_eq (c_wrong (c := 1) hS hC) ?_
    refine t_ret (op := o_zret) (fe_X7_eveningLine 21) (g_zret (Or.inl rfl)) ?_
    exact hq _ (KVF_w hs)
  · exact absurd (by decide) c1
theorem k_v5 {d : Nat} {h0 h : AHP} {e g : Nat} {ch : Nat → Nat} {len i m : Nat} {W : Nat → List Nat} {L : ES} (hS0 : Std h0) (he : (lay e).1 = 0) (he5 : 5 ≤ e) (hg : (lay g).1 = 3) (hg5 : 5 ≤ g) (hge : g + 12 < e) (hK0 : NK h0 g W m) (hs : KVs h0 h e ch len i L) (hw : whP (tkT ch len) 7 i 0 5) (h40 : L.length = 40) {Q : Option Value → AHP → Prop} (hq : ∀ h2, KVF h0 h2 e (wrF (tkT ch len) 5 i 0) → Q (some (.int 0)) h2) : MM (d + 5) 83 [.ref 4, .ref e, .ref g] h (fun v h2 => Q v h2) := by
  refine ⟨Nat.le_of_ble_eq_true rfl, ?_⟩
  have hS := hs.1.std hS0
  have hC := hs.2.1
  obtain ⟨K6, hK6, eK⟩ : ∃ x, h.2.2.1 2 6 = x ∧ x = 200000 + kyN (tkT ch len i) := ⟨_, hC.key, rfl⟩
  have hB6 := hC.b i
  have bK : 200000 ≤ K6 ∧ K6 < 200025 := by have := ky_le hB6; omega
  have eK2 : K6 - 200000 = kyN (tkT ch len i) := by omega
  refine t_go (op := o_aload 1 0) (fe_X7_eveningLine 0) (fun _ _ => rfl) ?_
  refine t_go (op := o_getR 4 6 0) (fe_X7_eveningLine 1) (g_getR hS (show (lay 4).1 = 6 by decide) (by decide) (fr_6_0 hS) (by decide)) ?_
  refine t_go (op := o_getR 7 8 6) (fe_X7_eveningLine 4) (g_getR hS (by decide) (by decide) hK6 (by omega)) ?_
  refine t_call (op := o_callS 10 1 1) (fe_X7_eveningLine 7) (g_callS rfl rfl rfl (Nat.le_of_ble_eq_true rfl)) ?_
  refine M_eq (c_actOf eK (by have := ky_le hB6; omega)) ?_
  rw [ac_y (q := (tkT ch len i).2.2.1 - 7) ⟨hw.2.1, by have := hw.2.2.1; omega⟩ (by have := hw.2.2; omega)]
  refine t_go (op := o_istore 11 3) (fe_X7_eveningLine 10) (fun _ _ => rfl) ?_
  refine t_go (op := o_iload 12 3) (fe_X7_eveningLine 11) (fun _ _ => rfl) ?_
  refine t_go (op := o_ci 13 (-1)) (fe_X7_eveningLine 12) (fun _ _ => rfl) ?_
  refine t_ite (op := o_icmp 22 16 (fun x y => x = y) (fun _ _ => inferInstance)) (fe_X7_eveningLine 13) g_icmp (fun c1 => ?_) (fun c1 => ?_)
  · exact absurd c1 (nI_m1 (by have := hw.2.2; omega))
  · refine t_go (op := o_aload 23 1) (fe_X7_eveningLine 22) (fun _ _ => rfl) ?_
    refine t_go (op := o_getI 26 0 3) (fe_X7_eveningLine 23) (g_getI hS he (by decide)) ?_
    rw [hs.2.2.1]
    refine t_go (op := o_ci 28 40) (fe_X7_eveningLine 26) (fun _ _ => rfl) ?_
    refine t_ite (op := o_icmp 31 37 (fun x y => x < y) (fun _ _ => inferInstance)) (fe_X7_eveningLine 28) g_icmp (fun c2 => ?_) (fun c2 => ?_)
    · exact absurd (show nI L.length < 40 from c2) (by rw [h40]; decide)
    · refine t_go (op := o_aload 32 0) (fe_X7_eveningLine 31) (fun _ _ => rfl) ?_
      refine t_go (op := o_ci 33 5) (fe_X7_eveningLine 32) (fun _ _ => rfl) ?_
      refine t_call (op := o_callV 36 71 2 6) (fe_X7_eveningLine 33) (g_callV hS (show (lay 4).1 = 6 by decide) (by decide) rfl rfl rfl (Nat.le_of_ble_eq_true rfl)) ?_
      refine M_eq (c_wrong (c := 5) hS hC) ?_
      refine t_ret (op := o_zret) (fe_X7_eveningLine 36) (g_zret (Or.inl rfl)) ?_
      exact hq _ (KVF_w hs)
theorem k_q0 {d : Nat} {h0 h : AHP} {e g : Nat} {ch : Nat → Nat} {len i m : Nat} {W : Nat → List Nat} {L : ES} (hS0 : Std h0) (he : (lay e).1 = 0) (he5 : 5 ≤ e) (hg : (lay g).1 = 3) (hg5 : 5 ≤ g) (hge : g + 12 < e) (hK0 : NK h0 g W m) (hs : KVs h0 h e ch len i L) (h40 : L.length < 40) (hw : isWd (tkT ch len) 7 i 0) {Q : Option Value → AHP → Prop} (hq : ∀ h2, KVs h0 h2 e ch len (i + 1) L → TT (d + 5) 83 103 [some (.ref 4), some (.ref e), some (.ref g), some (.int 0), some (.int (-1)), some (.int 0)] [] h2 Q) : MM (d + 5) 83 [.ref 4, .ref e, .ref g] h (fun v h2 => Q v h2) := by
  refine ⟨Nat.le_of_ble_eq_true rfl, ?_⟩
  have hS := hs.1.std hS0
  have hC := hs.2.1
  obtain ⟨K6, hK6, eK⟩ : ∃ x, h.2.2.1 2 6 = x ∧ x = 200000 + kyN (tkT ch len i) := ⟨_, hC.key, rfl⟩
  have hB6 := hC.b i
  have bK : 200000 ≤ K6 ∧ K6 < 200025 := by have := ky_le hB6; omega
  have eK2 : K6 - 200000 = kyN (tkT ch len i) := by omega
  refine t_go (op := o_aload 1 0) (fe_X7_eveningLine 0) (fun _ _ => rfl) ?_
  refine t_go (op := o_getR 4 6 0) (fe_X7_eveningLine 1) (g_getR hS (show (lay 4).1 = 6 by decide) (by decide) (fr_6_0 hS) (by decide)) ?_
  refine t_go (op := o_getR 7 8 6) (fe_X7_eveningLine 4) (g_getR hS (by decide) (by decide) hK6 (by omega)) ?_
  refine t_call (op := o_callS 10 1 1) (fe_X7_eveningLine 7) (g_callS rfl rfl rfl (Nat.le_of_ble_eq_true rfl)) ?_
  refine M_eq (c_actOf eK (by have := ky_le hB6; omega)) ?_
  rw [show acF (kyN (tkT ch len i)) = 0 from ac_y (q := 0) ⟨hw.2.1, hw.2.2⟩ (by decide)]
  refine t_go (op := o_istore 11 3) (fe_X7_eveningLine 10) (fun _ _ => rfl) ?_
  refine t_go (op := o_iload 12 3) (fe_X7_eveningLine 11) (fun _ _ => rfl) ?_
  refine t_go (op := o_ci 13 (-1)) (fe_X7_eveningLine 12) (fun _ _ => rfl) ?_
  refine t_ite (op := o_icmp 22 16 (fun x y => x = y) (fun _ _ => inferInstance)) (fe_X7_eveningLine 13) g_icmp (fun c1 => ?_) (fun c1 => ?_)
  · exact absurd c1 (by decide)
  · clear c1
    refine t_go (op := o_aload 23 1) (fe_X7_eveningLine 22) (fun _ _ => rfl) ?_
    refine t_go (op := o_getI 26 0 3) (fe_X7_eveningLine 23) (g_getI hS he (by decide)) ?_
    rw [hs.2.2.1]
    refine t_go (op := o_ci 28 40) (fe_X7_eveningLine 26) (fun _ _ => rfl) ?_
    refine t_ite (op := o_icmp 31 37 (fun x y => x < y) (fun _ _ => inferInstance)) (fe_X7_eveningLine 28) g_icmp (fun c2 => ?_) (fun c2 => ?_)
    · refine t_go (op := o_aload 38 0) (fe_X7_eveningLine 37) (fun _ _ => rfl) ?_
      refine t_go (op := o_getR 41 6 0) (fe_X7_eveningLine 38) (g_getR hS (show (lay 4).1 = 6 by decide) (by decide) (fr_6_0 hS) (by decide)) ?_
      refine t_call (op := o_callV 44 97 1 8) (fe_X7_eveningLine 41) (g_callV hS (by decide) (by decide) rfl rfl rfl (Nat.le_of_ble_eq_true rfl)) ?_
      refine M_mono ?_ (c_toNext hS hC)
      rintro _ k2 ⟨rfl, hT, hC2⟩
      have hs1 := KVs_T he5 hs hT hC2
      replace hS := hs1.1.std hS0
      have hK1 := NK_v hs1.1 hge hg5 hK0
      refine t_go (op := o_ci 45 (-1)) (fe_X7_eveningLine 44) (fun _ _ => rfl) ?_
      refine t_go (op := o_istore 47 4) (fe_X7_eveningLine 45) (fun _ _ => rfl) ?_
      refine t_go (op := o_iload 48 3) (fe_X7_eveningLine 47) (fun _ _ => rfl) ?_
      refine t_call (op := o_callS 51 2 1) (fe_X7_eveningLine 48) (g_callS rfl rfl rfl (Nat.le_of_ble_eq_true rfl)) ?_
      refine M_eq c_has0 ?_
      refine t_ite (op := o_if 54 69 (fun x => x = 0) (fun _ => inferInstance)) (fe_X7_eveningLine 51) g_if (fun c3 => ?_) (fun c3 => ?_)
      · clear c3
        refine t_go (op := o_ci 70 0) (fe_X7_eveningLine 69) (fun _ _ => rfl) ?_
        refine t_go (op := o_istore 72 5) (fe_X7_eveningLine 70) (fun _ _ => rfl) ?_
        refine t_go (op := o_iload 73 3) (fe_X7_eveningLine 72) (fun _ _ => rfl) ?_
        refine t_go (op := o_ci 74 2) (fe_X7_eveningLine 73) (fun _ _ => rfl) ?_
        refine t_ite (op := o_icmp 89 77 (fun x y => x = y) (fun _ _ => inferInstance)) (fe_X7_eveningLine 74) g_icmp (fun c4 => ?_) (fun c4 => ?_)
        · exact absurd c4 (by decide)
        · clear c4
          refine t_go (op := o_iload 90 3) (fe_X7_eveningLine 89) (fun _ _ => rfl) ?_
          refine t_go (op := o_ci 91 3) (fe_X7_eveningLine 90) (fun _ _ => rfl) ?_
          refine t_ite (op := o_icmp 103 94 (fun x y => x = y) (fun _ _ => inferInstance)) (fe_X7_eveningLine 91) g_icmp (fun c5 => ?_) (fun c5 => ?_)
          · exact absurd c5 (by decide)
          · clear c5
            exact hq _ hs1
      · exact absurd (by decide) c3
    · exact absurd (nI_lt (b := 40) h40 (by decide)) c2
theorem k_q11 {d : Nat} {h0 h : AHP} {e g : Nat} {ch : Nat → Nat} {len i m : Nat} {W : Nat → List Nat} {L : ES} (hS0 : Std h0) (he : (lay e).1 = 0) (he5 : 5 ≤ e) (hg : (lay g).1 = 3) (hg5 : 5 ≤ g) (hge : g + 12 < e) (hK0 : NK h0 g W m) (hs : KVs h0 h e ch len i L) (h40 : L.length < 40) (hw : isWd (tkT ch len) 8 i 0) (hN : ¬ nmP (tkT ch len) (i + 1)) {Q : Option Value → AHP → Prop} (hq : ∀ h2, KVF h0 h2 e (wrF (tkT ch len) 1 (i + 1) 0) → Q (some (.int 0)) h2) : MM (d + 5) 83 [.ref 4, .ref e, .ref g] h (fun v h2 => Q v h2) := by
  refine ⟨Nat.le_of_ble_eq_true rfl, ?_⟩
  have hS := hs.1.std hS0
  have hC := hs.2.1
  obtain ⟨K6, hK6, eK⟩ : ∃ x, h.2.2.1 2 6 = x ∧ x = 200000 + kyN (tkT ch len i) := ⟨_, hC.key, rfl⟩
  have hB6 := hC.b i
  have bK : 200000 ≤ K6 ∧ K6 < 200025 := by have := ky_le hB6; omega
  have eK2 : K6 - 200000 = kyN (tkT ch len i) := by omega
  refine t_go (op := o_aload 1 0) (fe_X7_eveningLine 0) (fun _ _ => rfl) ?_
  refine t_go (op := o_getR 4 6 0) (fe_X7_eveningLine 1) (g_getR hS (show (lay 4).1 = 6 by decide) (by decide) (fr_6_0 hS) (by decide)) ?_
  refine t_go (op := o_getR 7 8 6) (fe_X7_eveningLine 4) (g_getR hS (by decide) (by decide) hK6 (by omega)) ?_
  refine t_call (op := o_callS 10 1 1) (fe_X7_eveningLine 7) (g_callS rfl rfl rfl (Nat.le_of_ble_eq_true rfl)) ?_
  refine M_eq (c_actOf eK (by have := ky_le hB6; omega)) ?_
  rw [show acF (kyN (tkT ch len i)) = 1 from ac_y (q := 1) ⟨hw.2.1, hw.2.2⟩ (by decide)]
  refine t_go (op := o_istore 11 3) (fe_X7_eveningLine 10) (fun _ _ => rfl) ?_
  refine t_go (op := o_iload 12 3) (fe_X7_eveningLine 11) (fun _ _ => rfl) ?_
  refine t_go (op := o_ci 13 (-1)) (fe_X7_eveningLine 12) (fun _ _ => rfl) ?_
  refine t_ite (op := o_icmp 22 16 (fun x y => x = y) (fun _ _ => inferInstance)) (fe_X7_eveningLine 13) g_icmp (fun c1 => ?_) (fun c1 => ?_)
  · exact absurd c1 (by decide)
  · clear c1
    refine t_go (op := o_aload 23 1) (fe_X7_eveningLine 22) (fun _ _ => rfl) ?_
    refine t_go (op := o_getI 26 0 3) (fe_X7_eveningLine 23) (g_getI hS he (by decide)) ?_
    rw [hs.2.2.1]
    refine t_go (op := o_ci 28 40) (fe_X7_eveningLine 26) (fun _ _ => rfl) ?_
    refine t_ite (op := o_icmp 31 37 (fun x y => x < y) (fun _ _ => inferInstance)) (fe_X7_eveningLine 28) g_icmp (fun c2 => ?_) (fun c2 => ?_)
    · refine t_go (op := o_aload 38 0) (fe_X7_eveningLine 37) (fun _ _ => rfl) ?_
      refine t_go (op := o_getR 41 6 0) (fe_X7_eveningLine 38) (g_getR hS (show (lay 4).1 = 6 by decide) (by decide) (fr_6_0 hS) (by decide)) ?_
      refine t_call (op := o_callV 44 97 1 8) (fe_X7_eveningLine 41) (g_callV hS (by decide) (by decide) rfl rfl rfl (Nat.le_of_ble_eq_true rfl)) ?_
      refine M_mono ?_ (c_toNext hS hC)
      rintro _ k2 ⟨rfl, hT, hC2⟩
      have hs1 := KVs_T he5 hs hT hC2
      replace hS := hs1.1.std hS0
      have hK1 := NK_v hs1.1 hge hg5 hK0
      refine t_go (op := o_ci 45 (-1)) (fe_X7_eveningLine 44) (fun _ _ => rfl) ?_
      refine t_go (op := o_istore 47 4) (fe_X7_eveningLine 45) (fun _ _ => rfl) ?_
      refine t_go (op := o_iload 48 3) (fe_X7_eveningLine 47) (fun _ _ => rfl) ?_
      refine t_call (op := o_callS 51 2 1) (fe_X7_eveningLine 48) (g_callS rfl rfl rfl (Nat.le_of_ble_eq_true rfl)) ?_
      refine M_eq c_has1 ?_
      refine t_ite (op := o_if 54 69 (fun x => x = 0) (fun _ => inferInstance)) (fe_X7_eveningLine 51) g_if (fun c3 => ?_) (fun c3 => ?_)
      · exact absurd c3 (by decide)
      · clear c3
        refine t_go (op := o_aload 55 0) (fe_X7_eveningLine 54) (fun _ _ => rfl) ?_
        refine t_go (op := o_aload 56 2) (fe_X7_eveningLine 55) (fun _ _ => rfl) ?_
        refine t_call (op := o_callV 59 84 2 6) (fe_X7_eveningLine 56) (g_callV hS (show (lay 4).1 = 6 by decide) (by decide) rfl rfl rfl (Nat.le_of_ble_eq_true rfl)) ?_
        refine M_eq (c_tE1 hS hg hC2 hK1 hN) ?_
        refine t_go (op := o_istore 61 4) (fe_X7_eveningLine 59) (fun _ _ => rfl) ?_
        refine t_go (op := o_iload 63 4) (fe_X7_eveningLine 61) (fun _ _ => rfl) ?_
        refine t_go (op := o_ci 64 (-1)) (fe_X7_eveningLine 63) (fun _ _ => rfl) ?_
        refine t_ite (op := o_icmp 69 67 (fun x y => x = y) (fun _ _ => inferInstance)) (fe_X7_eveningLine 64) g_icmp (fun c4 => ?_) (fun c4 => ?_)
        · clear c4
          refine t_go (op := o_ci 68 0) (fe_X7_eveningLine 67) (fun _ _ => rfl) ?_
          refine t_ret (op := o_zret) (fe_X7_eveningLine 68) (g_zret (Or.inl rfl)) ?_
          exact hq _ (KVF_w hs1)
        · exact absurd (by decide) c4
    · exact absurd (nI_lt (b := 40) h40 (by decide)) c2
theorem k_q12 {d : Nat} {h0 h : AHP} {e g : Nat} {ch : Nat → Nat} {len i m : Nat} {W : Nat → List Nat} {L : ES} (hS0 : Std h0) (he : (lay e).1 = 0) (he5 : 5 ≤ e) (hg : (lay g).1 = 3) (hg5 : 5 ≤ g) (hge : g + 12 < e) (hK0 : NK h0 g W m) (hs : KVs h0 h e ch len i L) (h40 : L.length < 40) (hw : isWd (tkT ch len) 8 i 0) (hN : nmP (tkT ch len) (i + 1)) (hu : ¬ ixV W (tkT ch len (i + 1)).2.2.2.1 m 0 < m) {Q : Option Value → AHP → Prop} (hq : ∀ h2, KVF h0 h2 e (wrF (tkT ch len) 2 (i + 1) 0) → Q (some (.int 0)) h2) : MM (d + 5) 83 [.ref 4, .ref e, .ref g] h (fun v h2 => Q v h2) := by
  refine ⟨Nat.le_of_ble_eq_true rfl, ?_⟩
  have hS := hs.1.std hS0
  have hC := hs.2.1
  obtain ⟨K6, hK6, eK⟩ : ∃ x, h.2.2.1 2 6 = x ∧ x = 200000 + kyN (tkT ch len i) := ⟨_, hC.key, rfl⟩
  have hB6 := hC.b i
  have bK : 200000 ≤ K6 ∧ K6 < 200025 := by have := ky_le hB6; omega
  have eK2 : K6 - 200000 = kyN (tkT ch len i) := by omega
  refine t_go (op := o_aload 1 0) (fe_X7_eveningLine 0) (fun _ _ => rfl) ?_
  refine t_go (op := o_getR 4 6 0) (fe_X7_eveningLine 1) (g_getR hS (show (lay 4).1 = 6 by decide) (by decide) (fr_6_0 hS) (by decide)) ?_
  refine t_go (op := o_getR 7 8 6) (fe_X7_eveningLine 4) (g_getR hS (by decide) (by decide) hK6 (by omega)) ?_
  refine t_call (op := o_callS 10 1 1) (fe_X7_eveningLine 7) (g_callS rfl rfl rfl (Nat.le_of_ble_eq_true rfl)) ?_
  refine M_eq (c_actOf eK (by have := ky_le hB6; omega)) ?_
  rw [show acF (kyN (tkT ch len i)) = 1 from ac_y (q := 1) ⟨hw.2.1, hw.2.2⟩ (by decide)]
  refine t_go (op := o_istore 11 3) (fe_X7_eveningLine 10) (fun _ _ => rfl) ?_
  refine t_go (op := o_iload 12 3) (fe_X7_eveningLine 11) (fun _ _ => rfl) ?_
  refine t_go (op := o_ci 13 (-1)) (fe_X7_eveningLine 12) (fun _ _ => rfl) ?_
  refine t_ite (op := o_icmp 22 16 (fun x y => x = y) (fun _ _ => inferInstance)) (fe_X7_eveningLine 13) g_icmp (fun c1 => ?_) (fun c1 => ?_)
  · exact absurd c1 (by decide)
  · clear c1
    refine t_go (op := o_aload 23 1) (fe_X7_eveningLine 22) (fun _ _ => rfl) ?_
    refine t_go (op := o_getI 26 0 3) (fe_X7_eveningLine 23) (g_getI hS he (by decide)) ?_
    rw [hs.2.2.1]
    refine t_go (op := o_ci 28 40) (fe_X7_eveningLine 26) (fun _ _ => rfl) ?_
    refine t_ite (op := o_icmp 31 37 (fun x y => x < y) (fun _ _ => inferInstance)) (fe_X7_eveningLine 28) g_icmp (fun c2 => ?_) (fun c2 => ?_)
    · refine t_go (op := o_aload 38 0) (fe_X7_eveningLine 37) (fun _ _ => rfl) ?_
      refine t_go (op := o_getR 41 6 0) (fe_X7_eveningLine 38) (g_getR hS (show (lay 4).1 = 6 by decide) (by decide) (fr_6_0 hS) (by decide)) ?_
      refine t_call (op := o_callV 44 97 1 8) (fe_X7_eveningLine 41) (g_callV hS (by decide) (by decide) rfl rfl rfl (Nat.le_of_ble_eq_true rfl)) ?_
      refine M_mono ?_ (c_toNext hS hC)
      rintro _ k2 ⟨rfl, hT, hC2⟩
      have hs1 := KVs_T he5 hs hT hC2
      replace hS := hs1.1.std hS0
      have hK1 := NK_v hs1.1 hge hg5 hK0
      refine t_go (op := o_ci 45 (-1)) (fe_X7_eveningLine 44) (fun _ _ => rfl) ?_
      refine t_go (op := o_istore 47 4) (fe_X7_eveningLine 45) (fun _ _ => rfl) ?_
      refine t_go (op := o_iload 48 3) (fe_X7_eveningLine 47) (fun _ _ => rfl) ?_
      refine t_call (op := o_callS 51 2 1) (fe_X7_eveningLine 48) (g_callS rfl rfl rfl (Nat.le_of_ble_eq_true rfl)) ?_
      refine M_eq c_has1 ?_
      refine t_ite (op := o_if 54 69 (fun x => x = 0) (fun _ => inferInstance)) (fe_X7_eveningLine 51) g_if (fun c3 => ?_) (fun c3 => ?_)
      · exact absurd c3 (by decide)
      · clear c3
        refine t_go (op := o_aload 55 0) (fe_X7_eveningLine 54) (fun _ _ => rfl) ?_
        refine t_go (op := o_aload 56 2) (fe_X7_eveningLine 55) (fun _ _ => rfl) ?_
        refine t_call (op := o_callV 59 84 2 6) (fe_X7_eveningLine 56) (g_callV hS (show (lay 4).1 = 6 by decide) (by decide) rfl rfl rfl (Nat.le_of_ble_eq_true rfl)) ?_
        refine M_eq (c_tE2 hS hg hC2 hK1 hN hu) ?_
        refine t_go (op := o_istore 61 4) (fe_X7_eveningLine 59) (fun _ _ => rfl) ?_
        refine t_go (op := o_iload 63 4) (fe_X7_eveningLine 61) (fun _ _ => rfl) ?_
        refine t_go (op := o_ci 64 (-1)) (fe_X7_eveningLine 63) (fun _ _ => rfl) ?_
        refine t_ite (op := o_icmp 69 67 (fun x y => x = y) (fun _ _ => inferInstance)) (fe_X7_eveningLine 64) g_icmp (fun c4 => ?_) (fun c4 => ?_)
        · clear c4
          refine t_go (op := o_ci 68 0) (fe_X7_eveningLine 67) (fun _ _ => rfl) ?_
          refine t_ret (op := o_zret) (fe_X7_eveningLine 68) (g_zret (Or.inl rfl)) ?_
          exact hq _ (KVF_w hs1)
        · exact absurd (by decide) c4
    · exact absurd (nI_lt (b := 40) h40 (by decide)) c2
theorem k_q1Y {d : Nat} {h0 h : AHP} {e g : Nat} {ch : Nat → Nat} {len i m : Nat} {W : Nat → List Nat} {L : ES} (hS0 : Std h0) (he : (lay e).1 = 0) (he5 : 5 ≤ e) (hg : (lay g).1 = 3) (hg5 : 5 ≤ g) (hge : g + 12 < e) (hK0 : NK h0 g W m) (hs : KVs h0 h e ch len i L) (h40 : L.length < 40) (hw : isWd (tkT ch len) 8 i 0) (hN : nmP (tkT ch len) (i + 1)) (hu : ixV W (tkT ch len (i + 1)).2.2.2.1 m 0 < m) {Q : Option Value → AHP → Prop} (hq : ∀ h2, KVs h0 h2 e ch len (i + 2) L → TT (d + 5) 83 103 [some (.ref 4), some (.ref e), some (.ref g), some (.int 1), some (.int (nI (ixV W (tkT ch len (i + 1)).2.2.2.1 m 0))), some (.int 0)] [] h2 Q) : MM (d + 5) 83 [.ref 4, .ref e, .ref g] h (fun v h2 => Q v h2) := by
  refine ⟨Nat.le_of_ble_eq_true rfl, ?_⟩
  have hS := hs.1.std hS0
  have hC := hs.2.1
  obtain ⟨K6, hK6, eK⟩ : ∃ x, h.2.2.1 2 6 = x ∧ x = 200000 + kyN (tkT ch len i) := ⟨_, hC.key, rfl⟩
  have hB6 := hC.b i
  have bK : 200000 ≤ K6 ∧ K6 < 200025 := by have := ky_le hB6; omega
  have eK2 : K6 - 200000 = kyN (tkT ch len i) := by omega
  refine t_go (op := o_aload 1 0) (fe_X7_eveningLine 0) (fun _ _ => rfl) ?_
  refine t_go (op := o_getR 4 6 0) (fe_X7_eveningLine 1) (g_getR hS (show (lay 4).1 = 6 by decide) (by decide) (fr_6_0 hS) (by decide)) ?_
  refine t_go (op := o_getR 7 8 6) (fe_X7_eveningLine 4) (g_getR hS (by decide) (by decide) hK6 (by omega)) ?_
  refine t_call (op := o_callS 10 1 1) (fe_X7_eveningLine 7) (g_callS rfl rfl rfl (Nat.le_of_ble_eq_true rfl)) ?_
  refine M_eq (c_actOf eK (by have := ky_le hB6; omega)) ?_
  rw [show acF (kyN (tkT ch len i)) = 1 from ac_y (q := 1) ⟨hw.2.1, hw.2.2⟩ (by decide)]
  refine t_go (op := o_istore 11 3) (fe_X7_eveningLine 10) (fun _ _ => rfl) ?_
  refine t_go (op := o_iload 12 3) (fe_X7_eveningLine 11) (fun _ _ => rfl) ?_
  refine t_go (op := o_ci 13 (-1)) (fe_X7_eveningLine 12) (fun _ _ => rfl) ?_
  refine t_ite (op := o_icmp 22 16 (fun x y => x = y) (fun _ _ => inferInstance)) (fe_X7_eveningLine 13) g_icmp (fun c1 => ?_) (fun c1 => ?_)
  · exact absurd c1 (by decide)
  · clear c1
    refine t_go (op := o_aload 23 1) (fe_X7_eveningLine 22) (fun _ _ => rfl) ?_
    refine t_go (op := o_getI 26 0 3) (fe_X7_eveningLine 23) (g_getI hS he (by decide)) ?_
    rw [hs.2.2.1]
    refine t_go (op := o_ci 28 40) (fe_X7_eveningLine 26) (fun _ _ => rfl) ?_
    refine t_ite (op := o_icmp 31 37 (fun x y => x < y) (fun _ _ => inferInstance)) (fe_X7_eveningLine 28) g_icmp (fun c2 => ?_) (fun c2 => ?_)
    · refine t_go (op := o_aload 38 0) (fe_X7_eveningLine 37) (fun _ _ => rfl) ?_
      refine t_go (op := o_getR 41 6 0) (fe_X7_eveningLine 38) (g_getR hS (show (lay 4).1 = 6 by decide) (by decide) (fr_6_0 hS) (by decide)) ?_
      refine t_call (op := o_callV 44 97 1 8) (fe_X7_eveningLine 41) (g_callV hS (by decide) (by decide) rfl rfl rfl (Nat.le_of_ble_eq_true rfl)) ?_
      refine M_mono ?_ (c_toNext hS hC)
      rintro _ k2 ⟨rfl, hT, hC2⟩
      have hs1 := KVs_T he5 hs hT hC2
      replace hS := hs1.1.std hS0
      have hK1 := NK_v hs1.1 hge hg5 hK0
      refine t_go (op := o_ci 45 (-1)) (fe_X7_eveningLine 44) (fun _ _ => rfl) ?_
      refine t_go (op := o_istore 47 4) (fe_X7_eveningLine 45) (fun _ _ => rfl) ?_
      refine t_go (op := o_iload 48 3) (fe_X7_eveningLine 47) (fun _ _ => rfl) ?_
      refine t_call (op := o_callS 51 2 1) (fe_X7_eveningLine 48) (g_callS rfl rfl rfl (Nat.le_of_ble_eq_true rfl)) ?_
      refine M_eq c_has1 ?_
      refine t_ite (op := o_if 54 69 (fun x => x = 0) (fun _ => inferInstance)) (fe_X7_eveningLine 51) g_if (fun c3 => ?_) (fun c3 => ?_)
      · exact absurd c3 (by decide)
      · clear c3
        refine t_go (op := o_aload 55 0) (fe_X7_eveningLine 54) (fun _ _ => rfl) ?_
        refine t_go (op := o_aload 56 2) (fe_X7_eveningLine 55) (fun _ _ => rfl) ?_
        refine t_call (op := o_callV 59 84 2 6) (fe_X7_eveningLine 56) (g_callV hS (show (lay 4).1 = 6 by decide) (by decide) rfl rfl rfl (Nat.le_of_ble_eq_true rfl)) ?_
        refine M_mono ?_ (c_tEY hS hg hC2 hK1 hN hu)
        rintro _ k5 ⟨rfl, hT5, hC5⟩
        have hs2 := KVs_T he5 hs1 hT5 hC5
        replace hS := hs2.1.std hS0
        refine t_go (op := o_istore 61 4) (fe_X7_eveningLine 59) (fun _ _ => rfl) ?_
        refine t_go (op := o_iload 63 4) (fe_X7_eveningLine 61) (fun _ _ => rfl) ?_
        refine t_go (op := o_ci 64 (-1)) (fe_X7_eveningLine 63) (fun _ _ => rfl) ?_
        refine t_ite (op := o_icmp 69 67 (fun x y => x = y) (fun _ _ => inferInstance)) (fe_X7_eveningLine 64) g_icmp (fun c4 => ?_) (fun c4 => ?_)
        · exact absurd c4 (nI_m1 (by have := hK0.2.1; omega))
        · refine t_go (op := o_ci 70 0) (fe_X7_eveningLine 69) (fun _ _ => rfl) ?_
          refine t_go (op := o_istore 72 5) (fe_X7_eveningLine 70) (fun _ _ => rfl) ?_
          refine t_go (op := o_iload 73 3) (fe_X7_eveningLine 72) (fun _ _ => rfl) ?_
          refine t_go (op := o_ci 74 2) (fe_X7_eveningLine 73) (fun _ _ => rfl) ?_
          refine t_ite (op := o_icmp 89 77 (fun x y => x = y) (fun _ _ => inferInstance)) (fe_X7_eveningLine 74) g_icmp (fun c5 => ?_) (fun c5 => ?_)
          · exact absurd c5 (by decide)
          · clear c5
            refine t_go (op := o_iload 90 3) (fe_X7_eveningLine 89) (fun _ _ => rfl) ?_
            refine t_go (op := o_ci 91 3) (fe_X7_eveningLine 90) (fun _ _ => rfl) ?_
            refine t_ite (op := o_icmp 103 94 (fun x y => x = y) (fun _ _ => inferInstance)) (fe_X7_eveningLine 91) g_icmp (fun c6 => ?_) (fun c6 => ?_)
            · exact absurd c6 (by decide)
            · clear c6
              exact hq _ hs2
    · exact absurd (nI_lt (b := 40) h40 (by decide)) c2
theorem k_q21 {d : Nat} {h0 h : AHP} {e g : Nat} {ch : Nat → Nat} {len i m : Nat} {W : Nat → List Nat} {L : ES} (hS0 : Std h0) (he : (lay e).1 = 0) (he5 : 5 ≤ e) (hg : (lay g).1 = 3) (hg5 : 5 ≤ g) (hge : g + 12 < e) (hK0 : NK h0 g W m) (hs : KVs h0 h e ch len i L) (h40 : L.length < 40) (hw : isWd (tkT ch len) 9 i 0) (hN : ¬ nmP (tkT ch len) (i + 1)) {Q : Option Value → AHP → Prop} (hq : ∀ h2, KVF h0 h2 e (wrF (tkT ch len) 1 (i + 1) 0) → Q (some (.int 0)) h2) : MM (d + 5) 83 [.ref 4, .ref e, .ref g] h (fun v h2 => Q v h2) := by
  refine ⟨Nat.le_of_ble_eq_true rfl, ?_⟩
  have hS := hs.1.std hS0
  have hC := hs.2.1
  obtain ⟨K6, hK6, eK⟩ : ∃ x, h.2.2.1 2 6 = x ∧ x = 200000 + kyN (tkT ch len i) := ⟨_, hC.key, rfl⟩
  have hB6 := hC.b i
  have bK : 200000 ≤ K6 ∧ K6 < 200025 := by have := ky_le hB6; omega
  have eK2 : K6 - 200000 = kyN (tkT ch len i) := by omega
  refine t_go (op := o_aload 1 0) (fe_X7_eveningLine 0) (fun _ _ => rfl) ?_
  refine t_go (op := o_getR 4 6 0) (fe_X7_eveningLine 1) (g_getR hS (show (lay 4).1 = 6 by decide) (by decide) (fr_6_0 hS) (by decide)) ?_
  refine t_go (op := o_getR 7 8 6) (fe_X7_eveningLine 4) (g_getR hS (by decide) (by decide) hK6 (by omega)) ?_
  refine t_call (op := o_callS 10 1 1) (fe_X7_eveningLine 7) (g_callS rfl rfl rfl (Nat.le_of_ble_eq_true rfl)) ?_
  refine M_eq (c_actOf eK (by have := ky_le hB6; omega)) ?_
  rw [show acF (kyN (tkT ch len i)) = 2 from ac_y (q := 2) ⟨hw.2.1, hw.2.2⟩ (by decide)]
  refine t_go (op := o_istore 11 3) (fe_X7_eveningLine 10) (fun _ _ => rfl) ?_
  refine t_go (op := o_iload 12 3) (fe_X7_eveningLine 11) (fun _ _ => rfl) ?_
  refine t_go (op := o_ci 13 (-1)) (fe_X7_eveningLine 12) (fun _ _ => rfl) ?_
  refine t_ite (op := o_icmp 22 16 (fun x y => x = y) (fun _ _ => inferInstance)) (fe_X7_eveningLine 13) g_icmp (fun c1 => ?_) (fun c1 => ?_)
  · exact absurd c1 (by decide)
  · clear c1
    refine t_go (op := o_aload 23 1) (fe_X7_eveningLine 22) (fun _ _ => rfl) ?_
    refine t_go (op := o_getI 26 0 3) (fe_X7_eveningLine 23) (g_getI hS he (by decide)) ?_
    rw [hs.2.2.1]
    refine t_go (op := o_ci 28 40) (fe_X7_eveningLine 26) (fun _ _ => rfl) ?_
    refine t_ite (op := o_icmp 31 37 (fun x y => x < y) (fun _ _ => inferInstance)) (fe_X7_eveningLine 28) g_icmp (fun c2 => ?_) (fun c2 => ?_)
    · refine t_go (op := o_aload 38 0) (fe_X7_eveningLine 37) (fun _ _ => rfl) ?_
      refine t_go (op := o_getR 41 6 0) (fe_X7_eveningLine 38) (g_getR hS (show (lay 4).1 = 6 by decide) (by decide) (fr_6_0 hS) (by decide)) ?_
      refine t_call (op := o_callV 44 97 1 8) (fe_X7_eveningLine 41) (g_callV hS (by decide) (by decide) rfl rfl rfl (Nat.le_of_ble_eq_true rfl)) ?_
      refine M_mono ?_ (c_toNext hS hC)
      rintro _ k2 ⟨rfl, hT, hC2⟩
      have hs1 := KVs_T he5 hs hT hC2
      replace hS := hs1.1.std hS0
      have hK1 := NK_v hs1.1 hge hg5 hK0
      refine t_go (op := o_ci 45 (-1)) (fe_X7_eveningLine 44) (fun _ _ => rfl) ?_
      refine t_go (op := o_istore 47 4) (fe_X7_eveningLine 45) (fun _ _ => rfl) ?_
      refine t_go (op := o_iload 48 3) (fe_X7_eveningLine 47) (fun _ _ => rfl) ?_
      refine t_call (op := o_callS 51 2 1) (fe_X7_eveningLine 48) (g_callS rfl rfl rfl (Nat.le_of_ble_eq_true rfl)) ?_
      refine M_eq c_has2 ?_
      refine t_ite (op := o_if 54 69 (fun x => x = 0) (fun _ => inferInstance)) (fe_X7_eveningLine 51) g_if (fun c3 => ?_) (fun c3 => ?_)
      · exact absurd c3 (by decide)
      · clear c3
        refine t_go (op := o_aload 55 0) (fe_X7_eveningLine 54) (fun _ _ => rfl) ?_
        refine t_go (op := o_aload 56 2) (fe_X7_eveningLine 55) (fun _ _ => rfl) ?_
        refine t_call (op := o_callV 59 84 2 6) (fe_X7_eveningLine 56) (g_callV hS (show (lay 4).1 = 6 by decide) (by decide) rfl rfl rfl (Nat.le_of_ble_eq_true rfl)) ?_
        refine M_eq (c_tE1 hS hg hC2 hK1 hN) ?_
        refine t_go (op := o_istore 61 4) (fe_X7_eveningLine 59) (fun _ _ => rfl) ?_
        refine t_go (op := o_iload 63 4) (fe_X7_eveningLine 61) (fun _ _ => rfl) ?_
        refine t_go (op := o_ci 64 (-1)) (fe_X7_eveningLine 63) (fun _ _ => rfl) ?_
        refine t_ite (op := o_icmp 69 67 (fun x y => x = y) (fun _ _ => inferInstance)) (fe_X7_eveningLine 64) g_icmp (fun c4 => ?_) (fun c4 => ?_)
        · clear c4
          refine t_go (op := o_ci 68 0) (fe_X7_eveningLine 67) (fun _ _ => rfl) ?_
          refine t_ret (op := o_zret) (fe_X7_eveningLine 68) (g_zret (Or.inl rfl)) ?_
          exact hq _ (KVF_w hs1)
        · exact absurd (by decide) c4
    · exact absurd (nI_lt (b := 40) h40 (by decide)) c2
theorem k_q22 {d : Nat} {h0 h : AHP} {e g : Nat} {ch : Nat → Nat} {len i m : Nat} {W : Nat → List Nat} {L : ES} (hS0 : Std h0) (he : (lay e).1 = 0) (he5 : 5 ≤ e) (hg : (lay g).1 = 3) (hg5 : 5 ≤ g) (hge : g + 12 < e) (hK0 : NK h0 g W m) (hs : KVs h0 h e ch len i L) (h40 : L.length < 40) (hw : isWd (tkT ch len) 9 i 0) (hN : nmP (tkT ch len) (i + 1)) (hu : ¬ ixV W (tkT ch len (i + 1)).2.2.2.1 m 0 < m) {Q : Option Value → AHP → Prop} (hq : ∀ h2, KVF h0 h2 e (wrF (tkT ch len) 2 (i + 1) 0) → Q (some (.int 0)) h2) : MM (d + 5) 83 [.ref 4, .ref e, .ref g] h (fun v h2 => Q v h2) := by
  refine ⟨Nat.le_of_ble_eq_true rfl, ?_⟩
  have hS := hs.1.std hS0
  have hC := hs.2.1
  obtain ⟨K6, hK6, eK⟩ : ∃ x, h.2.2.1 2 6 = x ∧ x = 200000 + kyN (tkT ch len i) := ⟨_, hC.key, rfl⟩
  have hB6 := hC.b i
  have bK : 200000 ≤ K6 ∧ K6 < 200025 := by have := ky_le hB6; omega
  have eK2 : K6 - 200000 = kyN (tkT ch len i) := by omega
  refine t_go (op := o_aload 1 0) (fe_X7_eveningLine 0) (fun _ _ => rfl) ?_
  refine t_go (op := o_getR 4 6 0) (fe_X7_eveningLine 1) (g_getR hS (show (lay 4).1 = 6 by decide) (by decide) (fr_6_0 hS) (by decide)) ?_
  refine t_go (op := o_getR 7 8 6) (fe_X7_eveningLine 4) (g_getR hS (by decide) (by decide) hK6 (by omega)) ?_
  refine t_call (op := o_callS 10 1 1) (fe_X7_eveningLine 7) (g_callS rfl rfl rfl (Nat.le_of_ble_eq_true rfl)) ?_
  refine M_eq (c_actOf eK (by have := ky_le hB6; omega)) ?_
  rw [show acF (kyN (tkT ch len i)) = 2 from ac_y (q := 2) ⟨hw.2.1, hw.2.2⟩ (by decide)]
  refine t_go (op := o_istore 11 3) (fe_X7_eveningLine 10) (fun _ _ => rfl) ?_
  refine t_go (op := o_iload 12 3) (fe_X7_eveningLine 11) (fun _ _ => rfl) ?_
  refine t_go (op := o_ci 13 (-1)) (fe_X7_eveningLine 12) (fun _ _ => rfl) ?_
  refine t_ite (op := o_icmp 22 16 (fun x y => x = y) (fun _ _ => inferInstance)) (fe_X7_eveningLine 13) g_icmp (fun c1 => ?_) (fun c1 => ?_)
  · exact absurd c1 (by decide)
  · clear c1
    refine t_go (op := o_aload 23 1) (fe_X7_eveningLine 22) (fun _ _ => rfl) ?_
    refine t_go (op := o_getI 26 0 3) (fe_X7_eveningLine 23) (g_getI hS he (by decide)) ?_
    rw [hs.2.2.1]
    refine t_go (op := o_ci 28 40) (fe_X7_eveningLine 26) (fun _ _ => rfl) ?_
    refine t_ite (op := o_icmp 31 37 (fun x y => x < y) (fun _ _ => inferInstance)) (fe_X7_eveningLine 28) g_icmp (fun c2 => ?_) (fun c2 => ?_)
    · refine t_go (op := o_aload 38 0) (fe_X7_eveningLine 37) (fun _ _ => rfl) ?_
      refine t_go (op := o_getR 41 6 0) (fe_X7_eveningLine 38) (g_getR hS (show (lay 4).1 = 6 by decide) (by decide) (fr_6_0 hS) (by decide)) ?_
      refine t_call (op := o_callV 44 97 1 8) (fe_X7_eveningLine 41) (g_callV hS (by decide) (by decide) rfl rfl rfl (Nat.le_of_ble_eq_true rfl)) ?_
      refine M_mono ?_ (c_toNext hS hC)
      rintro _ k2 ⟨rfl, hT, hC2⟩
      have hs1 := KVs_T he5 hs hT hC2
      replace hS := hs1.1.std hS0
      have hK1 := NK_v hs1.1 hge hg5 hK0
      refine t_go (op := o_ci 45 (-1)) (fe_X7_eveningLine 44) (fun _ _ => rfl) ?_
      refine t_go (op := o_istore 47 4) (fe_X7_eveningLine 45) (fun _ _ => rfl) ?_
      refine t_go (op := o_iload 48 3) (fe_X7_eveningLine 47) (fun _ _ => rfl) ?_
      refine t_call (op := o_callS 51 2 1) (fe_X7_eveningLine 48) (g_callS rfl rfl rfl (Nat.le_of_ble_eq_true rfl)) ?_
      refine M_eq c_has2 ?_
      refine t_ite (op := o_if 54 69 (fun x => x = 0) (fun _ => inferInstance)) (fe_X7_eveningLine 51) g_if (fun c3 => ?_) (fun c3 => ?_)
      · exact absurd c3 (by decide)
      · clear c3
        refine t_go (op := o_aload 55 0) (fe_X7_eveningLine 54) (fun _ _ => rfl) ?_
        refine t_go (op := o_aload 56 2) (fe_X7_eveningLine 55) (fun _ _ => rfl) ?_
        refine t_call (op := o_callV 59 84 2 6) (fe_X7_eveningLine 56) (g_callV hS (show (lay 4).1 = 6 by decide) (by decide) rfl rfl rfl (Nat.le_of_ble_eq_true rfl)) ?_
        refine M_eq (c_tE2 hS hg hC2 hK1 hN hu) ?_
        refine t_go (op := o_istore 61 4) (fe_X7_eveningLine 59) (fun _ _ => rfl) ?_
        refine t_go (op := o_iload 63 4) (fe_X7_eveningLine 61) (fun _ _ => rfl) ?_
        refine t_go (op := o_ci 64 (-1)) (fe_X7_eveningLine 63) (fun _ _ => rfl) ?_
        refine t_ite (op := o_icmp 69 67 (fun x y => x = y) (fun _ _ => inferInstance)) (fe_X7_eveningLine 64) g_icmp (fun c4 => ?_) (fun c4 => ?_)
        · clear c4
          refine t_go (op := o_ci 68 0) (fe_X7_eveningLine 67) (fun _ _ => rfl) ?_
          refine t_ret (op := o_zret) (fe_X7_eveningLine 68) (g_zret (Or.inl rfl)) ?_
          exact hq _ (KVF_w hs1)
        · exact absurd (by decide) c4
    · exact absurd (nI_lt (b := 40) h40 (by decide)) c2
theorem k_q2N {d : Nat} {h0 h : AHP} {e g : Nat} {ch : Nat → Nat} {len i m : Nat} {W : Nat → List Nat} {L : ES} (hS0 : Std h0) (he : (lay e).1 = 0) (he5 : 5 ≤ e) (hg : (lay g).1 = 3) (hg5 : 5 ≤ g) (hge : g + 12 < e) (hK0 : NK h0 g W m) (hs : KVs h0 h e ch len i L) (h40 : L.length < 40) (hw : isWd (tkT ch len) 9 i 0) (hN : nmP (tkT ch len) (i + 1)) (hu : ixV W (tkT ch len (i + 1)).2.2.2.1 m 0 < m) (hNu : ¬ nuP (tkT ch len) 0 11 (i + 2) 0) {Q : Option Value → AHP → Prop} (hq : ∀ h2, KVF h0 h2 e (wrF (tkT ch len) (nmF (tkT ch len) (i + 2)) (i + 2) 0) → Q (some (.int 0)) h2) : MM (d + 5) 83 [.ref 4, .ref e, .ref g] h (fun v h2 => Q v h2) := by
  refine ⟨Nat.le_of_ble_eq_true rfl, ?_⟩
  have hS := hs.1.std hS0
  have hC := hs.2.1
  obtain ⟨K6, hK6, eK⟩ : ∃ x, h.2.2.1 2 6 = x ∧ x = 200000 + kyN (tkT ch len i) := ⟨_, hC.key, rfl⟩
  have hB6 := hC.b i
  have bK : 200000 ≤ K6 ∧ K6 < 200025 := by have := ky_le hB6; omega
  have eK2 : K6 - 200000 = kyN (tkT ch len i) := by omega
  refine t_go (op := o_aload 1 0) (fe_X7_eveningLine 0) (fun _ _ => rfl) ?_
  refine t_go (op := o_getR 4 6 0) (fe_X7_eveningLine 1) (g_getR hS (show (lay 4).1 = 6 by decide) (by decide) (fr_6_0 hS) (by decide)) ?_
  refine t_go (op := o_getR 7 8 6) (fe_X7_eveningLine 4) (g_getR hS (by decide) (by decide) hK6 (by omega)) ?_
  refine t_call (op := o_callS 10 1 1) (fe_X7_eveningLine 7) (g_callS rfl rfl rfl (Nat.le_of_ble_eq_true rfl)) ?_
  refine M_eq (c_actOf eK (by have := ky_le hB6; omega)) ?_
  rw [show acF (kyN (tkT ch len i)) = 2 from ac_y (q := 2) ⟨hw.2.1, hw.2.2⟩ (by decide)]
  refine t_go (op := o_istore 11 3) (fe_X7_eveningLine 10) (fun _ _ => rfl) ?_
  refine t_go (op := o_iload 12 3) (fe_X7_eveningLine 11) (fun _ _ => rfl) ?_
  refine t_go (op := o_ci 13 (-1)) (fe_X7_eveningLine 12) (fun _ _ => rfl) ?_
  refine t_ite (op := o_icmp 22 16 (fun x y => x = y) (fun _ _ => inferInstance)) (fe_X7_eveningLine 13) g_icmp (fun c1 => ?_) (fun c1 => ?_)
  · exact absurd c1 (by decide)
  · clear c1
    refine t_go (op := o_aload 23 1) (fe_X7_eveningLine 22) (fun _ _ => rfl) ?_
    refine t_go (op := o_getI 26 0 3) (fe_X7_eveningLine 23) (g_getI hS he (by decide)) ?_
    rw [hs.2.2.1]
    refine t_go (op := o_ci 28 40) (fe_X7_eveningLine 26) (fun _ _ => rfl) ?_
    refine t_ite (op := o_icmp 31 37 (fun x y => x < y) (fun _ _ => inferInstance)) (fe_X7_eveningLine 28) g_icmp (fun c2 => ?_) (fun c2 => ?_)
    · refine t_go (op := o_aload 38 0) (fe_X7_eveningLine 37) (fun _ _ => rfl) ?_
      refine t_go (op := o_getR 41 6 0) (fe_X7_eveningLine 38) (g_getR hS (show (lay 4).1 = 6 by decide) (by decide) (fr_6_0 hS) (by decide)) ?_
      refine t_call (op := o_callV 44 97 1 8) (fe_X7_eveningLine 41) (g_callV hS (by decide) (by decide) rfl rfl rfl (Nat.le_of_ble_eq_true rfl)) ?_
      refine M_mono ?_ (c_toNext hS hC)
      rintro _ k2 ⟨rfl, hT, hC2⟩
      have hs1 := KVs_T he5 hs hT hC2
      replace hS := hs1.1.std hS0
      have hK1 := NK_v hs1.1 hge hg5 hK0
      refine t_go (op := o_ci 45 (-1)) (fe_X7_eveningLine 44) (fun _ _ => rfl) ?_
      refine t_go (op := o_istore 47 4) (fe_X7_eveningLine 45) (fun _ _ => rfl) ?_
      refine t_go (op := o_iload 48 3) (fe_X7_eveningLine 47) (fun _ _ => rfl) ?_
      refine t_call (op := o_callS 51 2 1) (fe_X7_eveningLine 48) (g_callS rfl rfl rfl (Nat.le_of_ble_eq_true rfl)) ?_
      refine M_eq c_has2 ?_
      refine t_ite (op := o_if 54 69 (fun x => x = 0) (fun _ => inferInstance)) (fe_X7_eveningLine 51) g_if (fun c3 => ?_) (fun c3 => ?_)
      · exact absurd c3 (by decide)
      · clear c3
        refine t_go (op := o_aload 55 0) (fe_X7_eveningLine 54) (fun _ _ => rfl) ?_
        refine t_go (op := o_aload 56 2) (fe_X7_eveningLine 55) (fun _ _ => rfl) ?_
        refine t_call (op := o_callV 59 84 2 6) (fe_X7_eveningLine 56) (g_callV hS (show (lay 4).1 = 6 by decide) (by decide) rfl rfl rfl (Nat.le_of_ble_eq_true rfl)) ?_
        refine M_mono ?_ (c_tEY hS hg hC2 hK1 hN hu)
        rintro _ k5 ⟨rfl, hT5, hC5⟩
        have hs2 := KVs_T he5 hs1 hT5 hC5
        replace hS := hs2.1.std hS0
        refine t_go (op := o_istore 61 4) (fe_X7_eveningLine 59) (fun _ _ => rfl) ?_
        refine t_go (op := o_iload 63 4) (fe_X7_eveningLine 61) (fun _ _ => rfl) ?_
        refine t_go (op := o_ci 64 (-1)) (fe_X7_eveningLine 63) (fun _ _ => rfl) ?_
        refine t_ite (op := o_icmp 69 67 (fun x y => x = y) (fun _ _ => inferInstance)) (fe_X7_eveningLine 64) g_icmp (fun c4 => ?_) (fun c4 => ?_)
        · exact absurd c4 (nI_m1 (by have := hK0.2.1; omega))
        · refine t_go (op := o_ci 70 0) (fe_X7_eveningLine 69) (fun _ _ => rfl) ?_
          refine t_go (op := o_istore 72 5) (fe_X7_eveningLine 70) (fun _ _ => rfl) ?_
          refine t_go (op := o_iload 73 3) (fe_X7_eveningLine 72) (fun _ _ => rfl) ?_
          refine t_go (op := o_ci 74 2) (fe_X7_eveningLine 73) (fun _ _ => rfl) ?_
          refine t_ite (op := o_icmp 89 77 (fun x y => x = y) (fun _ _ => inferInstance)) (fe_X7_eveningLine 74) g_icmp (fun c5 => ?_) (fun c5 => ?_)
          · clear c5
            refine t_go (op := o_aload 78 0) (fe_X7_eveningLine 77) (fun _ _ => rfl) ?_
            refine t_go (op := o_ci 79 0) (fe_X7_eveningLine 78) (fun _ _ => rfl) ?_
            refine t_go (op := o_ci 81 11) (fe_X7_eveningLine 79) (fun _ _ => rfl) ?_
            refine t_call (op := o_callV 84 74 3 6) (fe_X7_eveningLine 81) (g_callV hS (show (lay 4).1 = 6 by decide) (by decide) rfl rfl rfl (Nat.le_of_ble_eq_true rfl)) ?_
            refine M_mono ?_ (c_takeNumber (lo := 0) (hi2 := 11) hS hC5 (by decide) (by decide))
            rintro v3 k3 ⟨_, hn3⟩
            obtain ⟨rfl, rfl⟩ := hn3 hNu
            refine t_go (op := o_istore 86 5) (fe_X7_eveningLine 84) (fun _ _ => rfl) ?_
            refine t_go (op := o_goto 103) (fe_X7_eveningLine 86) (fun _ _ => rfl) ?_
            refine t_go (op := o_iload 105 5) (fe_X7_eveningLine 103) (fun _ _ => rfl) ?_
            refine t_go (op := o_ci 106 (-1)) (fe_X7_eveningLine 105) (fun _ _ => rfl) ?_
            refine t_ite (op := o_icmp 109 118 (fun x y => x = y) (fun _ _ => inferInstance)) (fe_X7_eveningLine 106) g_icmp (fun c6 => ?_) (fun c6 => ?_)
            · clear c6
              refine t_go (op := o_ci 119 0) (fe_X7_eveningLine 118) (fun _ _ => rfl) ?_
              refine t_ret (op := o_zret) (fe_X7_eveningLine 119) (g_zret (Or.inl rfl)) ?_
              exact hq _ (KVF_w hs2)
            · exact absurd (by decide) c6
          · exact absurd (by decide) c5
    · exact absurd (nI_lt (b := 40) h40 (by decide)) c2
theorem k_q2Y {d : Nat} {h0 h : AHP} {e g : Nat} {ch : Nat → Nat} {len i m : Nat} {W : Nat → List Nat} {L : ES} (hS0 : Std h0) (he : (lay e).1 = 0) (he5 : 5 ≤ e) (hg : (lay g).1 = 3) (hg5 : 5 ≤ g) (hge : g + 12 < e) (hK0 : NK h0 g W m) (hs : KVs h0 h e ch len i L) (h40 : L.length < 40) (hw : isWd (tkT ch len) 9 i 0) (hN : nmP (tkT ch len) (i + 1)) (hu : ixV W (tkT ch len (i + 1)).2.2.2.1 m 0 < m) (hNu : nuP (tkT ch len) 0 11 (i + 2) 0) {Q : Option Value → AHP → Prop} (hq : ∀ h2, KVs h0 h2 e ch len (i + 3) L → TT (d + 5) 83 103 [some (.ref 4), some (.ref e), some (.ref g), some (.int 2), some (.int (nI (ixV W (tkT ch len (i + 1)).2.2.2.1 m 0))), some (.int (nI (tkT ch len (i + 2)).2.2.1))] [] h2 Q) : MM (d + 5) 83 [.ref 4, .ref e, .ref g] h (fun v h2 => Q v h2) := by
  refine ⟨Nat.le_of_ble_eq_true rfl, ?_⟩
  have hS := hs.1.std hS0
  have hC := hs.2.1
  obtain ⟨K6, hK6, eK⟩ : ∃ x, h.2.2.1 2 6 = x ∧ x = 200000 + kyN (tkT ch len i) := ⟨_, hC.key, rfl⟩
  have hB6 := hC.b i
  have bK : 200000 ≤ K6 ∧ K6 < 200025 := by have := ky_le hB6; omega
  have eK2 : K6 - 200000 = kyN (tkT ch len i) := by omega
  refine t_go (op := o_aload 1 0) (fe_X7_eveningLine 0) (fun _ _ => rfl) ?_
  refine t_go (op := o_getR 4 6 0) (fe_X7_eveningLine 1) (g_getR hS (show (lay 4).1 = 6 by decide) (by decide) (fr_6_0 hS) (by decide)) ?_
  refine t_go (op := o_getR 7 8 6) (fe_X7_eveningLine 4) (g_getR hS (by decide) (by decide) hK6 (by omega)) ?_
  refine t_call (op := o_callS 10 1 1) (fe_X7_eveningLine 7) (g_callS rfl rfl rfl (Nat.le_of_ble_eq_true rfl)) ?_
  refine M_eq (c_actOf eK (by have := ky_le hB6; omega)) ?_
  rw [show acF (kyN (tkT ch len i)) = 2 from ac_y (q := 2) ⟨hw.2.1, hw.2.2⟩ (by decide)]
  refine t_go (op := o_istore 11 3) (fe_X7_eveningLine 10) (fun _ _ => rfl) ?_
  refine t_go (op := o_iload 12 3) (fe_X7_eveningLine 11) (fun _ _ => rfl) ?_
  refine t_go (op := o_ci 13 (-1)) (fe_X7_eveningLine 12) (fun _ _ => rfl) ?_
  refine t_ite (op := o_icmp 22 16 (fun x y => x = y) (fun _ _ => inferInstance)) (fe_X7_eveningLine 13) g_icmp (fun c1 => ?_) (fun c1 => ?_)
  · exact absurd c1 (by decide)
  · clear c1
    refine t_go (op := o_aload 23 1) (fe_X7_eveningLine 22) (fun _ _ => rfl) ?_
    refine t_go (op := o_getI 26 0 3) (fe_X7_eveningLine 23) (g_getI hS he (by decide)) ?_
    rw [hs.2.2.1]
    refine t_go (op := o_ci 28 40) (fe_X7_eveningLine 26) (fun _ _ => rfl) ?_
    refine t_ite (op := o_icmp 31 37 (fun x y => x < y) (fun _ _ => inferInstance)) (fe_X7_eveningLine 28) g_icmp (fun c2 => ?_) (fun c2 => ?_)
    · refine t_go (op := o_aload 38 0) (fe_X7_eveningLine 37) (fun _ _ => rfl) ?_
      refine t_go (op := o_getR 41 6 0) (fe_X7_eveningLine 38) (g_getR hS (show (lay 4).1 = 6 by decide) (by decide) (fr_6_0 hS) (by decide)) ?_
      refine t_call (op := o_callV 44 97 1 8) (fe_X7_eveningLine 41) (g_callV hS (by decide) (by decide) rfl rfl rfl (Nat.le_of_ble_eq_true rfl)) ?_
      refine M_mono ?_ (c_toNext hS hC)
      rintro _ k2 ⟨rfl, hT, hC2⟩
      have hs1 := KVs_T he5 hs hT hC2
      replace hS := hs1.1.std hS0
      have hK1 := NK_v hs1.1 hge hg5 hK0
      refine t_go (op := o_ci 45 (-1)) (fe_X7_eveningLine 44) (fun _ _ => rfl) ?_
      refine t_go (op := o_istore 47 4) (fe_X7_eveningLine 45) (fun _ _ => rfl) ?_
      refine t_go (op := o_iload 48 3) (fe_X7_eveningLine 47) (fun _ _ => rfl) ?_
      refine t_call (op := o_callS 51 2 1) (fe_X7_eveningLine 48) (g_callS rfl rfl rfl (Nat.le_of_ble_eq_true rfl)) ?_
      refine M_eq c_has2 ?_
      refine t_ite (op := o_if 54 69 (fun x => x = 0) (fun _ => inferInstance)) (fe_X7_eveningLine 51) g_if (fun c3 => ?_) (fun c3 => ?_)
      · exact absurd c3 (by decide)
      · clear c3
        refine t_go (op := o_aload 55 0) (fe_X7_eveningLine 54) (fun _ _ => rfl) ?_
        refine t_go (op := o_aload 56 2) (fe_X7_eveningLine 55) (fun _ _ => rfl) ?_
        refine t_call (op := o_callV 59 84 2 6) (fe_X7_eveningLine 56) (g_callV hS (show (lay 4).1 = 6 by decide) (by decide) rfl rfl rfl (Nat.le_of_ble_eq_true rfl)) ?_
        refine M_mono ?_ (c_tEY hS hg hC2 hK1 hN hu)
        rintro _ k5 ⟨rfl, hT5, hC5⟩
        have hs2 := KVs_T he5 hs1 hT5 hC5
        replace hS := hs2.1.std hS0
        refine t_go (op := o_istore 61 4) (fe_X7_eveningLine 59) (fun _ _ => rfl) ?_
        refine t_go (op := o_iload 63 4) (fe_X7_eveningLine 61) (fun _ _ => rfl) ?_
        refine t_go (op := o_ci 64 (-1)) (fe_X7_eveningLine 63) (fun _ _ => rfl) ?_
        refine t_ite (op := o_icmp 69 67 (fun x y => x = y) (fun _ _ => inferInstance)) (fe_X7_eveningLine 64) g_icmp (fun c4 => ?_) (fun c4 => ?_)
        · exact absurd c4 (nI_m1 (by have := hK0.2.1; omega))
        · refine t_go (op := o_ci 70 0) (fe_X7_eveningLine 69) (fun _ _ => rfl) ?_
          refine t_go (op := o_istore 72 5) (fe_X7_eveningLine 70) (fun _ _ => rfl) ?_
          refine t_go (op := o_iload 73 3) (fe_X7_eveningLine 72) (fun _ _ => rfl) ?_
          refine t_go (op := o_ci 74 2) (fe_X7_eveningLine 73) (fun _ _ => rfl) ?_
          refine t_ite (op := o_icmp 89 77 (fun x y => x = y) (fun _ _ => inferInstance)) (fe_X7_eveningLine 74) g_icmp (fun c5 => ?_) (fun c5 => ?_)
          · clear c5
            refine t_go (op := o_aload 78 0) (fe_X7_eveningLine 77) (fun _ _ => rfl) ?_
            refine t_go (op := o_ci 79 0) (fe_X7_eveningLine 78) (fun _ _ => rfl) ?_
            refine t_go (op := o_ci 81 11) (fe_X7_eveningLine 79) (fun _ _ => rfl) ?_
            refine t_call (op := o_callV 84 74 3 6) (fe_X7_eveningLine 81) (g_callV hS (show (lay 4).1 = 6 by decide) (by decide) rfl rfl rfl (Nat.le_of_ble_eq_true rfl)) ?_
            refine M_mono ?_ (c_takeNumber (lo := 0) (hi2 := 11) hS hC5 (by decide) (by decide))
            rintro v3 k3 ⟨hy3, _⟩
            obtain ⟨rfl, hT3, hC3⟩ := hy3 hNu
            have hs3 := KVs_T he5 hs2 hT3 hC3
            replace hS := hs3.1.std hS0
            refine t_go (op := o_istore 86 5) (fe_X7_eveningLine 84) (fun _ _ => rfl) ?_
            refine t_go (op := o_goto 103) (fe_X7_eveningLine 86) (fun _ _ => rfl) ?_
            exact hq _ hs3
          · exact absurd (by decide) c5
    · exact absurd (nI_lt (b := 40) h40 (by decide)) c2
theorem k_q31 {d : Nat} {h0 h : AHP} {e g : Nat} {ch : Nat → Nat} {len i m : Nat} {W : Nat → List Nat} {L : ES} (hS0 : Std h0) (he : (lay e).1 = 0) (he5 : 5 ≤ e) (hg : (lay g).1 = 3) (hg5 : 5 ≤ g) (hge : g + 12 < e) (hK0 : NK h0 g W m) (hs : KVs h0 h e ch len i L) (h40 : L.length < 40) (hw : isWd (tkT ch len) 10 i 0) (hN : ¬ nmP (tkT ch len) (i + 1)) {Q : Option Value → AHP → Prop} (hq : ∀ h2, KVF h0 h2 e (wrF (tkT ch len) 1 (i + 1) 0) → Q (some (.int 0)) h2) : MM (d + 5) 83 [.ref 4, .ref e, .ref g] h (fun v h2 => Q v h2) := by
  refine ⟨Nat.le_of_ble_eq_true rfl, ?_⟩
  have hS := hs.1.std hS0
  have hC := hs.2.1
  obtain ⟨K6, hK6, eK⟩ : ∃ x, h.2.2.1 2 6 = x ∧ x = 200000 + kyN (tkT ch len i) := ⟨_, hC.key, rfl⟩
  have hB6 := hC.b i
  have bK : 200000 ≤ K6 ∧ K6 < 200025 := by have := ky_le hB6; omega
  have eK2 : K6 - 200000 = kyN (tkT ch len i) := by omega
  refine t_go (op := o_aload 1 0) (fe_X7_eveningLine 0) (fun _ _ => rfl) ?_
  refine t_go (op := o_getR 4 6 0) (fe_X7_eveningLine 1) (g_getR hS (show (lay 4).1 = 6 by decide) (by decide) (fr_6_0 hS) (by decide)) ?_
  refine t_go (op := o_getR 7 8 6) (fe_X7_eveningLine 4) (g_getR hS (by decide) (by decide) hK6 (by omega)) ?_
  refine t_call (op := o_callS 10 1 1) (fe_X7_eveningLine 7) (g_callS rfl rfl rfl (Nat.le_of_ble_eq_true rfl)) ?_
  refine M_eq (c_actOf eK (by have := ky_le hB6; omega)) ?_
  rw [show acF (kyN (tkT ch len i)) = 3 from ac_y (q := 3) ⟨hw.2.1, hw.2.2⟩ (by decide)]
  refine t_go (op := o_istore 11 3) (fe_X7_eveningLine 10) (fun _ _ => rfl) ?_
  refine t_go (op := o_iload 12 3) (fe_X7_eveningLine 11) (fun _ _ => rfl) ?_
  refine t_go (op := o_ci 13 (-1)) (fe_X7_eveningLine 12) (fun _ _ => rfl) ?_
  refine t_ite (op := o_icmp 22 16 (fun x y => x = y) (fun _ _ => inferInstance)) (fe_X7_eveningLine 13) g_icmp (fun c1 => ?_) (fun c1 => ?_)
  · exact absurd c1 (by decide)
  · clear c1
    refine t_go (op := o_aload 23 1) (fe_X7_eveningLine 22) (fun _ _ => rfl) ?_
    refine t_go (op := o_getI 26 0 3) (fe_X7_eveningLine 23) (g_getI hS he (by decide)) ?_
    rw [hs.2.2.1]
    refine t_go (op := o_ci 28 40) (fe_X7_eveningLine 26) (fun _ _ => rfl) ?_
    refine t_ite (op := o_icmp 31 37 (fun x y => x < y) (fun _ _ => inferInstance)) (fe_X7_eveningLine 28) g_icmp (fun c2 => ?_) (fun c2 => ?_)
    · refine t_go (op := o_aload 38 0) (fe_X7_eveningLine 37) (fun _ _ => rfl) ?_
      refine t_go (op := o_getR 41 6 0) (fe_X7_eveningLine 38) (g_getR hS (show (lay 4).1 = 6 by decide) (by decide) (fr_6_0 hS) (by decide)) ?_
      refine t_call (op := o_callV 44 97 1 8) (fe_X7_eveningLine 41) (g_callV hS (by decide) (by decide) rfl rfl rfl (Nat.le_of_ble_eq_true rfl)) ?_
      refine M_mono ?_ (c_toNext hS hC)
      rintro _ k2 ⟨rfl, hT, hC2⟩
      have hs1 := KVs_T he5 hs hT hC2
      replace hS := hs1.1.std hS0
      have hK1 := NK_v hs1.1 hge hg5 hK0
      refine t_go (op := o_ci 45 (-1)) (fe_X7_eveningLine 44) (fun _ _ => rfl) ?_
      refine t_go (op := o_istore 47 4) (fe_X7_eveningLine 45) (fun _ _ => rfl) ?_
      refine t_go (op := o_iload 48 3) (fe_X7_eveningLine 47) (fun _ _ => rfl) ?_
      refine t_call (op := o_callS 51 2 1) (fe_X7_eveningLine 48) (g_callS rfl rfl rfl (Nat.le_of_ble_eq_true rfl)) ?_
      refine M_eq c_has3 ?_
      refine t_ite (op := o_if 54 69 (fun x => x = 0) (fun _ => inferInstance)) (fe_X7_eveningLine 51) g_if (fun c3 => ?_) (fun c3 => ?_)
      · exact absurd c3 (by decide)
      · clear c3
        refine t_go (op := o_aload 55 0) (fe_X7_eveningLine 54) (fun _ _ => rfl) ?_
        refine t_go (op := o_aload 56 2) (fe_X7_eveningLine 55) (fun _ _ => rfl) ?_
        refine t_call (op := o_callV 59 84 2 6) (fe_X7_eveningLine 56) (g_callV hS (show (lay 4).1 = 6 by decide) (by decide) rfl rfl rfl (Nat.le_of_ble_eq_true rfl)) ?_
        refine M_eq (c_tE1 hS hg hC2 hK1 hN) ?_
        refine t_go (op := o_istore 61 4) (fe_X7_eveningLine 59) (fun _ _ => rfl) ?_
        refine t_go (op := o_iload 63 4) (fe_X7_eveningLine 61) (fun _ _ => rfl) ?_
        refine t_go (op := o_ci 64 (-1)) (fe_X7_eveningLine 63) (fun _ _ => rfl) ?_
        refine t_ite (op := o_icmp 69 67 (fun x y => x = y) (fun _ _ => inferInstance)) (fe_X7_eveningLine 64) g_icmp (fun c4 => ?_) (fun c4 => ?_)
        · clear c4
          refine t_go (op := o_ci 68 0) (fe_X7_eveningLine 67) (fun _ _ => rfl) ?_
          refine t_ret (op := o_zret) (fe_X7_eveningLine 68) (g_zret (Or.inl rfl)) ?_
          exact hq _ (KVF_w hs1)
        · exact absurd (by decide) c4
    · exact absurd (nI_lt (b := 40) h40 (by decide)) c2
theorem k_q32 {d : Nat} {h0 h : AHP} {e g : Nat} {ch : Nat → Nat} {len i m : Nat} {W : Nat → List Nat} {L : ES} (hS0 : Std h0) (he : (lay e).1 = 0) (he5 : 5 ≤ e) (hg : (lay g).1 = 3) (hg5 : 5 ≤ g) (hge : g + 12 < e) (hK0 : NK h0 g W m) (hs : KVs h0 h e ch len i L) (h40 : L.length < 40) (hw : isWd (tkT ch len) 10 i 0) (hN : nmP (tkT ch len) (i + 1)) (hu : ¬ ixV W (tkT ch len (i + 1)).2.2.2.1 m 0 < m) {Q : Option Value → AHP → Prop} (hq : ∀ h2, KVF h0 h2 e (wrF (tkT ch len) 2 (i + 1) 0) → Q (some (.int 0)) h2) : MM (d + 5) 83 [.ref 4, .ref e, .ref g] h (fun v h2 => Q v h2) := by
  refine ⟨Nat.le_of_ble_eq_true rfl, ?_⟩
  have hS := hs.1.std hS0
  have hC := hs.2.1
  obtain ⟨K6, hK6, eK⟩ : ∃ x, h.2.2.1 2 6 = x ∧ x = 200000 + kyN (tkT ch len i) := ⟨_, hC.key, rfl⟩
  have hB6 := hC.b i
  have bK : 200000 ≤ K6 ∧ K6 < 200025 := by have := ky_le hB6; omega
  have eK2 : K6 - 200000 = kyN (tkT ch len i) := by omega
  refine t_go (op := o_aload 1 0) (fe_X7_eveningLine 0) (fun _ _ => rfl) ?_
  refine t_go (op := o_getR 4 6 0) (fe_X7_eveningLine 1) (g_getR hS (show (lay 4).1 = 6 by decide) (by decide) (fr_6_0 hS) (by decide)) ?_
  refine t_go (op := o_getR 7 8 6) (fe_X7_eveningLine 4) (g_getR hS (by decide) (by decide) hK6 (by omega)) ?_
  refine t_call (op := o_callS 10 1 1) (fe_X7_eveningLine 7) (g_callS rfl rfl rfl (Nat.le_of_ble_eq_true rfl)) ?_
  refine M_eq (c_actOf eK (by have := ky_le hB6; omega)) ?_
  rw [show acF (kyN (tkT ch len i)) = 3 from ac_y (q := 3) ⟨hw.2.1, hw.2.2⟩ (by decide)]
  refine t_go (op := o_istore 11 3) (fe_X7_eveningLine 10) (fun _ _ => rfl) ?_
  refine t_go (op := o_iload 12 3) (fe_X7_eveningLine 11) (fun _ _ => rfl) ?_
  refine t_go (op := o_ci 13 (-1)) (fe_X7_eveningLine 12) (fun _ _ => rfl) ?_
  refine t_ite (op := o_icmp 22 16 (fun x y => x = y) (fun _ _ => inferInstance)) (fe_X7_eveningLine 13) g_icmp (fun c1 => ?_) (fun c1 => ?_)
  · exact absurd c1 (by decide)
  · clear c1
    refine t_go (op := o_aload 23 1) (fe_X7_eveningLine 22) (fun _ _ => rfl) ?_
    refine t_go (op := o_getI 26 0 3) (fe_X7_eveningLine 23) (g_getI hS he (by decide)) ?_
    rw [hs.2.2.1]
    refine t_go (op := o_ci 28 40) (fe_X7_eveningLine 26) (fun _ _ => rfl) ?_
    refine t_ite (op := o_icmp 31 37 (fun x y => x < y) (fun _ _ => inferInstance)) (fe_X7_eveningLine 28) g_icmp (fun c2 => ?_) (fun c2 => ?_)
    · refine t_go (op := o_aload 38 0) (fe_X7_eveningLine 37) (fun _ _ => rfl) ?_
      refine t_go (op := o_getR 41 6 0) (fe_X7_eveningLine 38) (g_getR hS (show (lay 4).1 = 6 by decide) (by decide) (fr_6_0 hS) (by decide)) ?_
      refine t_call (op := o_callV 44 97 1 8) (fe_X7_eveningLine 41) (g_callV hS (by decide) (by decide) rfl rfl rfl (Nat.le_of_ble_eq_true rfl)) ?_
      refine M_mono ?_ (c_toNext hS hC)
      rintro _ k2 ⟨rfl, hT, hC2⟩
      have hs1 := KVs_T he5 hs hT hC2
      replace hS := hs1.1.std hS0
      have hK1 := NK_v hs1.1 hge hg5 hK0
      refine t_go (op := o_ci 45 (-1)) (fe_X7_eveningLine 44) (fun _ _ => rfl) ?_
      refine t_go (op := o_istore 47 4) (fe_X7_eveningLine 45) (fun _ _ => rfl) ?_
      refine t_go (op := o_iload 48 3) (fe_X7_eveningLine 47) (fun _ _ => rfl) ?_
      refine t_call (op := o_callS 51 2 1) (fe_X7_eveningLine 48) (g_callS rfl rfl rfl (Nat.le_of_ble_eq_true rfl)) ?_
      refine M_eq c_has3 ?_
      refine t_ite (op := o_if 54 69 (fun x => x = 0) (fun _ => inferInstance)) (fe_X7_eveningLine 51) g_if (fun c3 => ?_) (fun c3 => ?_)
      · exact absurd c3 (by decide)
      · clear c3
        refine t_go (op := o_aload 55 0) (fe_X7_eveningLine 54) (fun _ _ => rfl) ?_
        refine t_go (op := o_aload 56 2) (fe_X7_eveningLine 55) (fun _ _ => rfl) ?_
        refine t_call (op := o_callV 59 84 2 6) (fe_X7_eveningLine 56) (g_callV hS (show (lay 4).1 = 6 by decide) (by decide) rfl rfl rfl (Nat.le_of_ble_eq_true rfl)) ?_
        refine M_eq (c_tE2 hS hg hC2 hK1 hN hu) ?_
        refine t_go (op := o_istore 61 4) (fe_X7_eveningLine 59) (fun _ _ => rfl) ?_
        refine t_go (op := o_iload 63 4) (fe_X7_eveningLine 61) (fun _ _ => rfl) ?_
        refine t_go (op := o_ci 64 (-1)) (fe_X7_eveningLine 63) (fun _ _ => rfl) ?_
        refine t_ite (op := o_icmp 69 67 (fun x y => x = y) (fun _ _ => inferInstance)) (fe_X7_eveningLine 64) g_icmp (fun c4 => ?_) (fun c4 => ?_)
        · clear c4
          refine t_go (op := o_ci 68 0) (fe_X7_eveningLine 67) (fun _ _ => rfl) ?_
          refine t_ret (op := o_zret) (fe_X7_eveningLine 68) (g_zret (Or.inl rfl)) ?_
          exact hq _ (KVF_w hs1)
        · exact absurd (by decide) c4
    · exact absurd (nI_lt (b := 40) h40 (by decide)) c2
theorem k_q3N {d : Nat} {h0 h : AHP} {e g : Nat} {ch : Nat → Nat} {len i m : Nat} {W : Nat → List Nat} {L : ES} (hS0 : Std h0) (he : (lay e).1 = 0) (he5 : 5 ≤ e) (hg : (lay g).1 = 3) (hg5 : 5 ≤ g) (hge : g + 12 < e) (hK0 : NK h0 g W m) (hs : KVs h0 h e ch len i L) (h40 : L.length < 40) (hw : isWd (tkT ch len) 10 i 0) (hN : nmP (tkT ch len) (i + 1)) (hu : ixV W (tkT ch len (i + 1)).2.2.2.1 m 0 < m) (hNu : ¬ nuP (tkT ch len) 1 9 (i + 2) 0) {Q : Option Value → AHP → Prop} (hq : ∀ h2, KVF h0 h2 e (wrF (tkT ch len) (nmF (tkT ch len) (i + 2)) (i + 2) 0) → Q (some (.int 0)) h2) : MM (d + 5) 83 [.ref 4, .ref e, .ref g] h (fun v h2 => Q v h2) := by
  refine ⟨Nat.le_of_ble_eq_true rfl, ?_⟩
  have hS := hs.1.std hS0
  have hC := hs.2.1
  obtain ⟨K6, hK6, eK⟩ : ∃ x, h.2.2.1 2 6 = x ∧ x = 200000 + kyN (tkT ch len i) := ⟨_, hC.key, rfl⟩
  have hB6 := hC.b i
  have bK : 200000 ≤ K6 ∧ K6 < 200025 := by have := ky_le hB6; omega
  have eK2 : K6 - 200000 = kyN (tkT ch len i) := by omega
  refine t_go (op := o_aload 1 0) (fe_X7_eveningLine 0) (fun _ _ => rfl) ?_
  refine t_go (op := o_getR 4 6 0) (fe_X7_eveningLine 1) (g_getR hS (show (lay 4).1 = 6 by decide) (by decide) (fr_6_0 hS) (by decide)) ?_
  refine t_go (op := o_getR 7 8 6) (fe_X7_eveningLine 4) (g_getR hS (by decide) (by decide) hK6 (by omega)) ?_
  refine t_call (op := o_callS 10 1 1) (fe_X7_eveningLine 7) (g_callS rfl rfl rfl (Nat.le_of_ble_eq_true rfl)) ?_
  refine M_eq (c_actOf eK (by have := ky_le hB6; omega)) ?_
  rw [show acF (kyN (tkT ch len i)) = 3 from ac_y (q := 3) ⟨hw.2.1, hw.2.2⟩ (by decide)]
  refine t_go (op := o_istore 11 3) (fe_X7_eveningLine 10) (fun _ _ => rfl) ?_
  refine t_go (op := o_iload 12 3) (fe_X7_eveningLine 11) (fun _ _ => rfl) ?_
  refine t_go (op := o_ci 13 (-1)) (fe_X7_eveningLine 12) (fun _ _ => rfl) ?_
  refine t_ite (op := o_icmp 22 16 (fun x y => x = y) (fun _ _ => inferInstance)) (fe_X7_eveningLine 13) g_icmp (fun c1 => ?_) (fun c1 => ?_)
  · exact absurd c1 (by decide)
  · clear c1
    refine t_go (op := o_aload 23 1) (fe_X7_eveningLine 22) (fun _ _ => rfl) ?_
    refine t_go (op := o_getI 26 0 3) (fe_X7_eveningLine 23) (g_getI hS he (by decide)) ?_
    rw [hs.2.2.1]
    refine t_go (op := o_ci 28 40) (fe_X7_eveningLine 26) (fun _ _ => rfl) ?_
    refine t_ite (op := o_icmp 31 37 (fun x y => x < y) (fun _ _ => inferInstance)) (fe_X7_eveningLine 28) g_icmp (fun c2 => ?_) (fun c2 => ?_)
    · refine t_go (op := o_aload 38 0) (fe_X7_eveningLine 37) (fun _ _ => rfl) ?_
      refine t_go (op := o_getR 41 6 0) (fe_X7_eveningLine 38) (g_getR hS (show (lay 4).1 = 6 by decide) (by decide) (fr_6_0 hS) (by decide)) ?_
      refine t_call (op := o_callV 44 97 1 8) (fe_X7_eveningLine 41) (g_callV hS (by decide) (by decide) rfl rfl rfl (Nat.le_of_ble_eq_true rfl)) ?_
      refine M_mono ?_ (c_toNext hS hC)
      rintro _ k2 ⟨rfl, hT, hC2⟩
      have hs1 := KVs_T he5 hs hT hC2
      replace hS := hs1.1.std hS0
      have hK1 := NK_v hs1.1 hge hg5 hK0
      refine t_go (op := o_ci 45 (-1)) (fe_X7_eveningLine 44) (fun _ _ => rfl) ?_
      refine t_go (op := o_istore 47 4) (fe_X7_eveningLine 45) (fun _ _ => rfl) ?_
      refine t_go (op := o_iload 48 3) (fe_X7_eveningLine 47) (fun _ _ => rfl) ?_
      refine t_call (op := o_callS 51 2 1) (fe_X7_eveningLine 48) (g_callS rfl rfl rfl (Nat.le_of_ble_eq_true rfl)) ?_
      refine M_eq c_has3 ?_
      refine t_ite (op := o_if 54 69 (fun x => x = 0) (fun _ => inferInstance)) (fe_X7_eveningLine 51) g_if (fun c3 => ?_) (fun c3 => ?_)
      · exact absurd c3 (by decide)
      · clear c3
        refine t_go (op := o_aload 55 0) (fe_X7_eveningLine 54) (fun _ _ => rfl) ?_
        refine t_go (op := o_aload 56 2) (fe_X7_eveningLine 55) (fun _ _ => rfl) ?_
        refine t_call (op := o_callV 59 84 2 6) (fe_X7_eveningLine 56) (g_callV hS (show (lay 4).1 = 6 by decide) (by decide) rfl rfl rfl (Nat.le_of_ble_eq_true rfl)) ?_
        refine M_mono ?_ (c_tEY hS hg hC2 hK1 hN hu)
        rintro _ k5 ⟨rfl, hT5, hC5⟩
        have hs2 := KVs_T he5 hs1 hT5 hC5
        replace hS := hs2.1.std hS0
        refine t_go (op := o_istore 61 4) (fe_X7_eveningLine 59) (fun _ _ => rfl) ?_
        refine t_go (op := o_iload 63 4) (fe_X7_eveningLine 61) (fun _ _ => rfl) ?_
        refine t_go (op := o_ci 64 (-1)) (fe_X7_eveningLine 63) (fun _ _ => rfl) ?_
        refine t_ite (op := o_icmp 69 67 (fun x y => x = y) (fun _ _ => inferInstance)) (fe_X7_eveningLine 64) g_icmp (fun c4 => ?_) (fun c4 => ?_)
        · exact absurd c4 (nI_m1 (by have := hK0.2.1; omega))
        · refine t_go (op := o_ci 70 0) (fe_X7_eveningLine 69) (fun _ _ => rfl) ?_
          refine t_go (op := o_istore 72 5) (fe_X7_eveningLine 70) (fun _ _ => rfl) ?_
          refine t_go (op := o_iload 73 3) (fe_X7_eveningLine 72) (fun _ _ => rfl) ?_
          refine t_go (op := o_ci 74 2) (fe_X7_eveningLine 73) (fun _ _ => rfl) ?_
          refine t_ite (op := o_icmp 89 77 (fun x y => x = y) (fun _ _ => inferInstance)) (fe_X7_eveningLine 74) g_icmp (fun c5 => ?_) (fun c5 => ?_)
          · exact absurd c5 (by decide)
          · clear c5
            refine t_go (op := o_iload 90 3) (fe_X7_eveningLine 89) (fun _ _ => rfl) ?_
            refine t_go (op := o_ci 91 3) (fe_X7_eveningLine 90) (fun _ _ => rfl) ?_
            refine t_ite (op := o_icmp 103 94 (fun x y => x = y) (fun _ _ => inferInstance)) (fe_X7_eveningLine 91) g_icmp (fun c6 => ?_) (fun c6 => ?_)
            · clear c6
              refine t_go (op := o_aload 95 0) (fe_X7_eveningLine 94) (fun _ _ => rfl) ?_
              refine t_go (op := o_ci 96 1) (fe_X7_eveningLine 95) (fun _ _ => rfl) ?_
              refine t_go (op := o_ci 98 9) (fe_X7_eveningLine 96) (fun _ _ => rfl) ?_
              refine t_call (op := o_callV 101 74 3 6) (fe_X7_eveningLine 98) (g_callV hS (show (lay 4).1 = 6 by decide) (by decide) rfl rfl rfl (Nat.le_of_ble_eq_true rfl)) ?_
              refine M_mono ?_ (c_takeNumber (lo := 1) (hi2 := 9) hS hC5 (by decide) (by decide))
              rintro v3 k3 ⟨_, hn3⟩
              obtain ⟨rfl, rfl⟩ := hn3 hNu
              refine t_go (op := o_istore 103 5) (fe_X7_eveningLine 101) (fun _ _ => rfl) ?_
              refine t_go (op := o_iload 105 5) (fe_X7_eveningLine 103) (fun _ _ => rfl) ?_
              refine t_go (op := o_ci 106 (-1)) (fe_X7_eveningLine 105) (fun _ _ => rfl) ?_
              refine t_ite (op := o_icmp 109 118 (fun x y => x = y) (fun _ _ => inferInstance)) (fe_X7_eveningLine 106) g_icmp (fun c7 => ?_) (fun c7 => ?_)
              · clear c7
                refine t_go (op := o_ci 119 0) (fe_X7_eveningLine 118) (fun _ _ => rfl) ?_
                refine t_ret (op := o_zret) (fe_X7_eveningLine 119) (g_zret (Or.inl rfl)) ?_
                exact hq _ (KVF_w hs2)
              · exact absurd (by decide) c7
            · exact absurd (by decide) c6
    · exact absurd (nI_lt (b := 40) h40 (by decide)) c2
theorem k_q3Y {d : Nat} {h0 h : AHP} {e g : Nat} {ch : Nat → Nat} {len i m : Nat} {W : Nat → List Nat} {L : ES} (hS0 : Std h0) (he : (lay e).1 = 0) (he5 : 5 ≤ e) (hg : (lay g).1 = 3) (hg5 : 5 ≤ g) (hge : g + 12 < e) (hK0 : NK h0 g W m) (hs : KVs h0 h e ch len i L) (h40 : L.length < 40) (hw : isWd (tkT ch len) 10 i 0) (hN : nmP (tkT ch len) (i + 1)) (hu : ixV W (tkT ch len (i + 1)).2.2.2.1 m 0 < m) (hNu : nuP (tkT ch len) 1 9 (i + 2) 0) {Q : Option Value → AHP → Prop} (hq : ∀ h2, KVs h0 h2 e ch len (i + 3) L → TT (d + 5) 83 103 [some (.ref 4), some (.ref e), some (.ref g), some (.int 3), some (.int (nI (ixV W (tkT ch len (i + 1)).2.2.2.1 m 0))), some (.int (nI (tkT ch len (i + 2)).2.2.1))] [] h2 Q) : MM (d + 5) 83 [.ref 4, .ref e, .ref g] h (fun v h2 => Q v h2) := by
  refine ⟨Nat.le_of_ble_eq_true rfl, ?_⟩
  have hS := hs.1.std hS0
  have hC := hs.2.1
  obtain ⟨K6, hK6, eK⟩ : ∃ x, h.2.2.1 2 6 = x ∧ x = 200000 + kyN (tkT ch len i) := ⟨_, hC.key, rfl⟩
  have hB6 := hC.b i
  have bK : 200000 ≤ K6 ∧ K6 < 200025 := by have := ky_le hB6; omega
  have eK2 : K6 - 200000 = kyN (tkT ch len i) := by omega
  refine t_go (op := o_aload 1 0) (fe_X7_eveningLine 0) (fun _ _ => rfl) ?_
  refine t_go (op := o_getR 4 6 0) (fe_X7_eveningLine 1) (g_getR hS (show (lay 4).1 = 6 by decide) (by decide) (fr_6_0 hS) (by decide)) ?_
  refine t_go (op := o_getR 7 8 6) (fe_X7_eveningLine 4) (g_getR hS (by decide) (by decide) hK6 (by omega)) ?_
  refine t_call (op := o_callS 10 1 1) (fe_X7_eveningLine 7) (g_callS rfl rfl rfl (Nat.le_of_ble_eq_true rfl)) ?_
  refine M_eq (c_actOf eK (by have := ky_le hB6; omega)) ?_
  rw [show acF (kyN (tkT ch len i)) = 3 from ac_y (q := 3) ⟨hw.2.1, hw.2.2⟩ (by decide)]
  refine t_go (op := o_istore 11 3) (fe_X7_eveningLine 10) (fun _ _ => rfl) ?_
  refine t_go (op := o_iload 12 3) (fe_X7_eveningLine 11) (fun _ _ => rfl) ?_
  refine t_go (op := o_ci 13 (-1)) (fe_X7_eveningLine 12) (fun _ _ => rfl) ?_
  refine t_ite (op := o_icmp 22 16 (fun x y => x = y) (fun _ _ => inferInstance)) (fe_X7_eveningLine 13) g_icmp (fun c1 => ?_) (fun c1 => ?_)
  · exact absurd c1 (by decide)
  · clear c1
    refine t_go (op := o_aload 23 1) (fe_X7_eveningLine 22) (fun _ _ => rfl) ?_
    refine t_go (op := o_getI 26 0 3) (fe_X7_eveningLine 23) (g_getI hS he (by decide)) ?_
    rw [hs.2.2.1]
    refine t_go (op := o_ci 28 40) (fe_X7_eveningLine 26) (fun _ _ => rfl) ?_
    refine t_ite (op := o_icmp 31 37 (fun x y => x < y) (fun _ _ => inferInstance)) (fe_X7_eveningLine 28) g_icmp (fun c2 => ?_) (fun c2 => ?_)
    · refine t_go (op := o_aload 38 0) (fe_X7_eveningLine 37) (fun _ _ => rfl) ?_
      refine t_go (op := o_getR 41 6 0) (fe_X7_eveningLine 38) (g_getR hS (show (lay 4).1 = 6 by decide) (by decide) (fr_6_0 hS) (by decide)) ?_
      refine t_call (op := o_callV 44 97 1 8) (fe_X7_eveningLine 41) (g_callV hS (by decide) (by decide) rfl rfl rfl (Nat.le_of_ble_eq_true rfl)) ?_
      refine M_mono ?_ (c_toNext hS hC)
      rintro _ k2 ⟨rfl, hT, hC2⟩
      have hs1 := KVs_T he5 hs hT hC2
      replace hS := hs1.1.std hS0
      have hK1 := NK_v hs1.1 hge hg5 hK0
      refine t_go (op := o_ci 45 (-1)) (fe_X7_eveningLine 44) (fun _ _ => rfl) ?_
      refine t_go (op := o_istore 47 4) (fe_X7_eveningLine 45) (fun _ _ => rfl) ?_
      refine t_go (op := o_iload 48 3) (fe_X7_eveningLine 47) (fun _ _ => rfl) ?_
      refine t_call (op := o_callS 51 2 1) (fe_X7_eveningLine 48) (g_callS rfl rfl rfl (Nat.le_of_ble_eq_true rfl)) ?_
      refine M_eq c_has3 ?_
      refine t_ite (op := o_if 54 69 (fun x => x = 0) (fun _ => inferInstance)) (fe_X7_eveningLine 51) g_if (fun c3 => ?_) (fun c3 => ?_)
      · exact absurd c3 (by decide)
      · clear c3
        refine t_go (op := o_aload 55 0) (fe_X7_eveningLine 54) (fun _ _ => rfl) ?_
        refine t_go (op := o_aload 56 2) (fe_X7_eveningLine 55) (fun _ _ => rfl) ?_
        refine t_call (op := o_callV 59 84 2 6) (fe_X7_eveningLine 56) (g_callV hS (show (lay 4).1 = 6 by decide) (by decide) rfl rfl rfl (Nat.le_of_ble_eq_true rfl)) ?_
        refine M_mono ?_ (c_tEY hS hg hC2 hK1 hN hu)
        rintro _ k5 ⟨rfl, hT5, hC5⟩
        have hs2 := KVs_T he5 hs1 hT5 hC5
        replace hS := hs2.1.std hS0
        refine t_go (op := o_istore 61 4) (fe_X7_eveningLine 59) (fun _ _ => rfl) ?_
        refine t_go (op := o_iload 63 4) (fe_X7_eveningLine 61) (fun _ _ => rfl) ?_
        refine t_go (op := o_ci 64 (-1)) (fe_X7_eveningLine 63) (fun _ _ => rfl) ?_
        refine t_ite (op := o_icmp 69 67 (fun x y => x = y) (fun _ _ => inferInstance)) (fe_X7_eveningLine 64) g_icmp (fun c4 => ?_) (fun c4 => ?_)
        · exact absurd c4 (nI_m1 (by have := hK0.2.1; omega))
        · refine t_go (op := o_ci 70 0) (fe_X7_eveningLine 69) (fun _ _ => rfl) ?_
          refine t_go (op := o_istore 72 5) (fe_X7_eveningLine 70) (fun _ _ => rfl) ?_
          refine t_go (op := o_iload 73 3) (fe_X7_eveningLine 72) (fun _ _ => rfl) ?_
          refine t_go (op := o_ci 74 2) (fe_X7_eveningLine 73) (fun _ _ => rfl) ?_
          refine t_ite (op := o_icmp 89 77 (fun x y => x = y) (fun _ _ => inferInstance)) (fe_X7_eveningLine 74) g_icmp (fun c5 => ?_) (fun c5 => ?_)
          · exact absurd c5 (by decide)
          · clear c5
            refine t_go (op := o_iload 90 3) (fe_X7_eveningLine 89) (fun _ _ => rfl) ?_
            refine t_go (op := o_ci 91 3) (fe_X7_eveningLine 90) (fun _ _ => rfl) ?_
            refine t_ite (op := o_icmp 103 94 (fun x y => x = y) (fun _ _ => inferInstance)) (fe_X7_eveningLine 91) g_icmp (fun c6 => ?_) (fun c6 => ?_)
            · clear c6
              refine t_go (op := o_aload 95 0) (fe_X7_eveningLine 94) (fun _ _ => rfl) ?_
              refine t_go (op := o_ci 96 1) (fe_X7_eveningLine 95) (fun _ _ => rfl) ?_
              refine t_go (op := o_ci 98 9) (fe_X7_eveningLine 96) (fun _ _ => rfl) ?_
              refine t_call (op := o_callV 101 74 3 6) (fe_X7_eveningLine 98) (g_callV hS (show (lay 4).1 = 6 by decide) (by decide) rfl rfl rfl (Nat.le_of_ble_eq_true rfl)) ?_
              refine M_mono ?_ (c_takeNumber (lo := 1) (hi2 := 9) hS hC5 (by decide) (by decide))
              rintro v3 k3 ⟨hy3, _⟩
              obtain ⟨rfl, hT3, hC3⟩ := hy3 hNu
              have hs3 := KVs_T he5 hs2 hT3 hC3
              replace hS := hs3.1.std hS0
              refine t_go (op := o_istore 103 5) (fe_X7_eveningLine 101) (fun _ _ => rfl) ?_
              exact hq _ hs3
            · exact absurd (by decide) c6
    · exact absurd (nI_lt (b := 40) h40 (by decide)) c2
theorem k_q4 {d : Nat} {h0 h : AHP} {e g : Nat} {ch : Nat → Nat} {len i m : Nat} {W : Nat → List Nat} {L : ES} (hS0 : Std h0) (he : (lay e).1 = 0) (he5 : 5 ≤ e) (hg : (lay g).1 = 3) (hg5 : 5 ≤ g) (hge : g + 12 < e) (hK0 : NK h0 g W m) (hs : KVs h0 h e ch len i L) (h40 : L.length < 40) (hw : isWd (tkT ch len) 11 i 0) {Q : Option Value → AHP → Prop} (hq : ∀ h2, KVs h0 h2 e ch len (i + 1) L → TT (d + 5) 83 103 [some (.ref 4), some (.ref e), some (.ref g), some (.int 4), some (.int (-1)), some (.int 0)] [] h2 Q) : MM (d + 5) 83 [.ref 4, .ref e, .ref g] h (fun v h2 => Q v h2) := by
  refine ⟨Nat.le_of_ble_eq_true rfl, ?_⟩
  have hS := hs.1.std hS0
  have hC := hs.2.1
  obtain ⟨K6, hK6, eK⟩ : ∃ x, h.2.2.1 2 6 = x ∧ x = 200000 + kyN (tkT ch len i) := ⟨_, hC.key, rfl⟩
  have hB6 := hC.b i
  have bK : 200000 ≤ K6 ∧ K6 < 200025 := by have := ky_le hB6; omega
  have eK2 : K6 - 200000 = kyN (tkT ch len i) := by omega
  refine t_go (op := o_aload 1 0) (fe_X7_eveningLine 0) (fun _ _ => rfl) ?_
  refine t_go (op := o_getR 4 6 0) (fe_X7_eveningLine 1) (g_getR hS (show (lay 4).1 = 6 by decide) (by decide) (fr_6_0 hS) (by decide)) ?_
  refine t_go (op := o_getR 7 8 6) (fe_X7_eveningLine 4) (g_getR hS (by decide) (by decide) hK6 (by omega)) ?_
  refine t_call (op := o_callS 10 1 1) (fe_X7_eveningLine 7) (g_callS rfl rfl rfl (Nat.le_of_ble_eq_true rfl)) ?_
  refine M_eq (c_actOf eK (by have := ky_le hB6; omega)) ?_
  rw [show acF (kyN (tkT ch len i)) = 4 from ac_y (q := 4) ⟨hw.2.1, hw.2.2⟩ (by decide)]
  refine t_go (op := o_istore 11 3) (fe_X7_eveningLine 10) (fun _ _ => rfl) ?_
  refine t_go (op := o_iload 12 3) (fe_X7_eveningLine 11) (fun _ _ => rfl) ?_
  refine t_go (op := o_ci 13 (-1)) (fe_X7_eveningLine 12) (fun _ _ => rfl) ?_
  refine t_ite (op := o_icmp 22 16 (fun x y => x = y) (fun _ _ => inferInstance)) (fe_X7_eveningLine 13) g_icmp (fun c1 => ?_) (fun c1 => ?_)
  · exact absurd c1 (by decide)
  · clear c1
    refine t_go (op := o_aload 23 1) (fe_X7_eveningLine 22) (fun _ _ => rfl) ?_
    refine t_go (op := o_getI 26 0 3) (fe_X7_eveningLine 23) (g_getI hS he (by decide)) ?_
    rw [hs.2.2.1]
    refine t_go (op := o_ci 28 40) (fe_X7_eveningLine 26) (fun _ _ => rfl) ?_
    refine t_ite (op := o_icmp 31 37 (fun x y => x < y) (fun _ _ => inferInstance)) (fe_X7_eveningLine 28) g_icmp (fun c2 => ?_) (fun c2 => ?_)
    · refine t_go (op := o_aload 38 0) (fe_X7_eveningLine 37) (fun _ _ => rfl) ?_
      refine t_go (op := o_getR 41 6 0) (fe_X7_eveningLine 38) (g_getR hS (show (lay 4).1 = 6 by decide) (by decide) (fr_6_0 hS) (by decide)) ?_
      refine t_call (op := o_callV 44 97 1 8) (fe_X7_eveningLine 41) (g_callV hS (by decide) (by decide) rfl rfl rfl (Nat.le_of_ble_eq_true rfl)) ?_
      refine M_mono ?_ (c_toNext hS hC)
      rintro _ k2 ⟨rfl, hT, hC2⟩
      have hs1 := KVs_T he5 hs hT hC2
      replace hS := hs1.1.std hS0
      have hK1 := NK_v hs1.1 hge hg5 hK0
      refine t_go (op := o_ci 45 (-1)) (fe_X7_eveningLine 44) (fun _ _ => rfl) ?_
      refine t_go (op := o_istore 47 4) (fe_X7_eveningLine 45) (fun _ _ => rfl) ?_
      refine t_go (op := o_iload 48 3) (fe_X7_eveningLine 47) (fun _ _ => rfl) ?_
      refine t_call (op := o_callS 51 2 1) (fe_X7_eveningLine 48) (g_callS rfl rfl rfl (Nat.le_of_ble_eq_true rfl)) ?_
      refine M_eq c_has4 ?_
      refine t_ite (op := o_if 54 69 (fun x => x = 0) (fun _ => inferInstance)) (fe_X7_eveningLine 51) g_if (fun c3 => ?_) (fun c3 => ?_)
      · clear c3
        refine t_go (op := o_ci 70 0) (fe_X7_eveningLine 69) (fun _ _ => rfl) ?_
        refine t_go (op := o_istore 72 5) (fe_X7_eveningLine 70) (fun _ _ => rfl) ?_
        refine t_go (op := o_iload 73 3) (fe_X7_eveningLine 72) (fun _ _ => rfl) ?_
        refine t_go (op := o_ci 74 2) (fe_X7_eveningLine 73) (fun _ _ => rfl) ?_
        refine t_ite (op := o_icmp 89 77 (fun x y => x = y) (fun _ _ => inferInstance)) (fe_X7_eveningLine 74) g_icmp (fun c4 => ?_) (fun c4 => ?_)
        · exact absurd c4 (by decide)
        · clear c4
          refine t_go (op := o_iload 90 3) (fe_X7_eveningLine 89) (fun _ _ => rfl) ?_
          refine t_go (op := o_ci 91 3) (fe_X7_eveningLine 90) (fun _ _ => rfl) ?_
          refine t_ite (op := o_icmp 103 94 (fun x y => x = y) (fun _ _ => inferInstance)) (fe_X7_eveningLine 91) g_icmp (fun c5 => ?_) (fun c5 => ?_)
          · exact absurd c5 (by decide)
          · clear c5
            exact hq _ hs1
      · exact absurd (by decide) c3
    · exact absurd (nI_lt (b := 40) h40 (by decide)) c2
theorem k_vN {d : Nat} {h0 h : AHP} {e g : Nat} {ch : Nat → Nat} {len i m : Nat} {W : Nat → List Nat} {L : ES} (hS0 : Std h0) (he : (lay e).1 = 0) (he5 : 5 ≤ e) (hg : (lay g).1 = 3) (hg5 : 5 ≤ g) (hge : g + 12 < e) (hK0 : NK h0 g W m) (hs : KVs h0 h e ch len i L) {a : Nat} {y z : Int32} (hz1 : ¬ z = -1) (hw : ¬ isS (tkT ch len) 59 i 0) {Q : Option Value → AHP → Prop} (hq : ∀ h2, KVF h0 h2 e (wrF (tkT ch len) 1 i 0) → Q (some (.int 0)) h2) : TT (d + 5) 83 103 [some (.ref 4), some (.ref e), some (.ref g), some (.int (nI a)), some (.int y), some (.int z)] [] h Q := by
  have hS := hs.1.std hS0
  have hC := hs.2.1
  refine t_go (op := o_iload 105 5) (fe_X7_eveningLine 103) (fun _ _ => rfl) ?_
  refine t_go (op := o_ci 106 (-1)) (fe_X7_eveningLine 105) (fun _ _ => rfl) ?_
  refine t_ite (op := o_icmp 109 118 (fun x y => x = y) (fun _ _ => inferInstance)) (fe_X7_eveningLine 106) g_icmp (fun c1 => ?_) (fun c1 => ?_)
  · exact absurd c1 hz1
  · refine t_go (op := o_aload 110 0) (fe_X7_eveningLine 109) (fun _ _ => rfl) ?_
    refine t_go (op := o_ci 112 59) (fe_X7_eveningLine 110) (fun _ _ => rfl) ?_
    refine t_call (op := o_callV 115 73 2 6) (fe_X7_eveningLine 112) (g_callV hS (show (lay 4).1 = 6 by decide) (by decide) rfl rfl rfl (Nat.le_of_ble_eq_true rfl)) ?_
    refine M_mono ?_ (c_takeSign (c := 59) hS hC (by decide))
    rintro v3 k3 ⟨_, hn3⟩
    obtain ⟨rfl, rfl⟩ := hn3 hw
    refine t_ite (op := o_if 120 118 (fun x => x = 0) (fun _ => inferInstance)) (fe_X7_eveningLine 115) g_if (fun c2 => ?_) (fun c2 => ?_)
    · clear c2
      refine t_go (op := o_ci 119 0) (fe_X7_eveningLine 118) (fun _ _ => rfl) ?_
      refine t_ret (op := o_zret) (fe_X7_eveningLine 119) (g_zret (Or.inl rfl)) ?_
      exact hq _ (KVF_w hs)
    · exact absurd (by decide) c2
theorem k_vY {d : Nat} {h0 h : AHP} {e g : Nat} {ch : Nat → Nat} {len i m : Nat} {W : Nat → List Nat} {L : ES} (hS0 : Std h0) (he : (lay e).1 = 0) (he5 : 5 ≤ e) (hg : (lay g).1 = 3) (hg5 : 5 ≤ g) (hge : g + 12 < e) (hK0 : NK h0 g W m) (hs : KVs h0 h e ch len i L) {a : Nat} {y z : Int32} (hz1 : ¬ z = -1) {ix x : Nat} (hw : isS (tkT ch len) 59 i 0) (h40 : L.length < 40) (hy : 1 ≤ a → a ≤ 3 → y = nI ix ∧ z = nI x) {Q : Option Value → AHP → Prop} (hq : ∀ h2, KVs h0 h2 e ch len (i + 1) (L ++ [(a, ix, x)]) → Q (some (.int 1)) h2) : TT (d + 5) 83 103 [some (.ref 4), some (.ref e), some (.ref g), some (.int (nI a)), some (.int y), some (.int z)] [] h Q := by
  have hS := hs.1.std hS0
  have hC := hs.2.1
  refine t_go (op := o_iload 105 5) (fe_X7_eveningLine 103) (fun _ _ => rfl) ?_
  refine t_go (op := o_ci 106 (-1)) (fe_X7_eveningLine 105) (fun _ _ => rfl) ?_
  refine t_ite (op := o_icmp 109 118 (fun x y => x = y) (fun _ _ => inferInstance)) (fe_X7_eveningLine 106) g_icmp (fun c1 => ?_) (fun c1 => ?_)
  · exact absurd c1 hz1
  · refine t_go (op := o_aload 110 0) (fe_X7_eveningLine 109) (fun _ _ => rfl) ?_
    refine t_go (op := o_ci 112 59) (fe_X7_eveningLine 110) (fun _ _ => rfl) ?_
    refine t_call (op := o_callV 115 73 2 6) (fe_X7_eveningLine 112) (g_callV hS (show (lay 4).1 = 6 by decide) (by decide) rfl rfl rfl (Nat.le_of_ble_eq_true rfl)) ?_
    refine M_mono ?_ (c_takeSign (c := 59) hS hC (by decide))
    rintro v3 k3 ⟨hy3, _⟩
    obtain ⟨rfl, hT3, hC3⟩ := hy3 hw
    have hs2 := KVs_T he5 hs hT3 hC3
    replace hS := hs2.1.std hS0
    refine t_ite (op := o_if 120 118 (fun x => x = 0) (fun _ => inferInstance)) (fe_X7_eveningLine 115) g_if (fun c2 => ?_) (fun c2 => ?_)
    · exact absurd c2 (by decide)
    · clear c2
      refine t_go (op := o_aload 121 1) (fe_X7_eveningLine 120) (fun _ _ => rfl) ?_
      refine t_go (op := o_iload 122 3) (fe_X7_eveningLine 121) (fun _ _ => rfl) ?_
      refine t_go (op := o_iload 124 4) (fe_X7_eveningLine 122) (fun _ _ => rfl) ?_
      refine t_go (op := o_iload 126 5) (fe_X7_eveningLine 124) (fun _ _ => rfl) ?_
      refine t_call (op := o_callV 129 4 4 0) (fe_X7_eveningLine 126) (g_callV hS he (by decide) rfl rfl rfl (Nat.le_of_ble_eq_true rfl)) ?_
      refine M_eq (c_evAdd (m := L.length) hS he hs2.2.2.1 h40) ?_
      refine t_go (op := o_ci 130 1) (fe_X7_eveningLine 129) (fun _ _ => rfl) ?_
      refine t_ret (op := o_zret) (fe_X7_eveningLine 130) (g_zret (Or.inr rfl)) ?_
      exact hq _ (KVs_ad he5 hs2 hy)
