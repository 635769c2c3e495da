/-! ===== the class's reader: the leaves ===== -/
theorem numN_b {ch : Nat → Nat} : ∀ (j p a : Nat), (∀ i, p ≤ i → i < p + j → ch i - 48 ≤ 9) → numN ch j p a + 1 ≤ (a + 1) * 10 ^ j := by
  intro j
  induction j with
  | zero => intro p a _; rw [numN]; omega
  | succ j ih =>
    intro p a h
    have h1 := ih (p + 1) (10 * a + (ch p - 48)) (fun i h1 h2 => h i (by omega) (by omega))
    have h2 := h p (Nat.le_refl _) (by omega)
    rw [numN, Nat.pow_succ, Nat.mul_comm (10 ^ j) 10, ← Nat.mul_assoc]
    exact Nat.le_trans h1 (Nat.mul_le_mul_right _ (by omega))
theorem tk_b {r : Nat → Int32} {ch : Nat → Nat} {len : Nat} (hC : CHr r ch len) (hlen : len ≤ 1000) (i : Nat) : TKb (tkT ch len i) := by
  have h0 := posT_le (ch := ch) (len := len) i
  have h1 := rnE_le (P := iB) (ch := ch) (len - posT ch len i) (posT ch len i)
  unfold tkT tokN
  obtain ⟨q, eq⟩ : ∃ q, rnE iB ch (len - posT ch len i) (posT ch len i) = q := ⟨_, rfl⟩
  rw [eq] at h1 ⊢
  have hq : q ≤ len := by omega
  unfold tokA
  by_cases c0 : len ≤ q
  · rw [if_pos c0]; exact ⟨by show 0 ≤ 4; omega, by show q ≤ 1000; omega, by show 0 < 10000; omega, fun e => by cases e⟩
  · rw [if_neg c0]
    by_cases c1 : iL (ch q) = true
    · rw [if_pos c1]
      by_cases c2 : rnE iL ch (len - q) q - q ≤ 8
      · rw [if_pos c2]
        have hqe : q < rnE iL ch (len - q) q := by
          rw [show len - q = (len - q - 1) + 1 by omega, rnE, if_pos c1]
          have := (rnE_le (P := iL) (ch := ch) (len - q - 1) (q + 1)).1
          omega
        have hw : okW (lts ch (rnE iL ch (len - q) q - q) q) := ⟨by rw [lts_len]; omega, by rw [lts_len]; exact c2, fun c hc => by
          obtain ⟨i, i1, i2, i3⟩ := lts_mem _ _ hc
          have h3 := rnE_in (P := iL) (ch := ch) (len - q) q i i1 (by omega)
          have h4 := iL_1 h3
          have h5 := iL_2 h3
          omega⟩
        exact ⟨by show 1 ≤ 4; omega, by show q ≤ 1000; omega, by have := kw_le (lts ch (rnE iL ch (len - q) q - q) q); show kw _ < 10000; omega, fun _ => ⟨hw, rfl⟩⟩
      · rw [if_neg c2]; exact ⟨by show 4 ≤ 4; omega, by show q ≤ 1000; omega, by show 0 < 10000; omega, fun e => by cases e⟩
    · rw [if_neg c1]
      by_cases c3 : iD (ch q) = true
      · rw [if_pos c3]
        by_cases c2 : rnE iD ch (len - q) q - q ≤ 4
        · rw [if_pos c2]
          have hb := numN_b (ch := ch) (rnE iD ch (len - q) q - q) q 0 (fun i i1 i2 => by
            have h3 := rnE_in (P := iD) (ch := ch) (len - q) q i i1 (by omega)
            have := iD_2 h3
            omega)
          have hp : 10 ^ (rnE iD ch (len - q) q - q) ≤ 10 ^ 4 := Nat.pow_le_pow_right (by decide) c2
          exact ⟨by show 2 ≤ 4; omega, by show q ≤ 1000; omega, by show numN ch (rnE iD ch (len - q) q - q) q 0 < 10000; omega, fun e => by cases e⟩
        · rw [if_neg c2]; exact ⟨by show 4 ≤ 4; omega, by show q ≤ 1000; omega, by show 0 < 10000; omega, fun e => by cases e⟩
      · rw [if_neg c3]
        have hc := hC.lt (i := q) (by omega)
        by_cases c4 : iG (ch q) = true
        · rw [if_pos c4]; exact ⟨by show 3 ≤ 4; omega, by show q ≤ 1000; omega, by show ch q < 10000; omega, fun e => by cases e⟩
        · rw [if_neg c4]; exact ⟨by show 4 ≤ 4; omega, by show q ≤ 1000; omega, by show 0 < 10000; omega, fun e => by cases e⟩
theorem cSo_4 : ∀ s, s ≤ 4 → (nI (cSo s) = 4 ↔ s = 3) := by decide +kernel
theorem cSo_3 : ∀ s, s ≤ 4 → (nI (cSo s) = 3 ↔ s = 2) := by decide +kernel
theorem CU.b {h : AHP} {ch : Nat → Nat} {len i : Nat} (hC : CU h ch len i) (j : Nat) : TKb (tkT ch len j) := tk_b hC.1 hC.2.1 j
def kyN (t : Tk) : Nat := if t.1 = 1 then t.2.2.1 else 24
theorem CU.key {h : AHP} {ch : Nat → Nat} {len i : Nat} (hC : CU h ch len i) : h.2.2.1 2 6 = 200000 + kyN (tkT ch len i) := hC.2.2.2.2.2.2.2.1
theorem c_isSign {d : Nat} {h : AHP} {ch : Nat → Nat} {len i : Nat} (hS : Std h) (hC : CU h ch len i) {c : Nat} (hc : c < 10000) : MM d 98 [.ref 2, .int (nI c)] h (fun v h2 => v = some (.int (b2i (isS (tkT ch len) c i 0))) ∧ h2 = h) := by
  refine ⟨Nat.le_of_ble_eq_true rfl, ?_⟩
  have hB := hC.b i
  refine t_go (op := o_aload 1 0) (fe_X9_isSign 0) (fun _ _ => rfl) ?_
  refine t_go (op := o_getI 4 8 2) (fe_X9_isSign 1) (g_getI hS (show (lay 2).1 = 8 by decide) (by decide)) ?_
  rw [show h.1 2 2 = nI (cSo (tkT ch len i).1) from hC.2.2.2.1]
  refine t_go (op := o_ci 5 4) (fe_X9_isSign 4) (fun _ _ => rfl) ?_
  refine t_ite (op := o_icmp 20 8 (fun x y => x = y) (fun _ _ => inferInstance)) (fe_X9_isSign 5) g_icmp (fun c1 => ?_) (fun c1 => ?_)
  · refine t_go (op := o_aload 9 0) (fe_X9_isSign 8) (fun _ _ => rfl) ?_
    refine t_go (op := o_getI 12 8 4) (fe_X9_isSign 9) (g_getI hS (show (lay 2).1 = 8 by decide) (by decide)) ?_
    rw [show h.1 2 4 = nI (tkT ch len i).2.2.1 from hC.2.2.2.2.2.1 (Or.inr ((cSo_4 _ hB.1).mp c1))]
    refine t_go (op := o_iload 13 1) (fe_X9_isSign 12) (fun _ _ => rfl) ?_
    refine t_ite (op := o_icmp 20 16 (fun x y => x = y) (fun _ _ => inferInstance)) (fe_X9_isSign 13) g_icmp (fun c2 => ?_) (fun c2 => ?_)
    · refine t_go (op := o_ci 17 1) (fe_X9_isSign 16) (fun _ _ => rfl) ?_
      refine t_go (op := o_goto 21) (fe_X9_isSign 17) (fun _ _ => rfl) ?_
      refine t_ret (op := o_zret) (fe_X9_isSign 21) (g_zret (Or.inr rfl)) ?_
      exact ⟨congrArg (fun z => some (Value.int z)) (b2i_t (show isS (tkT ch len) c i 0 from ⟨rfl, (cSo_4 _ hB.1).mp c1, nI_inj (by have := hB.2.2.1; omega) (by omega) c2⟩)).symm, rfl⟩
    · refine t_go (op := o_ci 21 0) (fe_X9_isSign 20) (fun _ _ => rfl) ?_
      refine t_ret (op := o_zret) (fe_X9_isSign 21) (g_zret (Or.inl rfl)) ?_
      exact ⟨congrArg (fun z => some (Value.int z)) (b2i_f (fun q : isS (tkT ch len) c i 0 => c2 (by rw [q.2.2]))).symm, rfl⟩
  · refine t_go (op := o_ci 21 0) (fe_X9_isSign 20) (fun _ _ => rfl) ?_
    refine t_ret (op := o_zret) (fe_X9_isSign 21) (g_zret (Or.inl rfl)) ?_
    exact ⟨congrArg (fun z => some (Value.int z)) (b2i_f (fun q : isS (tkT ch len) c i 0 => c1 ((cSo_4 _ hB.1).mpr q.2.1))).symm, rfl⟩
theorem c_wrong {d : Nat} {h : AHP} {ch : Nat → Nat} {len i : Nat} (hS : Std h) (hC : CU h ch len i) {c : Nat} : MM d 71 [.ref 4, .int (nI c)] h (fun v h2 => v = some (.int 0) ∧ h2 = sI h 4 1 (nI (wrF (tkT ch len) c i 0))) := by
  refine ⟨Nat.le_of_ble_eq_true rfl, ?_⟩
  refine t_go (op := o_aload 1 0) (fe_X7_wrong 0) (fun _ _ => rfl) ?_
  refine t_go (op := o_iload 2 1) (fe_X7_wrong 1) (fun _ _ => rfl) ?_
  refine t_go (op := o_ci 4 16) (fe_X7_wrong 2) (fun _ _ => rfl) ?_
  refine t_go (op := o_aload 5 0) (fe_X7_wrong 4) (fun _ _ => rfl) ?_
  refine t_go (op := o_getR 8 6 0) (fe_X7_wrong 5) (g_getR hS (show (lay 4).1 = 6 by decide) (by decide) (fr_6_0 hS) (by decide)) ?_
  refine t_go (op := o_getI 11 8 3) (fe_X7_wrong 8) (g_getI hS (by decide) (by decide)) ?_
  rw [show h.1 2 3 = nI (tkT ch len i).2.1 from hC.2.2.2.2.1]
  refine t_go (op := o_i2 12 (fun x y => x * y)) (fe_X7_wrong 11) (fun _ _ => rfl) ?_
  refine t_go (op := o_i2 13 (fun x y => x + y)) (fe_X7_wrong 12) (fun _ _ => rfl) ?_
  refine t_go (op := o_putI 16 6 1) (fe_X7_wrong 13) (g_putI hS (show (lay 4).1 = 6 by decide) (by decide)) ?_
  refine t_go (op := o_ci 17 0) (fe_X7_wrong 16) (fun _ _ => rfl) ?_
  refine t_ret (op := o_zret) (fe_X7_wrong 17) (g_zret (Or.inl rfl)) ?_
  exact ⟨rfl, congrArg (sI h 4 1) ((show (fun x y : Int32 => x + y) (nI c) ((fun x y : Int32 => x * y) 16 (nI (tkT ch len i).2.1)) = nI (c + 16 * (tkT ch len i).2.1) from nIa rfl (nIm (nIl 16) rfl)).trans (by rw [wrF, if_pos rfl]))⟩
theorem c_takeSign {d : Nat} {h : AHP} {ch : Nat → Nat} {len i : Nat} (hS : Std h) (hC : CU h ch len i) {c : Nat} (hc : c < 10000) : MM (d + 2) 73 [.ref 4, .int (nI c)] h (fun v h2 => (isS (tkT ch len) c i 0 → v = some (.int 1) ∧ Tf h h2 ∧ CU h2 ch len (i + 1)) ∧ (¬ isS (tkT ch len) c i 0 → v = some (.int 0) ∧ h2 = sI h 4 1 (nI (wrF (tkT ch len) 1 i 0)))) := by
  refine ⟨Nat.le_of_ble_eq_true rfl, ?_⟩
  refine t_go (op := o_aload 1 0) (fe_X7_takeSign 0) (fun _ _ => rfl) ?_
  refine t_go (op := o_getR 4 6 0) (fe_X7_takeSign 1) (g_getR hS (show (lay 4).1 = 6 by decide) (by decide) (fr_6_0 hS) (by decide)) ?_
  refine t_go (op := o_iload 5 1) (fe_X7_takeSign 4) (fun _ _ => rfl) ?_
  refine t_call (op := o_callV 8 98 2 8) (fe_X7_takeSign 5) (g_callV hS (by decide) (by decide) rfl rfl rfl (Nat.le_of_ble_eq_true rfl)) ?_
  refine M_eq (c_isSign hS hC hc) ?_
  refine t_ite (op := o_if 17 11 (fun x => x = 0) (fun _ => inferInstance)) (fe_X7_takeSign 8) g_if (fun c1 => ?_) (fun c1 => ?_)
  · replace c1 := b2i_z c1
    refine t_go (op := o_aload 12 0) (fe_X7_takeSign 11) (fun _ _ => rfl) ?_
    refine t_go (op := o_ci 13 1) (fe_X7_takeSign 12) (fun _ _ => rfl) ?_
    refine t_call (op := o_callV 16 71 2 6) (fe_X7_takeSign 13) (g_callV hS (show (lay 4).1 = 6 by decide) (by decide) rfl rfl rfl (Nat.le_of_ble_eq_true rfl)) ?_
    refine M_eq (c_wrong (c := 1) hS hC) ?_
    refine t_ret (op := o_zret) (fe_X7_takeSign 16) (g_zret (Or.inl rfl)) ?_
    exact ⟨fun q => absurd q c1, fun _ => ⟨rfl, rfl⟩⟩
  · replace c1 := b2i_nn c1
    refine t_go (op := o_aload 18 0) (fe_X7_takeSign 17) (fun _ _ => rfl) ?_
    refine t_go (op := o_getR 21 6 0) (fe_X7_takeSign 18) (g_getR hS (show (lay 4).1 = 6 by decide) (by decide) (fr_6_0 hS) (by decide)) ?_
    refine t_call (op := o_callV 24 97 1 8) (fe_X7_takeSign 21) (g_callV hS (by decide) (by decide) rfl rfl rfl (Nat.le_of_ble_eq_true rfl)) ?_
    refine M_mono ?_ (c_toNext hS hC)
    rintro _ k2 ⟨rfl, hT, hC2⟩
    replace hS := hT.std hS
    refine t_go (op := o_ci 25 1) (fe_X7_takeSign 24) (fun _ _ => rfl) ?_
    refine t_ret (op := o_zret) (fe_X7_takeSign 25) (g_zret (Or.inr rfl)) ?_
    exact ⟨fun _ => ⟨rfl, hT, hC2⟩, fun q => absurd c1 q⟩
