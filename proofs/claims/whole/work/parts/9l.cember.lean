/-! ===== the class reads a grate: leaves ===== -/
theorem kCan_n : ∀ c, c < 25 → kCan c = (if 19 ≤ c ∧ c < 24 then 1 else 0) := by decide +kernel
theorem kKind_n : ∀ c, c < 25 → kKind c = (if 12 ≤ c ∧ c < 16 then nI (c - 12) else -1) := by decide +kernel
theorem can_y {t : Tk} (hb : TKb t) (h : t.1 = 1 ∧ 19 ≤ t.2.2.1) : kCan (kyN t) = 1 := by
  have hk := ky_le hb
  rw [kCan_n _ (by omega)]
  have e : kyN t = t.2.2.1 := if_pos h.1
  have h2 := hb.2.2.2 h.1
  have h3 := kw_le t.2.2.2.1
  rw [if_pos (by rw [e]; omega)]
theorem can_n {t : Tk} (hb : TKb t) (h : ¬ (t.1 = 1 ∧ 19 ≤ t.2.2.1)) : kCan (kyN t) = 0 := by
  have hk := ky_le hb
  rw [kCan_n _ (by omega)]
  unfold kyN
  by_cases q : t.1 = 1
  · rw [if_pos q, if_neg (fun w => h ⟨q, w.1⟩)]
  · rw [if_neg q, if_neg (by decide)]
theorem kind_y {t : Tk} (hb : TKb t) (h : t.1 = 1 ∧ 12 ≤ t.2.2.1 ∧ t.2.2.1 < 16) : kKind (kyN t) = nI (t.2.2.1 - 12) := by
  have hk := ky_le hb
  rw [kKind_n _ (by omega)]
  have e : kyN t = t.2.2.1 := if_pos h.1
  rw [e, if_pos h.2]
theorem kind_n {t : Tk} (hb : TKb t) (h : ¬ (t.1 = 1 ∧ 12 ≤ t.2.2.1 ∧ t.2.2.1 < 16)) : kKind (kyN t) = -1 := by
  have hk := ky_le hb
  rw [kKind_n _ (by omega)]
  unfold kyN
  by_cases q : t.1 = 1
  · rw [if_pos q, if_neg (fun w => h ⟨q, w⟩)]
  · rw [if_neg q, if_neg (by decide)]
theorem FIp_n {P : Nat → Prop} {m : Nat} {a : Int32} (h : FIp P m a) (hu : ¬ ∃ k, k < m ∧ P k) : a = -1 := by
  rcases h with ⟨k, k1, k2, _⟩ | ⟨_, k2⟩
  · exact absurd ⟨k, k1, k2⟩ hu
  · exact k2
theorem FIp_e {P : Nat → Prop} {m : Nat} {a : Int32} (hm : m ≤ 7) (h : FIp P m a) (hu : ∃ k, k < m ∧ P k) : ¬ a = -1 := by
  rcases h with ⟨k, k1, k2, _, k4⟩ | ⟨k1, _⟩
  · rw [k4]; exact nI_m1 (by omega)
  · obtain ⟨k, q1, q2⟩ := hu
    exact absurd q2 (k1 k q1)
theorem c_forget {d : Nat} {h : AHP} {g : Nat} (hS : Std h) (hg : (lay g).1 = 3) : MM (d + 3) 50 [.ref g] h (fun v h2 => v = none ∧ h2 = sI (sI (sI (sI (sI (setF h (g + 3) (clearF (fs h (g + 3)))) (g + 8) 3 0) g 4 0) g 5 5) g 6 0) g 7 0) := by
  refine ⟨Nat.le_of_ble_eq_true rfl, ?_⟩
  refine t_go (op := o_aload 1 0) (fe_X3_forget 0) (fun _ _ => rfl) ?_
  refine t_go (op := o_getR 4 3 2) (fe_X3_forget 1) (g_getR hS hg (by decide) (fr_3_2 hS hg) (Nat.succ_pos _)) ?_
  refine t_call (op := o_callV 7 6 1 1) (fe_X3_forget 4) (g_callV hS (lay_fst (ly_3_3 hg)) (by decide) rfl rfl rfl (Nat.le_of_ble_eq_true rfl)) ?_
  refine M_eq (M_heap (h' := setF h (g + 3) (fs h (g + 3))) setF_fs (m_clear hS (lay_fst (ly_3_3 hg)))) ?_
  refine t_go (op := o_aload 8 0) (fe_X3_forget 7) (fun _ _ => rfl) ?_
  refine t_go (op := o_getR 11 3 3) (fe_X3_forget 8) (g_getR hS hg (by decide) (fr_3_3 hS hg) (Nat.succ_pos _)) ?_
  refine t_go (op := o_ci 12 0) (fe_X3_forget 11) (fun _ _ => rfl) ?_
  refine t_go (op := o_putI 15 4 3) (fe_X3_forget 12) (g_putI hS (lay_fst (ly_3_8 hg)) (by decide)) ?_
  refine t_go (op := o_aload 16 0) (fe_X3_forget 15) (fun _ _ => rfl) ?_
  refine t_go (op := o_ci 17 0) (fe_X3_forget 16) (fun _ _ => rfl) ?_
  refine t_go (op := o_putI 20 3 4) (fe_X3_forget 17) (g_putI hS hg (by decide)) ?_
  refine t_go (op := o_aload 21 0) (fe_X3_forget 20) (fun _ _ => rfl) ?_
  refine t_go (op := o_ci 22 5) (fe_X3_forget 21) (fun _ _ => rfl) ?_
  refine t_go (op := o_putI 25 3 5) (fe_X3_forget 22) (g_putI hS hg (by decide)) ?_
  refine t_go (op := o_aload 26 0) (fe_X3_forget 25) (fun _ _ => rfl) ?_
  refine t_go (op := o_ci 27 0) (fe_X3_forget 26) (fun _ _ => rfl) ?_
  refine t_go (op := o_putZ 30 3 6) (fe_X3_forget 27) (g_putZ hS hg (by decide) (by decide)) ?_
  refine t_go (op := o_aload 31 0) (fe_X3_forget 30) (fun _ _ => rfl) ?_
  refine t_go (op := o_ci 32 0) (fe_X3_forget 31) (fun _ _ => rfl) ?_
  refine t_go (op := o_putI 35 3 7) (fe_X3_forget 32) (g_putI hS hg (by decide)) ?_
  refine t_ret (op := o_vret) (fe_X3_forget 35) (fun _ _ => rfl) ?_
  exact ⟨rfl, rfl⟩
theorem c_addEmber {d : Nat} {h : AHP} {g m : Nat} {x : Int64} {y : Int32} (hS : Std h) (hg : (lay g).1 = 3) (hm : h.1 g 4 = nI m) (hm7 : m < 7) : MM d 51 [.ref g, .long x, .int y] h (fun v h2 => v = none ∧ h2 = sI (sI (sJ h (g + 1) m x) (g + 2) m y) g 4 (nI (m + 1))) := by
  refine ⟨Nat.le_of_ble_eq_true rfl, ?_⟩
  refine t_go (op := o_aload 1 0) (fe_X3_addEmber 0) (fun _ _ => rfl) ?_
  refine t_go (op := o_getI 4 3 4) (fe_X3_addEmber 1) (g_getI hS hg (by decide)) ?_
  rw [show h.1 g 4 = nI m from hm]
  refine t_go (op := o_ci 6 7) (fe_X3_addEmber 4) (fun _ _ => rfl) ?_
  refine t_ite (op := o_icmp 9 39 (fun x y => y ≤ x) (fun _ _ => inferInstance)) (fe_X3_addEmber 6) g_icmp (fun c1 => ?_) (fun c1 => ?_)
  · exact absurd ((nI_leI (a := 7) (b := m) (by decide) (by omega)).mp c1) (by omega)
  · refine t_go (op := o_aload 10 0) (fe_X3_addEmber 9) (fun _ _ => rfl) ?_
    refine t_go (op := o_getR 13 3 0) (fe_X3_addEmber 10) (g_getR hS hg (by decide) (fr_3_0 hS hg) (Nat.succ_pos _)) ?_
    refine t_go (op := o_aload 14 0) (fe_X3_addEmber 13) (fun _ _ => rfl) ?_
    refine t_go (op := o_getI 17 3 4) (fe_X3_addEmber 14) (g_getI hS hg (by decide)) ?_
    rw [show h.1 g 4 = nI m from hm]
    refine t_go (op := o_lload 18 1) (fe_X3_addEmber 17) (fun _ _ => rfl) ?_
    refine t_go (op := o_last 19) (fe_X3_addEmber 18) (g_lastN hS (ly_3_1 hg) rfl (by omega) (by decide)) ?_
    refine t_go (op := o_aload 20 0) (fe_X3_addEmber 19) (fun _ _ => rfl) ?_
    refine t_go (op := o_getR 23 3 1) (fe_X3_addEmber 20) (g_getR hS hg (by decide) (fr_3_1 hS hg) (Nat.succ_pos _)) ?_
    refine t_go (op := o_aload 24 0) (fe_X3_addEmber 23) (fun _ _ => rfl) ?_
    refine t_go (op := o_getI 27 3 4) (fe_X3_addEmber 24) (g_getI hS hg (by decide)) ?_
    rw [show (sJ h (g + 1) m x).1 g 4 = nI m from hm]
    refine t_go (op := o_iload 28 3) (fe_X3_addEmber 27) (fun _ _ => rfl) ?_
    refine t_go (op := o_iast 29) (fe_X3_addEmber 28) (g_iastN hS (ly_3_2 hg) rfl (by omega) (by decide)) ?_
    refine t_go (op := o_aload 30 0) (fe_X3_addEmber 29) (fun _ _ => rfl) ?_
    refine t_go (op := o_dupA 31) (fe_X3_addEmber 30) (fun _ _ => rfl) ?_
    refine t_go (op := o_getI 34 3 4) (fe_X3_addEmber 31) (g_getI hS hg (by decide)) ?_
    rw [show (sI (sJ h (g + 1) m x) (g + 2) m y).1 g 4 = nI m from (congrFun (sI_ne (by omega)) 4).trans hm]
    refine t_go (op := o_ci 35 1) (fe_X3_addEmber 34) (fun _ _ => rfl) ?_
    refine t_go (op := o_i2 36 (fun x y => x + y)) (fe_X3_addEmber 35) (fun _ _ => rfl) ?_
    refine t_go (op := o_putI 39 3 4) (fe_X3_addEmber 36) (g_putI hS hg (by decide)) ?_
    refine t_ret (op := o_vret) (fe_X3_addEmber 39) (fun _ _ => rfl) ?_
    exact ⟨rfl, congrArg (sI (sI (sJ h (g + 1) m x) (g + 2) m y) g 4) (nI_1 m)⟩
theorem c_addDraught {d : Nat} {h : AHP} {g m : Nat} {y : Int32} (hS : Std h) (hg : (lay g).1 = 3) (hm : h.1 g 7 = nI m) (hm7 : m < 12) : MM d 52 [.ref g, .int y] h (fun v h2 => v = none ∧ h2 = sI (sI h (g + 12) m y) g 7 (nI (m + 1))) := by
  refine ⟨Nat.le_of_ble_eq_true rfl, ?_⟩
  refine t_go (op := o_aload 1 0) (fe_X3_addDraught 0) (fun _ _ => rfl) ?_
  refine t_go (op := o_getI 4 3 7) (fe_X3_addDraught 1) (g_getI hS hg (by decide)) ?_
  rw [show h.1 g 7 = nI m from hm]
  refine t_go (op := o_ci 6 12) (fe_X3_addDraught 4) (fun _ _ => rfl) ?_
  refine t_ite (op := o_icmp 9 29 (fun x y => y ≤ x) (fun _ _ => inferInstance)) (fe_X3_addDraught 6) g_icmp (fun c1 => ?_) (fun c1 => ?_)
  · exact absurd ((nI_leI (a := 12) (b := m) (by decide) (by omega)).mp c1) (by omega)
  · refine t_go (op := o_aload 10 0) (fe_X3_addDraught 9) (fun _ _ => rfl) ?_
    refine t_go (op := o_getR 13 3 8) (fe_X3_addDraught 10) (g_getR hS hg (by decide) (fr_3_8 hS hg) (Nat.succ_pos _)) ?_
    refine t_go (op := o_aload 14 0) (fe_X3_addDraught 13) (fun _ _ => rfl) ?_
    refine t_go (op := o_getI 17 3 7) (fe_X3_addDraught 14) (g_getI hS hg (by decide)) ?_
    rw [show h.1 g 7 = nI m from hm]
    refine t_go (op := o_iload 18 1) (fe_X3_addDraught 17) (fun _ _ => rfl) ?_
    refine t_go (op := o_iast 19) (fe_X3_addDraught 18) (g_iastN hS (ly_3_12 hg) rfl (by omega) (by decide)) ?_
    refine t_go (op := o_aload 20 0) (fe_X3_addDraught 19) (fun _ _ => rfl) ?_
    refine t_go (op := o_dupA 21) (fe_X3_addDraught 20) (fun _ _ => rfl) ?_
    refine t_go (op := o_getI 24 3 7) (fe_X3_addDraught 21) (g_getI hS hg (by decide)) ?_
    rw [show (sI h (g + 12) m y).1 g 7 = nI m from (congrFun (sI_ne (by omega)) 7).trans hm]
    refine t_go (op := o_ci 25 1) (fe_X3_addDraught 24) (fun _ _ => rfl) ?_
    refine t_go (op := o_i2 26 (fun x y => x + y)) (fe_X3_addDraught 25) (fun _ _ => rfl) ?_
    refine t_go (op := o_putI 29 3 7) (fe_X3_addDraught 26) (g_putI hS hg (by decide)) ?_
    refine t_ret (op := o_vret) (fe_X3_addDraught 29) (fun _ _ => rfl) ?_
    exact ⟨rfl, congrArg (sI (sI h (g + 12) m y) g 7) (nI_1 m)⟩
theorem lc_named {d : Nat} {h : AHP} {g m : Nat} {x : Int64} (hS : Std h) (hg : (lay g).1 = 3) (hm : h.1 g 4 = nI m) (hm7 : m ≤ 7) {Q : Option Value → AHP → Prop} : ∀ (j i : Nat) (_ : Unit), i + j = m → (∀ j, j < i → ¬ h.2.1 (g + 1) j = x) → (∀ v, FIp (fun k => h.2.1 (g + 1) k = x) m v → Q (some (.int v)) h) → TT d 53 2 [some (.ref g), some (.long x), none, some (.int (nI i))] [] h Q := by
  intro j
  induction j with
  | zero =>
    intro i _ hi hpr hq
    have hN : i = m := by omega
    refine t_go (op := o_iload 3 3) (fe_X3_emberNamed 2) (fun _ _ => rfl) ?_
    refine t_go (op := o_aload 4 0) (fe_X3_emberNamed 3) (fun _ _ => rfl) ?_
    refine t_go (op := o_getI 7 3 4) (fe_X3_emberNamed 4) (g_getI hS hg (by decide)) ?_
    rw [show h.1 g 4 = nI m from hm]
    refine t_ite (op := o_icmp 10 35 (fun x y => y ≤ x) (fun _ _ => inferInstance)) (fe_X3_emberNamed 7) g_icmp (fun c1 => ?_) (fun c1 => ?_)
    · refine t_go (op := o_ci 36 (-1)) (fe_X3_emberNamed 35) (fun _ _ => rfl) ?_
      refine t_ret (op := o_iret) (fe_X3_emberNamed 36) (fun _ _ => rfl) ?_
      exact hq _ (Or.inr ⟨fun k hk => hpr k (by omega), rfl⟩)
    · exact absurd (by rw [hN]; exact Int32.le_refl _) c1
  | succ j ih =>
    intro i _ hi hpr hq
    have hi7 : i < m := by omega
    refine t_go (op := o_iload 3 3) (fe_X3_emberNamed 2) (fun _ _ => rfl) ?_
    refine t_go (op := o_aload 4 0) (fe_X3_emberNamed 3) (fun _ _ => rfl) ?_
    refine t_go (op := o_getI 7 3 4) (fe_X3_emberNamed 4) (g_getI hS hg (by decide)) ?_
    rw [show h.1 g 4 = nI m from hm]
    refine t_ite (op := o_icmp 10 35 (fun x y => y ≤ x) (fun _ _ => inferInstance)) (fe_X3_emberNamed 7) g_icmp (fun c1 => ?_) (fun c1 => ?_)
    · exact absurd c1 (nI_ge hi7 (by omega))
    · refine t_go (op := o_iload 11 3) (fe_X3_emberNamed 10) (fun _ _ => rfl) ?_
      refine t_go (op := o_ci 13 7) (fe_X3_emberNamed 11) (fun _ _ => rfl) ?_
      refine t_ite (op := o_icmp 16 35 (fun x y => y ≤ x) (fun _ _ => inferInstance)) (fe_X3_emberNamed 13) g_icmp (fun c2 => ?_) (fun c2 => ?_)
      · exact absurd ((nI_leI (a := 7) (b := i) (by decide) (by omega)).mp c2) (by omega)
      · refine t_go (op := o_aload 17 0) (fe_X3_emberNamed 16) (fun _ _ => rfl) ?_
        refine t_go (op := o_getR 20 3 0) (fe_X3_emberNamed 17) (g_getR hS hg (by decide) (fr_3_0 hS hg) (Nat.succ_pos _)) ?_
        refine t_go (op := o_iload 21 3) (fe_X3_emberNamed 20) (fun _ _ => rfl) ?_
        refine t_go (op := o_lald 22) (fe_X3_emberNamed 21) (g_laldN hS (ly_3_1 hg) rfl (by omega) (by decide)) ?_
        refine t_go (op := o_lload 23 1) (fe_X3_emberNamed 22) (fun _ _ => rfl) ?_
        refine t_go (op := o_lcmp 24) (fe_X3_emberNamed 23) (fun _ _ => rfl) ?_
        refine t_ite (op := o_if 29 27 (fun x => x = 0) (fun _ => inferInstance)) (fe_X3_emberNamed 24) g_if (fun c3 => ?_) (fun c3 => ?_)
        · refine t_go (op := o_iload 28 3) (fe_X3_emberNamed 27) (fun _ _ => rfl) ?_
          refine t_ret (op := o_iret) (fe_X3_emberNamed 28) (fun _ _ => rfl) ?_
          exact hq _ (Or.inl ⟨i, hi7, cmp_0.mp c3, hpr, rfl⟩)
        · refine t_go (op := o_iinc 32 3 1) (fe_X3_emberNamed 29) (fun _ _ => rfl) ?_
          refine t_go (op := o_goto 2) (fe_X3_emberNamed 32) (fun _ _ => rfl) ?_
          rw [nI_1]
          exact ih (i + 1) () (by omega) (fun j hj => by
              rcases Nat.lt_or_ge j i with q | q
              · exact hpr j q
              · rw [show j = i by omega]; exact fun q2 => c3 (cmp_0.mpr q2)) hq
theorem c_emberNamed {d : Nat} {h : AHP} {g m : Nat} {x : Int64} (hS : Std h) (hg : (lay g).1 = 3) (hm : h.1 g 4 = nI m) (hm7 : m ≤ 7) : MM d 53 [.ref g, .long x] h (fun v h2 => (∃ a, v = some (.int a) ∧ FIp (fun k => h.2.1 (g + 1) k = x) m a) ∧ h2 = h) := by
  refine ⟨Nat.le_of_ble_eq_true rfl, ?_⟩
  refine t_go (op := o_ci 1 0) (fe_X3_emberNamed 0) (fun _ _ => rfl) ?_
  refine t_go (op := o_istore 2 3) (fe_X3_emberNamed 1) (fun _ _ => rfl) ?_
  exact lc_named hS hg hm hm7 m 0 () (by omega) (fun j hj => absurd hj (Nat.not_lt_zero _)) (fun v q => ⟨⟨v, rfl, q⟩, rfl⟩)
theorem uN_k {h0 h : AHP} {g : Nat} {ch : Nat → Nat} {len i : Nat} {G : GS} {w : List Nat} (hs : KGs h0 h g ch len i G) (hG : gOK G) (hw : okW w) : (∃ k, k < G.1.length ∧ h.2.1 (g + 1) k = lN (n32 w)) ↔ uN G.1 w := by
  constructor
  · rintro ⟨k, k1, k2⟩
    rw [(hs.2.2.1.2.1 k k1).1] at k2
    exact ⟨k, k1, (n32_eq (hG.2.1 k k1).1 hw).mp k2⟩
  · rintro ⟨k, k1, k2⟩
    exact ⟨k, k1, by rw [(hs.2.2.1.2.1 k k1).1, k2]⟩
set_option maxRecDepth 8000 in
theorem k_eA1 {d : Nat} {h0 h : AHP} {g : Nat} {ch : Nat → Nat} {len i : Nat} {G : GS} (hS0 : Std h0) (hg : (lay g).1 = 3) (hg5 : 5 ≤ g) (hs : KGs h0 h g ch len i G) (hG : gOK G) {Q : Option Value → AHP → Prop} (hN : ¬ nmP (tkT ch len) (i + 1)) (hq : ∀ h2, KGF h0 h2 g (wrF (tkT ch len) 1 (i + 1) 0) → Q (some (.int 0)) h2) : MM (d + 5) 76 [.ref 4, .ref g] h (fun v h2 => Q v h2) := by
  refine ⟨Nat.le_of_ble_eq_true rfl, ?_⟩
  have hS := hs.1.std hS0
  have hC := hs.2.1
  refine t_go (op := o_aload 1 0) (fe_X7_emberLine 0) (fun _ _ => rfl) ?_
  refine t_go (op := o_getR 4 6 0) (fe_X7_emberLine 1) (g_getR hS (show (lay 4).1 = 6 by decide) (by decide) (fr_6_0 hS) (by decide)) ?_
  refine t_call (op := o_callV 7 97 1 8) (fe_X7_emberLine 4) (g_callV hS (by decide) (by decide) rfl rfl rfl (Nat.le_of_ble_eq_true rfl)) ?_
  refine M_mono ?_ (c_toNext hS hC)
  rintro _ k2 ⟨rfl, hT, hC2⟩
  have hs1 := KGs_T hg5 hs hT hC2
  replace hS := hs1.1.std hS0
  obtain ⟨K6, hK6, eK⟩ : ∃ x, k2.2.2.1 2 6 = x ∧ x = 200000 + kyN (tkT ch len (i + 1)) := ⟨_, hC2.key, rfl⟩
  have hB6 := hC2.b (i + 1)
  have bK : 200000 ≤ K6 ∧ K6 < 200025 := by have := ky_le hB6; omega
  have eK2 : K6 - 200000 = kyN (tkT ch len (i + 1)) := by omega
  refine t_go (op := o_aload 8 0) (fe_X7_emberLine 7) (fun _ _ => rfl) ?_
  refine t_go (op := o_getR 11 6 0) (fe_X7_emberLine 8) (g_getR hS (show (lay 4).1 = 6 by decide) (by decide) (fr_6_0 hS) (by decide)) ?_
  refine t_go (op := o_getR 14 8 6) (fe_X7_emberLine 11) (g_getR hS (by decide) (by decide) hK6 (by omega)) ?_
  refine t_go (op := o_keyI 17 kCan) (fe_X7_emberLine 14) (g_keyI bK) ?_
  rw [eK2, can_n hB6 hN]
  refine t_ite (op := o_if 26 20 (fun x => x = 0) (fun _ => inferInstance)) (fe_X7_emberLine 17) g_if (fun c1 => ?_) (fun c1 => ?_)
  · refine t_go (op := o_aload 21 0) (fe_X7_emberLine 20) (fun _ _ => rfl) ?_
    refine t_go (op := o_ci 22 1) (fe_X7_emberLine 21) (fun _ _ => rfl) ?_
    refine t_call (op := o_callV 25 71 2 6) (fe_X7_emberLine 22) (g_callV hS (show (lay 4).1 = 6 by decide) (by decide) rfl rfl rfl (Nat.le_of_ble_eq_true rfl)) ?_
    refine M_eq (c_wrong (c := 1) hS hC2) ?_
    refine t_ret (op := o_zret) (fe_X7_emberLine 25) (g_zret (Or.inl rfl)) ?_
    exact hq _ (KGF_w hg5 hs1 hG)
  · exact absurd rfl c1
set_option maxRecDepth 8000 in
theorem k_eA3 {d : Nat} {h0 h : AHP} {g : Nat} {ch : Nat → Nat} {len i : Nat} {G : GS} (hS0 : Std h0) (hg : (lay g).1 = 3) (hg5 : 5 ≤ g) (hs : KGs h0 h g ch len i G) (hG : gOK G) {Q : Option Value → AHP → Prop} (hN : nmP (tkT ch len) (i + 1)) (hu : uN G.1 (tkT ch len (i + 1)).2.2.2.1) (hq : ∀ h2, KGF h0 h2 g (wrF (tkT ch len) 3 (i + 1) 0) → Q (some (.int 0)) h2) : MM (d + 5) 76 [.ref 4, .ref g] h (fun v h2 => Q v h2) := by
  refine ⟨Nat.le_of_ble_eq_true rfl, ?_⟩
  have hS := hs.1.std hS0
  have hC := hs.2.1
  refine t_go (op := o_aload 1 0) (fe_X7_emberLine 0) (fun _ _ => rfl) ?_
  refine t_go (op := o_getR 4 6 0) (fe_X7_emberLine 1) (g_getR hS (show (lay 4).1 = 6 by decide) (by decide) (fr_6_0 hS) (by decide)) ?_
  refine t_call (op := o_callV 7 97 1 8) (fe_X7_emberLine 4) (g_callV hS (by decide) (by decide) rfl rfl rfl (Nat.le_of_ble_eq_true rfl)) ?_
  refine M_mono ?_ (c_toNext hS hC)
  rintro _ k2 ⟨rfl, hT, hC2⟩
  have hs1 := KGs_T hg5 hs hT hC2
  replace hS := hs1.1.std hS0
  obtain ⟨K6, hK6, eK⟩ : ∃ x, k2.2.2.1 2 6 = x ∧ x = 200000 + kyN (tkT ch len (i + 1)) := ⟨_, hC2.key, rfl⟩
  have hB6 := hC2.b (i + 1)
  have bK : 200000 ≤ K6 ∧ K6 < 200025 := by have := ky_le hB6; omega
  have eK2 : K6 - 200000 = kyN (tkT ch len (i + 1)) := by omega
  refine t_go (op := o_aload 8 0) (fe_X7_emberLine 7) (fun _ _ => rfl) ?_
  refine t_go (op := o_getR 11 6 0) (fe_X7_emberLine 8) (g_getR hS (show (lay 4).1 = 6 by decide) (by decide) (fr_6_0 hS) (by decide)) ?_
  refine t_go (op := o_getR 14 8 6) (fe_X7_emberLine 11) (g_getR hS (by decide) (by decide) hK6 (by omega)) ?_
  refine t_go (op := o_keyI 17 kCan) (fe_X7_emberLine 14) (g_keyI bK) ?_
  rw [eK2, can_y hB6 hN]
  refine t_ite (op := o_if 26 20 (fun x => x = 0) (fun _ => inferInstance)) (fe_X7_emberLine 17) g_if (fun c1 => ?_) (fun c1 => ?_)
  · exact absurd c1 (by decide)
  · refine t_go (op := o_aload 27 0) (fe_X7_emberLine 26) (fun _ _ => rfl) ?_
    refine t_go (op := o_getR 30 6 0) (fe_X7_emberLine 27) (g_getR hS (show (lay 4).1 = 6 by decide) (by decide) (fr_6_0 hS) (by decide)) ?_
    refine t_go (op := o_getJ 33 8 5) (fe_X7_emberLine 30) (g_getJ hS (by decide) (by decide)) ?_
    rw [show k2.2.1 2 5 = lN (n32 (tkT ch len (i + 1)).2.2.2.1) from hC2.2.2.2.2.2.2.1 hN.1]
    refine t_go (op := o_lstore 34 2) (fe_X7_emberLine 33) (fun _ _ => rfl) ?_
    refine t_go (op := o_aload 35 1) (fe_X7_emberLine 34) (fun _ _ => rfl) ?_
    refine t_go (op := o_lload 36 2) (fe_X7_emberLine 35) (fun _ _ => rfl) ?_
    refine t_call (op := o_callV 39 53 2 3) (fe_X7_emberLine 36) (g_callV hS hg (by decide) rfl rfl rfl (Nat.le_of_ble_eq_true rfl)) ?_
    refine M_mono ?_ (c_emberNamed hS hg hs1.2.2.1.1 hG.1)
    rintro _ h9 ⟨⟨a9, rfl, hF9⟩, e9⟩
    replace e9 := e9.symm
    subst e9
    have hu9 : (∃ k, k < G.1.length ∧ k2.2.1 (g + 1) k = lN (n32 (tkT ch len (i + 1)).2.2.2.1)) ↔ uN G.1 (tkT ch len (i + 1)).2.2.2.1 := uN_k hs1 hG (hB6.2.2.2 hN.1).1
    refine t_go (op := o_ci 40 (-1)) (fe_X7_emberLine 39) (fun _ _ => rfl) ?_
    refine t_ite (op := o_icmp 43 49 (fun x y => x = y) (fun _ _ => inferInstance)) (fe_X7_emberLine 40) g_icmp (fun c2 => ?_) (fun c2 => ?_)
    · exact absurd c2 (FIp_e hG.1 hF9 (hu9.mpr hu))
    · refine t_go (op := o_aload 44 0) (fe_X7_emberLine 43) (fun _ _ => rfl) ?_
      refine t_go (op := o_ci 45 3) (fe_X7_emberLine 44) (fun _ _ => rfl) ?_
      refine t_call (op := o_callV 48 71 2 6) (fe_X7_emberLine 45) (g_callV hS (show (lay 4).1 = 6 by decide) (by decide) rfl rfl rfl (Nat.le_of_ble_eq_true rfl)) ?_
      refine M_eq (c_wrong (c := 3) hS hC2) ?_
      refine t_ret (op := o_zret) (fe_X7_emberLine 48) (g_zret (Or.inl rfl)) ?_
      exact hq _ (KGF_w hg5 hs1 hG)
set_option maxRecDepth 8000 in
theorem k_eA {d : Nat} {h0 h : AHP} {g : Nat} {ch : Nat → Nat} {len i : Nat} {G : GS} (hS0 : Std h0) (hg : (lay g).1 = 3) (hg5 : 5 ≤ g) (hs : KGs h0 h g ch len i G) (hG : gOK G) {Q : Option Value → AHP → Prop} (hN : nmP (tkT ch len) (i + 1)) (hu : ¬ uN G.1 (tkT ch len (i + 1)).2.2.2.1) (hq : ∀ (h2 : AHP) (nm : Int64), nm = lN (n32 (tkT ch len (i + 1)).2.2.2.1) → KGs h0 h2 g ch len (i + 1) G → TT (d + 5) 76 49 [some (.ref 4), some (.ref g), some (.long nm), none, none, none, none, none] [] h2 Q) : MM (d + 5) 76 [.ref 4, .ref g] h (fun v h2 => Q v h2) := by
  refine ⟨Nat.le_of_ble_eq_true rfl, ?_⟩
  have hS := hs.1.std hS0
  have hC := hs.2.1
  refine t_go (op := o_aload 1 0) (fe_X7_emberLine 0) (fun _ _ => rfl) ?_
  refine t_go (op := o_getR 4 6 0) (fe_X7_emberLine 1) (g_getR hS (show (lay 4).1 = 6 by decide) (by decide) (fr_6_0 hS) (by decide)) ?_
  refine t_call (op := o_callV 7 97 1 8) (fe_X7_emberLine 4) (g_callV hS (by decide) (by decide) rfl rfl rfl (Nat.le_of_ble_eq_true rfl)) ?_
  refine M_mono ?_ (c_toNext hS hC)
  rintro _ k2 ⟨rfl, hT, hC2⟩
  have hs1 := KGs_T hg5 hs hT hC2
  replace hS := hs1.1.std hS0
  obtain ⟨K6, hK6, eK⟩ : ∃ x, k2.2.2.1 2 6 = x ∧ x = 200000 + kyN (tkT ch len (i + 1)) := ⟨_, hC2.key, rfl⟩
  have hB6 := hC2.b (i + 1)
  have bK : 200000 ≤ K6 ∧ K6 < 200025 := by have := ky_le hB6; omega
  have eK2 : K6 - 200000 = kyN (tkT ch len (i + 1)) := by omega
  refine t_go (op := o_aload 8 0) (fe_X7_emberLine 7) (fun _ _ => rfl) ?_
  refine t_go (op := o_getR 11 6 0) (fe_X7_emberLine 8) (g_getR hS (show (lay 4).1 = 6 by decide) (by decide) (fr_6_0 hS) (by decide)) ?_
  refine t_go (op := o_getR 14 8 6) (fe_X7_emberLine 11) (g_getR hS (by decide) (by decide) hK6 (by omega)) ?_
  refine t_go (op := o_keyI 17 kCan) (fe_X7_emberLine 14) (g_keyI bK) ?_
  rw [eK2, can_y hB6 hN]
  refine t_ite (op := o_if 26 20 (fun x => x = 0) (fun _ => inferInstance)) (fe_X7_emberLine 17) g_if (fun c1 => ?_) (fun c1 => ?_)
  · exact absurd c1 (by decide)
  · refine t_go (op := o_aload 27 0) (fe_X7_emberLine 26) (fun _ _ => rfl) ?_
    refine t_go (op := o_getR 30 6 0) (fe_X7_emberLine 27) (g_getR hS (show (lay 4).1 = 6 by decide) (by decide) (fr_6_0 hS) (by decide)) ?_
    refine t_go (op := o_getJ 33 8 5) (fe_X7_emberLine 30) (g_getJ hS (by decide) (by decide)) ?_
    rw [show k2.2.1 2 5 = lN (n32 (tkT ch len (i + 1)).2.2.2.1) from hC2.2.2.2.2.2.2.1 hN.1]
    refine t_go (op := o_lstore 34 2) (fe_X7_emberLine 33) (fun _ _ => rfl) ?_
    refine t_go (op := o_aload 35 1) (fe_X7_emberLine 34) (fun _ _ => rfl) ?_
    refine t_go (op := o_lload 36 2) (fe_X7_emberLine 35) (fun _ _ => rfl) ?_
    refine t_call (op := o_callV 39 53 2 3) (fe_X7_emberLine 36) (g_callV hS hg (by decide) rfl rfl rfl (Nat.le_of_ble_eq_true rfl)) ?_
    refine M_mono ?_ (c_emberNamed hS hg hs1.2.2.1.1 hG.1)
    rintro _ h9 ⟨⟨a9, rfl, hF9⟩, e9⟩
    replace e9 := e9.symm
    subst e9
    have hu9 : (∃ k, k < G.1.length ∧ k2.2.1 (g + 1) k = lN (n32 (tkT ch len (i + 1)).2.2.2.1)) ↔ uN G.1 (tkT ch len (i + 1)).2.2.2.1 := uN_k hs1 hG (hB6.2.2.2 hN.1).1
    refine t_go (op := o_ci 40 (-1)) (fe_X7_emberLine 39) (fun _ _ => rfl) ?_
    refine t_ite (op := o_icmp 43 49 (fun x y => x = y) (fun _ _ => inferInstance)) (fe_X7_emberLine 40) g_icmp (fun c2 => ?_) (fun c2 => ?_)
    · exact hq _ _ rfl hs1
    · exact absurd (FIp_n hF9 (fun q => hu (hu9.mp q))) c2
set_option maxRecDepth 8000 in
theorem k_eB1 {d : Nat} {h0 h : AHP} {g : Nat} {ch : Nat → Nat} {len i : Nat} {G : GS} (hS0 : Std h0) (hg : (lay g).1 = 3) (hg5 : 5 ≤ g) (hs : KGs h0 h g ch len i G) (hG : gOK G) {nm : Int64} (hw : ¬ whP (tkT ch len) 12 (i + 1) 0 4) {Q : Option Value → AHP → Prop} (hq : ∀ h2, KGF h0 h2 g (wrF (tkT ch len) 1 (i + 1) 0) → Q (some (.int 0)) h2) : TT (d + 5) 76 49 [some (.ref 4), some (.ref g), some (.long nm), none, none, none, none, none] [] h Q := by
  have hS := hs.1.std hS0
  have hC := hs.2.1
  refine t_go (op := o_aload 50 0) (fe_X7_emberLine 49) (fun _ _ => rfl) ?_
  refine t_go (op := o_getR 53 6 0) (fe_X7_emberLine 50) (g_getR hS (show (lay 4).1 = 6 by decide) (by decide) (fr_6_0 hS) (by decide)) ?_
  refine t_call (op := o_callV 56 97 1 8) (fe_X7_emberLine 53) (g_callV hS (by decide) (by decide) rfl rfl rfl (Nat.le_of_ble_eq_true rfl)) ?_
  refine M_mono ?_ (c_toNext hS hC)
  rintro _ k2 ⟨rfl, hT, hC2⟩
  have hs1 := KGs_T hg5 hs hT hC2
  replace hS := hs1.1.std hS0
  obtain ⟨K6, hK6, eK⟩ : ∃ x, k2.2.2.1 2 6 = x ∧ x = 200000 + kyN (tkT ch len (i + 1)) := ⟨_, hC2.key, rfl⟩
  have hB6 := hC2.b (i + 1)
  have bK : 200000 ≤ K6 ∧ K6 < 200025 := by have := ky_le hB6; omega
  have eK2 : K6 - 200000 = kyN (tkT ch len (i + 1)) := by omega
  refine t_go (op := o_aload 57 0) (fe_X7_emberLine 56) (fun _ _ => rfl) ?_
  refine t_go (op := o_getR 60 6 0) (fe_X7_emberLine 57) (g_getR hS (show (lay 4).1 = 6 by decide) (by decide) (fr_6_0 hS) (by decide)) ?_
  refine t_go (op := o_getR 63 8 6) (fe_X7_emberLine 60) (g_getR hS (by decide) (by decide) hK6 (by omega)) ?_
  refine t_go (op := o_keyI 66 kKind) (fe_X7_emberLine 63) (g_keyI bK) ?_
  rw [eK2, kind_n hB6 (fun q => hw ⟨rfl, q.1, q.2.1, q.2.2⟩)]
  refine t_go (op := o_istore 68 4) (fe_X7_emberLine 66) (fun _ _ => rfl) ?_
  refine t_go (op := o_iload 70 4) (fe_X7_emberLine 68) (fun _ _ => rfl) ?_
  refine t_go (op := o_ci 71 (-1)) (fe_X7_emberLine 70) (fun _ _ => rfl) ?_
  refine t_ite (op := o_icmp 80 74 (fun x y => x = y) (fun _ _ => inferInstance)) (fe_X7_emberLine 71) g_icmp (fun c1 => ?_) (fun c1 => ?_)
  · refine t_go (op := o_aload 75 0) (fe_X7_emberLine 74) (fun _ _ => rfl) ?_
    refine t_go (op := o_ci 76 1) (fe_X7_emberLine 75) (fun _ _ => rfl) ?_
    refine t_call (op := o_callV 79 71 2 6) (fe_X7_emberLine 76) (g_callV hS (show (lay 4).1 = 6 by decide) (by decide) rfl rfl rfl (Nat.le_of_ble_eq_true rfl)) ?_
    refine M_eq (c_wrong (c := 1) hS hC2) ?_
    refine t_ret (op := o_zret) (fe_X7_emberLine 79) (g_zret (Or.inl rfl)) ?_
    exact hq _ (KGF_w hg5 hs1 hG)
  · exact absurd rfl c1
set_option maxRecDepth 8000 in
theorem k_eB {d : Nat} {h0 h : AHP} {g : Nat} {ch : Nat → Nat} {len i : Nat} {G : GS} (hS0 : Std h0) (hg : (lay g).1 = 3) (hg5 : 5 ≤ g) (hs : KGs h0 h g ch len i G) (hG : gOK G) {nm : Int64} (hw : whP (tkT ch len) 12 (i + 1) 0 4) {Q : Option Value → AHP → Prop} (hq : ∀ h2, KGs h0 h2 g ch len (i + 1) G → TT (d + 5) 76 80 [some (.ref 4), some (.ref g), some (.long nm), none, some (.int (nI ((tkT ch len (i + 1)).2.2.1 - 12))), none, none, none] [] h2 Q) : TT (d + 5) 76 49 [some (.ref 4), some (.ref g), some (.long nm), none, none, none, none, none] [] h Q := by
  have hS := hs.1.std hS0
  have hC := hs.2.1
  refine t_go (op := o_aload 50 0) (fe_X7_emberLine 49) (fun _ _ => rfl) ?_
  refine t_go (op := o_getR 53 6 0) (fe_X7_emberLine 50) (g_getR hS (show (lay 4).1 = 6 by decide) (by decide) (fr_6_0 hS) (by decide)) ?_
  refine t_call (op := o_callV 56 97 1 8) (fe_X7_emberLine 53) (g_callV hS (by decide) (by decide) rfl rfl rfl (Nat.le_of_ble_eq_true rfl)) ?_
  refine M_mono ?_ (c_toNext hS hC)
  rintro _ k2 ⟨rfl, hT, hC2⟩
  have hs1 := KGs_T hg5 hs hT hC2
  replace hS := hs1.1.std hS0
  obtain ⟨K6, hK6, eK⟩ : ∃ x, k2.2.2.1 2 6 = x ∧ x = 200000 + kyN (tkT ch len (i + 1)) := ⟨_, hC2.key, rfl⟩
  have hB6 := hC2.b (i + 1)
  have bK : 200000 ≤ K6 ∧ K6 < 200025 := by have := ky_le hB6; omega
  have eK2 : K6 - 200000 = kyN (tkT ch len (i + 1)) := by omega
  refine t_go (op := o_aload 57 0) (fe_X7_emberLine 56) (fun _ _ => rfl) ?_
  refine t_go (op := o_getR 60 6 0) (fe_X7_emberLine 57) (g_getR hS (show (lay 4).1 = 6 by decide) (by decide) (fr_6_0 hS) (by decide)) ?_
  refine t_go (op := o_getR 63 8 6) (fe_X7_emberLine 60) (g_getR hS (by decide) (by decide) hK6 (by omega)) ?_
  refine t_go (op := o_keyI 66 kKind) (fe_X7_emberLine 63) (g_keyI bK) ?_
  rw [eK2, kind_y hB6 ⟨hw.2.1, hw.2.2.1, hw.2.2.2⟩]
  refine t_go (op := o_istore 68 4) (fe_X7_emberLine 66) (fun _ _ => rfl) ?_
  refine t_go (op := o_iload 70 4) (fe_X7_emberLine 68) (fun _ _ => rfl) ?_
  refine t_go (op := o_ci 71 (-1)) (fe_X7_emberLine 70) (fun _ _ => rfl) ?_
  refine t_ite (op := o_icmp 80 74 (fun x y => x = y) (fun _ _ => inferInstance)) (fe_X7_emberLine 71) g_icmp (fun c1 => ?_) (fun c1 => ?_)
  · exact absurd c1 (nI_m1 (by have := hw.2.2.2; omega))
  · exact hq _ hs1
set_option maxRecDepth 8000 in
theorem k_eC1 {d : Nat} {h0 h : AHP} {g : Nat} {ch : Nat → Nat} {len i : Nat} {G : GS} (hS0 : Std h0) (hg : (lay g).1 = 3) (hg5 : 5 ≤ g) (hs : KGs h0 h g ch len i G) (hG : gOK G) {nm : Int64} {x4 : Int32} (hw : ¬ isWd (tkT ch len) 1 (i + 1) 0) {Q : Option Value → AHP → Prop} (hq : ∀ h2, KGF h0 h2 g (wrF (tkT ch len) 1 (i + 1) 0) → Q (some (.int 0)) h2) : TT (d + 5) 76 80 [some (.ref 4), some (.ref g), some (.long nm), none, some (.int x4), none, none, none] [] h Q := by
  have hS := hs.1.std hS0
  have hC := hs.2.1
  refine t_go (op := o_aload 81 0) (fe_X7_emberLine 80) (fun _ _ => rfl) ?_
  refine t_go (op := o_getR 84 6 0) (fe_X7_emberLine 81) (g_getR hS (show (lay 4).1 = 6 by decide) (by decide) (fr_6_0 hS) (by decide)) ?_
  refine t_call (op := o_callV 87 97 1 8) (fe_X7_emberLine 84) (g_callV hS (by decide) (by decide) rfl rfl rfl (Nat.le_of_ble_eq_true rfl)) ?_
  refine M_mono ?_ (c_toNext hS hC)
  rintro _ k2 ⟨rfl, hT, hC2⟩
  have hs1 := KGs_T hg5 hs hT hC2
  replace hS := hs1.1.std hS0
  refine t_go (op := o_aload 88 0) (fe_X7_emberLine 87) (fun _ _ => rfl) ?_
  refine t_go (op := o_gets 91 200001) (fe_X7_emberLine 88) (fun _ _ => rfl) ?_
  refine t_call (op := o_callV 94 72 2 6) (fe_X7_emberLine 91) (g_callV hS (show (lay 4).1 = 6 by decide) (by decide) rfl rfl rfl (Nat.le_of_ble_eq_true rfl)) ?_
  refine M_mono ?_ (c_takeKey (c := 1) hS hC2 (by decide))
  rintro v3 k3 ⟨_, hn3⟩
  obtain ⟨rfl, rfl⟩ := hn3 hw
  refine t_ite (op := o_if 99 97 (fun x => x = 0) (fun _ => inferInstance)) (fe_X7_emberLine 94) g_if (fun c1 => ?_) (fun c1 => ?_)
  · clear c1
    refine t_go (op := o_ci 98 0) (fe_X7_emberLine 97) (fun _ _ => rfl) ?_
    refine t_ret (op := o_zret) (fe_X7_emberLine 98) (g_zret (Or.inl rfl)) ?_
    exact hq _ (KGF_w hg5 hs1 hG)
  · exact absurd (by decide) c1
set_option maxRecDepth 8000 in
theorem k_eC {d : Nat} {h0 h : AHP} {g : Nat} {ch : Nat → Nat} {len i : Nat} {G : GS} (hS0 : Std h0) (hg : (lay g).1 = 3) (hg5 : 5 ≤ g) (hs : KGs h0 h g ch len i G) (hG : gOK G) {nm : Int64} {x4 : Int32} (hw : isWd (tkT ch len) 1 (i + 1) 0) {Q : Option Value → AHP → Prop} (hq : ∀ h2, KGs h0 h2 g ch len (i + 2) G → TT (d + 5) 76 99 [some (.ref 4), some (.ref g), some (.long nm), none, some (.int x4), none, none, none] [] h2 Q) : TT (d + 5) 76 80 [some (.ref 4), some (.ref g), some (.long nm), none, some (.int x4), none, none, none] [] h Q := by
  have hS := hs.1.std hS0
  have hC := hs.2.1
  refine t_go (op := o_aload 81 0) (fe_X7_emberLine 80) (fun _ _ => rfl) ?_
  refine t_go (op := o_getR 84 6 0) (fe_X7_emberLine 81) (g_getR hS (show (lay 4).1 = 6 by decide) (by decide) (fr_6_0 hS) (by decide)) ?_
  refine t_call (op := o_callV 87 97 1 8) (fe_X7_emberLine 84) (g_callV hS (by decide) (by decide) rfl rfl rfl (Nat.le_of_ble_eq_true rfl)) ?_
  refine M_mono ?_ (c_toNext hS hC)
  rintro _ k2 ⟨rfl, hT, hC2⟩
  have hs1 := KGs_T hg5 hs hT hC2
  replace hS := hs1.1.std hS0
  refine t_go (op := o_aload 88 0) (fe_X7_emberLine 87) (fun _ _ => rfl) ?_
  refine t_go (op := o_gets 91 200001) (fe_X7_emberLine 88) (fun _ _ => rfl) ?_
  refine t_call (op := o_callV 94 72 2 6) (fe_X7_emberLine 91) (g_callV hS (show (lay 4).1 = 6 by decide) (by decide) rfl rfl rfl (Nat.le_of_ble_eq_true rfl)) ?_
  refine M_mono ?_ (c_takeKey (c := 1) hS hC2 (by decide))
  rintro v3 k3 ⟨hy3, _⟩
  obtain ⟨rfl, hT3, hC3⟩ := hy3 hw
  have hs2 := KGs_T hg5 hs1 hT3 hC3
  replace hS := hs2.1.std hS0
  refine t_ite (op := o_if 99 97 (fun x => x = 0) (fun _ => inferInstance)) (fe_X7_emberLine 94) g_if (fun c1 => ?_) (fun c1 => ?_)
  · exact absurd c1 (by decide)
  · clear c1
    exact hq _ hs2
theorem cell_i {v : Nat} (hv : v < 10000) : (¬ nI v < 0 ∧ ¬ 12 ≤ nI v) ↔ v ≤ 11 := by
  constructor
  · intro q
    rcases Nat.lt_or_ge 11 v with w | w
    · exact absurd ((nI_leI (a := 12) (b := v) (by decide) (by omega)).mpr w) q.2
    · exact w
  · intro q
    refine ⟨nI_pos (by omega), fun w => ?_⟩
    have := (nI_leI (a := 12) (b := v) (by decide) (by omega)).mp w
    omega
theorem free_k {h0 h : AHP} {g : Nat} {ch : Nat → Nat} {len i : Nat} {G : GS} {c : Nat} (hs : KGs h0 h g ch len i G) (hG : gOK G) (hc : c ≤ 11) : freeP h (g + 3) (nI c) ↔ ¬ uC G.1 c := by
  have e : (nI c).toNatClampNeg = c := nI_clamp (by omega)
  have hb := hs.2.2.1.2.2.2.1 c (by omega)
  have hr : (fs h (g + 3)).2.2.2.1 c = h.1 (g + 3 + 4) c := rfl
  rw [hr] at hb
  unfold freeP
  rw [e]
  constructor
  · rintro ⟨_, _, q⟩ ⟨k, k1, k2⟩
    rcases hb with ⟨w1, w2⟩ | ⟨e2, e3, e4, e5⟩
    · exact w2 ⟨k, k1, k2⟩
    · rw [q] at e4
      exact nI_m1 (by have := hG.1; omega) e4.symm
  · intro q
    rcases hb with ⟨w1, w2⟩ | ⟨e2, e3, e4, e5⟩
    · exact ⟨((cell_i (by omega)).mpr hc).1, ((cell_i (by omega)).mpr hc).2, w1⟩
    · exact absurd ⟨e2, e3, e5⟩ q
set_option maxRecDepth 8000 in
theorem k_eD2 {d : Nat} {h0 h : AHP} {g : Nat} {ch : Nat → Nat} {len i : Nat} {G : GS} (hS0 : Std h0) (hg : (lay g).1 = 3) (hg5 : 5 ≤ g) (hs : KGs h0 h g ch len i G) (hG : gOK G) {nm : Int64} {x4 : Int32} (hN : ¬ nuP (tkT ch len) 0 11 i 0) {Q : Option Value → AHP → Prop} (hq : ∀ h2, KGF h0 h2 g (wrF (tkT ch len) (nmF (tkT ch len) i) i 0) → Q (some (.int 0)) h2) : TT (d + 5) 76 99 [some (.ref 4), some (.ref g), some (.long nm), none, some (.int x4), none, none, none] [] h Q := by
  have hS := hs.1.std hS0
  have hC := hs.2.1
  refine t_go (op := o_aload 100 0) (fe_X7_emberLine 99) (fun _ _ => rfl) ?_
  refine t_go (op := o_getR 103 6 0) (fe_X7_emberLine 100) (g_getR hS (show (lay 4).1 = 6 by decide) (by decide) (fr_6_0 hS) (by decide)) ?_
  refine t_go (op := o_getI 106 8 2) (fe_X7_emberLine 103) (g_getI hS (by decide) (by decide)) ?_
  rw [show h.1 2 2 = nI (cSo (tkT ch len i).1) from hC.2.2.2.1]
  refine t_go (op := o_ci 107 3) (fe_X7_emberLine 106) (fun _ _ => rfl) ?_
  refine t_ite (op := o_icmp 146 110 (fun x y => x = y) (fun _ _ => inferInstance)) (fe_X7_emberLine 107) g_icmp (fun c1 => ?_) (fun c1 => ?_)
  · refine t_go (op := o_aload 111 0) (fe_X7_emberLine 110) (fun _ _ => rfl) ?_
    refine t_go (op := o_getR 114 6 0) (fe_X7_emberLine 111) (g_getR hS (show (lay 4).1 = 6 by decide) (by decide) (fr_6_0 hS) (by decide)) ?_
    refine t_go (op := o_getI 117 8 4) (fe_X7_emberLine 114) (g_getI hS (by decide) (by decide)) ?_
    rw [show h.1 2 4 = nI (tkT ch len i).2.2.1 from hC.2.2.2.2.2.1 (Or.inl ((cSo_3 _ (hC.b i).1).mp c1))]
    refine t_call (op := o_callS 120 151 1) (fe_X7_emberLine 117) (g_callS rfl rfl rfl (Nat.le_of_ble_eq_true rfl)) ?_
    refine M_eq (m_isCell) ?_
    refine t_ite (op := o_if 123 146 (fun x => x = 0) (fun _ => inferInstance)) (fe_X7_emberLine 120) g_if (fun c2 => ?_) (fun c2 => ?_)
    · replace c2 := b2i_z c2
      refine t_go (op := o_aload 147 0) (fe_X7_emberLine 146) (fun _ _ => rfl) ?_
      refine t_go (op := o_ci 148 0) (fe_X7_emberLine 147) (fun _ _ => rfl) ?_
      refine t_go (op := o_ci 150 11) (fe_X7_emberLine 148) (fun _ _ => rfl) ?_
      refine t_call (op := o_callV 153 74 3 6) (fe_X7_emberLine 150) (g_callV hS (show (lay 4).1 = 6 by decide) (by decide) rfl rfl rfl (Nat.le_of_ble_eq_true rfl)) ?_
      refine M_mono ?_ (c_takeNumber (lo := 0) (hi2 := 11) hS hC (by decide) (by decide))
      rintro v3 k3 ⟨_, hn3⟩
      obtain ⟨rfl, rfl⟩ := hn3 hN
      refine t_go (op := o_istore 155 5) (fe_X7_emberLine 153) (fun _ _ => rfl) ?_
      refine t_go (op := o_iload 157 5) (fe_X7_emberLine 155) (fun _ _ => rfl) ?_
      refine t_go (op := o_ci 158 (-1)) (fe_X7_emberLine 157) (fun _ _ => rfl) ?_
      refine t_ite (op := o_icmp 163 161 (fun x y => x = y) (fun _ _ => inferInstance)) (fe_X7_emberLine 158) g_icmp (fun c3 => ?_) (fun c3 => ?_)
      · clear c3
        refine t_go (op := o_ci 162 0) (fe_X7_emberLine 161) (fun _ _ => rfl) ?_
        refine t_ret (op := o_zret) (fe_X7_emberLine 162) (g_zret (Or.inl rfl)) ?_
        exact hq _ (KGF_w hg5 hs hG)
      · exact absurd (by decide) c3
    · exact absurd (show nuP (tkT ch len) 0 11 i 0 from ⟨rfl, (cSo_3 _ (hC.b i).1).mp c1, Nat.zero_le _, (cell_i (hC.b i).2.2.1).mp (b2i_nn c2)⟩) hN
  · refine t_go (op := o_aload 147 0) (fe_X7_emberLine 146) (fun _ _ => rfl) ?_
    refine t_go (op := o_ci 148 0) (fe_X7_emberLine 147) (fun _ _ => rfl) ?_
    refine t_go (op := o_ci 150 11) (fe_X7_emberLine 148) (fun _ _ => rfl) ?_
    refine t_call (op := o_callV 153 74 3 6) (fe_X7_emberLine 150) (g_callV hS (show (lay 4).1 = 6 by decide) (by decide) rfl rfl rfl (Nat.le_of_ble_eq_true rfl)) ?_
    refine M_mono ?_ (c_takeNumber (lo := 0) (hi2 := 11) hS hC (by decide) (by decide))
    rintro v3 k3 ⟨_, hn3⟩
    obtain ⟨rfl, rfl⟩ := hn3 hN
    refine t_go (op := o_istore 155 5) (fe_X7_emberLine 153) (fun _ _ => rfl) ?_
    refine t_go (op := o_iload 157 5) (fe_X7_emberLine 155) (fun _ _ => rfl) ?_
    refine t_go (op := o_ci 158 (-1)) (fe_X7_emberLine 157) (fun _ _ => rfl) ?_
    refine t_ite (op := o_icmp 163 161 (fun x y => x = y) (fun _ _ => inferInstance)) (fe_X7_emberLine 158) g_icmp (fun c4 => ?_) (fun c4 => ?_)
    · clear c4
      refine t_go (op := o_ci 162 0) (fe_X7_emberLine 161) (fun _ _ => rfl) ?_
      refine t_ret (op := o_zret) (fe_X7_emberLine 162) (g_zret (Or.inl rfl)) ?_
      exact hq _ (KGF_w hg5 hs hG)
    · exact absurd (by decide) c4
set_option maxRecDepth 8000 in
theorem k_eD3 {d : Nat} {h0 h : AHP} {g : Nat} {ch : Nat → Nat} {len i : Nat} {G : GS} (hS0 : Std h0) (hg : (lay g).1 = 3) (hg5 : 5 ≤ g) (hs : KGs h0 h g ch len i G) (hG : gOK G) {nm : Int64} {x4 : Int32} (hN : nuP (tkT ch len) 0 11 i 0) (hu : uC G.1 (tkT ch len i).2.2.1) {Q : Option Value → AHP → Prop} (hq : ∀ h2, KGF h0 h2 g (wrF (tkT ch len) 3 i 0) → Q (some (.int 0)) h2) : TT (d + 5) 76 99 [some (.ref 4), some (.ref g), some (.long nm), none, some (.int x4), none, none, none] [] h Q := by
  have hS := hs.1.std hS0
  have hC := hs.2.1
  refine t_go (op := o_aload 100 0) (fe_X7_emberLine 99) (fun _ _ => rfl) ?_
  refine t_go (op := o_getR 103 6 0) (fe_X7_emberLine 100) (g_getR hS (show (lay 4).1 = 6 by decide) (by decide) (fr_6_0 hS) (by decide)) ?_
  refine t_go (op := o_getI 106 8 2) (fe_X7_emberLine 103) (g_getI hS (by decide) (by decide)) ?_
  rw [show h.1 2 2 = nI (cSo (tkT ch len i).1) from hC.2.2.2.1]
  refine t_go (op := o_ci 107 3) (fe_X7_emberLine 106) (fun _ _ => rfl) ?_
  refine t_ite (op := o_icmp 146 110 (fun x y => x = y) (fun _ _ => inferInstance)) (fe_X7_emberLine 107) g_icmp (fun c1 => ?_) (fun c1 => ?_)
  · refine t_go (op := o_aload 111 0) (fe_X7_emberLine 110) (fun _ _ => rfl) ?_
    refine t_go (op := o_getR 114 6 0) (fe_X7_emberLine 111) (g_getR hS (show (lay 4).1 = 6 by decide) (by decide) (fr_6_0 hS) (by decide)) ?_
    refine t_go (op := o_getI 117 8 4) (fe_X7_emberLine 114) (g_getI hS (by decide) (by decide)) ?_
    rw [show h.1 2 4 = nI (tkT ch len i).2.2.1 from hC.2.2.2.2.2.1 (Or.inl ((cSo_3 _ (hC.b i).1).mp c1))]
    refine t_call (op := o_callS 120 151 1) (fe_X7_emberLine 117) (g_callS rfl rfl rfl (Nat.le_of_ble_eq_true rfl)) ?_
    refine M_eq (m_isCell) ?_
    refine t_ite (op := o_if 123 146 (fun x => x = 0) (fun _ => inferInstance)) (fe_X7_emberLine 120) g_if (fun c2 => ?_) (fun c2 => ?_)
    · exact absurd ((cell_i (hC.b i).2.2.1).mpr hN.2.2.2) (b2i_z c2)
    · replace c2 := b2i_nn c2
      refine t_go (op := o_aload 124 1) (fe_X7_emberLine 123) (fun _ _ => rfl) ?_
      refine t_go (op := o_getR 127 3 2) (fe_X7_emberLine 124) (g_getR hS hg (by decide) (fr_3_2 hS hg) (Nat.succ_pos _)) ?_
      refine t_go (op := o_aload 128 0) (fe_X7_emberLine 127) (fun _ _ => rfl) ?_
      refine t_go (op := o_getR 131 6 0) (fe_X7_emberLine 128) (g_getR hS (show (lay 4).1 = 6 by decide) (by decide) (fr_6_0 hS) (by decide)) ?_
      refine t_go (op := o_getI 134 8 4) (fe_X7_emberLine 131) (g_getI hS (by decide) (by decide)) ?_
      rw [show h.1 2 4 = nI (tkT ch len i).2.2.1 from hC.2.2.2.2.2.1 (Or.inl ((cSo_3 _ (hC.b i).1).mp c1))]
      refine t_call (op := o_callV 137 9 2 1) (fe_X7_emberLine 134) (g_callV hS (lay_fst (ly_3_3 hg)) (by decide) rfl rfl rfl (Nat.le_of_ble_eq_true rfl)) ?_
      refine M_eq (m_X1_isFree hS (lay_fst (ly_3_3 hg))) ?_
      refine t_ite (op := o_if 146 140 (fun x => x = 0) (fun _ => inferInstance)) (fe_X7_emberLine 137) g_if (fun c3 => ?_) (fun c3 => ?_)
      · replace c3 := b2i_z c3
        refine t_go (op := o_aload 141 0) (fe_X7_emberLine 140) (fun _ _ => rfl) ?_
        refine t_go (op := o_ci 142 3) (fe_X7_emberLine 141) (fun _ _ => rfl) ?_
        refine t_call (op := o_callV 145 71 2 6) (fe_X7_emberLine 142) (g_callV hS (show (lay 4).1 = 6 by decide) (by decide) rfl rfl rfl (Nat.le_of_ble_eq_true rfl)) ?_
        refine M_eq (c_wrong (c := 3) hS hC) ?_
        refine t_ret (op := o_zret) (fe_X7_emberLine 145) (g_zret (Or.inl rfl)) ?_
        exact hq _ (KGF_w hg5 hs hG)
      · exact absurd hu ((free_k hs hG hN.2.2.2).mp (b2i_nn c3))
  · exact absurd ((cSo_3 _ (hC.b i).1).mpr hN.2.1) c1
set_option maxRecDepth 8000 in
theorem k_eD {d : Nat} {h0 h : AHP} {g : Nat} {ch : Nat → Nat} {len i : Nat} {G : GS} (hS0 : Std h0) (hg : (lay g).1 = 3) (hg5 : 5 ≤ g) (hs : KGs h0 h g ch len i G) (hG : gOK G) {nm : Int64} {x4 : Int32} (hN : nuP (tkT ch len) 0 11 i 0) (hu : ¬ uC G.1 (tkT ch len i).2.2.1) {Q : Option Value → AHP → Prop} (hq : ∀ h2, KGs h0 h2 g ch len (i + 1) G → TT (d + 5) 76 163 [some (.ref 4), some (.ref g), some (.long nm), none, some (.int x4), some (.int (nI (tkT ch len i).2.2.1)), none, none] [] h2 Q) : TT (d + 5) 76 99 [some (.ref 4), some (.ref g), some (.long nm), none, some (.int x4), none, none, none] [] h Q := by
  have hS := hs.1.std hS0
  have hC := hs.2.1
  refine t_go (op := o_aload 100 0) (fe_X7_emberLine 99) (fun _ _ => rfl) ?_
  refine t_go (op := o_getR 103 6 0) (fe_X7_emberLine 100) (g_getR hS (show (lay 4).1 = 6 by decide) (by decide) (fr_6_0 hS) (by decide)) ?_
  refine t_go (op := o_getI 106 8 2) (fe_X7_emberLine 103) (g_getI hS (by decide) (by decide)) ?_
  rw [show h.1 2 2 = nI (cSo (tkT ch len i).1) from hC.2.2.2.1]
  refine t_go (op := o_ci 107 3) (fe_X7_emberLine 106) (fun _ _ => rfl) ?_
  refine t_ite (op := o_icmp 146 110 (fun x y => x = y) (fun _ _ => inferInstance)) (fe_X7_emberLine 107) g_icmp (fun c1 => ?_) (fun c1 => ?_)
  · refine t_go (op := o_aload 111 0) (fe_X7_emberLine 110) (fun _ _ => rfl) ?_
    refine t_go (op := o_getR 114 6 0) (fe_X7_emberLine 111) (g_getR hS (show (lay 4).1 = 6 by decide) (by decide) (fr_6_0 hS) (by decide)) ?_
    refine t_go (op := o_getI 117 8 4) (fe_X7_emberLine 114) (g_getI hS (by decide) (by decide)) ?_
    rw [show h.1 2 4 = nI (tkT ch len i).2.2.1 from hC.2.2.2.2.2.1 (Or.inl ((cSo_3 _ (hC.b i).1).mp c1))]
    refine t_call (op := o_callS 120 151 1) (fe_X7_emberLine 117) (g_callS rfl rfl rfl (Nat.le_of_ble_eq_true rfl)) ?_
    refine M_eq (m_isCell) ?_
    refine t_ite (op := o_if 123 146 (fun x => x = 0) (fun _ => inferInstance)) (fe_X7_emberLine 120) g_if (fun c2 => ?_) (fun c2 => ?_)
    · exact absurd ((cell_i (hC.b i).2.2.1).mpr hN.2.2.2) (b2i_z c2)
    · replace c2 := b2i_nn c2
      refine t_go (op := o_aload 124 1) (fe_X7_emberLine 123) (fun _ _ => rfl) ?_
      refine t_go (op := o_getR 127 3 2) (fe_X7_emberLine 124) (g_getR hS hg (by decide) (fr_3_2 hS hg) (Nat.succ_pos _)) ?_
      refine t_go (op := o_aload 128 0) (fe_X7_emberLine 127) (fun _ _ => rfl) ?_
      refine t_go (op := o_getR 131 6 0) (fe_X7_emberLine 128) (g_getR hS (show (lay 4).1 = 6 by decide) (by decide) (fr_6_0 hS) (by decide)) ?_
      refine t_go (op := o_getI 134 8 4) (fe_X7_emberLine 131) (g_getI hS (by decide) (by decide)) ?_
      rw [show h.1 2 4 = nI (tkT ch len i).2.2.1 from hC.2.2.2.2.2.1 (Or.inl ((cSo_3 _ (hC.b i).1).mp c1))]
      refine t_call (op := o_callV 137 9 2 1) (fe_X7_emberLine 134) (g_callV hS (lay_fst (ly_3_3 hg)) (by decide) rfl rfl rfl (Nat.le_of_ble_eq_true rfl)) ?_
      refine M_eq (m_X1_isFree hS (lay_fst (ly_3_3 hg))) ?_
      refine t_ite (op := o_if 146 140 (fun x => x = 0) (fun _ => inferInstance)) (fe_X7_emberLine 137) g_if (fun c3 => ?_) (fun c3 => ?_)
      · exact absurd ((free_k hs hG hN.2.2.2).mpr hu) (b2i_z c3)
      · replace c3 := b2i_nn c3
        refine t_go (op := o_aload 147 0) (fe_X7_emberLine 146) (fun _ _ => rfl) ?_
        refine t_go (op := o_ci 148 0) (fe_X7_emberLine 147) (fun _ _ => rfl) ?_
        refine t_go (op := o_ci 150 11) (fe_X7_emberLine 148) (fun _ _ => rfl) ?_
        refine t_call (op := o_callV 153 74 3 6) (fe_X7_emberLine 150) (g_callV hS (show (lay 4).1 = 6 by decide) (by decide) rfl rfl rfl (Nat.le_of_ble_eq_true rfl)) ?_
        refine M_mono ?_ (c_takeNumber (lo := 0) (hi2 := 11) hS hC (by decide) (by decide))
        rintro v3 k3 ⟨hy3, _⟩
        obtain ⟨rfl, hT3, hC3⟩ := hy3 hN
        have hs2 := KGs_T hg5 hs hT3 hC3
        replace hS := hs2.1.std hS0
        refine t_go (op := o_istore 155 5) (fe_X7_emberLine 153) (fun _ _ => rfl) ?_
        refine t_go (op := o_iload 157 5) (fe_X7_emberLine 155) (fun _ _ => rfl) ?_
        refine t_go (op := o_ci 158 (-1)) (fe_X7_emberLine 157) (fun _ _ => rfl) ?_
        refine t_ite (op := o_icmp 163 161 (fun x y => x = y) (fun _ _ => inferInstance)) (fe_X7_emberLine 158) g_icmp (fun c4 => ?_) (fun c4 => ?_)
        · exact absurd c4 (nI_m1 (by have := hN.2.2.2; omega))
        · exact hq _ hs2
  · exact absurd ((cSo_3 _ (hC.b i).1).mpr hN.2.1) c1
set_option maxRecDepth 8000 in
theorem k_eE1 {d : Nat} {h0 h : AHP} {g : Nat} {ch : Nat → Nat} {len i : Nat} {G : GS} (hS0 : Std h0) (hg : (lay g).1 = 3) (hg5 : 5 ≤ g) (hs : KGs h0 h g ch len i G) (hG : gOK G) {nm : Int64} {x4 x5 : Int32} (hw : ¬ isWd (tkT ch len) 2 i 0) {Q : Option Value → AHP → Prop} (hq : ∀ h2, KGF h0 h2 g (wrF (tkT ch len) 1 i 0) → Q (some (.int 0)) h2) : TT (d + 5) 76 163 [some (.ref 4), some (.ref g), some (.long nm), none, some (.int x4), some (.int x5), none, none] [] h Q := by
  have hS := hs.1.std hS0
  have hC := hs.2.1
  refine t_go (op := o_aload 164 0) (fe_X7_emberLine 163) (fun _ _ => rfl) ?_
  refine t_go (op := o_gets 167 200002) (fe_X7_emberLine 164) (fun _ _ => rfl) ?_
  refine t_call (op := o_callV 170 72 2 6) (fe_X7_emberLine 167) (g_callV hS (show (lay 4).1 = 6 by decide) (by decide) rfl rfl rfl (Nat.le_of_ble_eq_true rfl)) ?_
  refine M_mono ?_ (c_takeKey (c := 2) hS hC (by decide))
  rintro v3 k3 ⟨_, hn3⟩
  obtain ⟨rfl, rfl⟩ := hn3 hw
  refine t_ite (op := o_if 173 183 (fun x => x = 0) (fun _ => inferInstance)) (fe_X7_emberLine 170) g_if (fun c1 => ?_) (fun c1 => ?_)
  · clear c1
    refine t_go (op := o_ci 184 (-1)) (fe_X7_emberLine 183) (fun _ _ => rfl) ?_
    refine t_go (op := o_istore 186 6) (fe_X7_emberLine 184) (fun _ _ => rfl) ?_
    refine t_go (op := o_iload 188 6) (fe_X7_emberLine 186) (fun _ _ => rfl) ?_
    refine t_go (op := o_ci 189 (-1)) (fe_X7_emberLine 188) (fun _ _ => rfl) ?_
    refine t_ite (op := o_icmp 194 192 (fun x y => x = y) (fun _ _ => inferInstance)) (fe_X7_emberLine 189) g_icmp (fun c2 => ?_) (fun c2 => ?_)
    · clear c2
      refine t_go (op := o_ci 193 0) (fe_X7_emberLine 192) (fun _ _ => rfl) ?_
      refine t_ret (op := o_zret) (fe_X7_emberLine 193) (g_zret (Or.inl rfl)) ?_
      exact hq _ (KGF_w hg5 hs hG)
    · exact absurd (by decide) c2
  · exact absurd (by decide) c1
set_option maxRecDepth 8000 in
theorem k_eE2 {d : Nat} {h0 h : AHP} {g : Nat} {ch : Nat → Nat} {len i : Nat} {G : GS} (hS0 : Std h0) (hg : (lay g).1 = 3) (hg5 : 5 ≤ g) (hs : KGs h0 h g ch len i G) (hG : gOK G) {nm : Int64} {x4 x5 : Int32} (hw : isWd (tkT ch len) 2 i 0) (hN : ¬ nuP (tkT ch len) 0 20 (i + 1) 0) {Q : Option Value → AHP → Prop} (hq : ∀ h2, KGF h0 h2 g (wrF (tkT ch len) (nmF (tkT ch len) (i + 1)) (i + 1) 0) → Q (some (.int 0)) h2) : TT (d + 5) 76 163 [some (.ref 4), some (.ref g), some (.long nm), none, some (.int x4), some (.int x5), none, none] [] h Q := by
  have hS := hs.1.std hS0
  have hC := hs.2.1
  refine t_go (op := o_aload 164 0) (fe_X7_emberLine 163) (fun _ _ => rfl) ?_
  refine t_go (op := o_gets 167 200002) (fe_X7_emberLine 164) (fun _ _ => rfl) ?_
  refine t_call (op := o_callV 170 72 2 6) (fe_X7_emberLine 167) (g_callV hS (show (lay 4).1 = 6 by decide) (by decide) rfl rfl rfl (Nat.le_of_ble_eq_true rfl)) ?_
  refine M_mono ?_ (c_takeKey (c := 2) hS hC (by decide))
  rintro v3 k3 ⟨hy3, _⟩
  obtain ⟨rfl, hT3, hC3⟩ := hy3 hw
  have hs1 := KGs_T hg5 hs hT3 hC3
  replace hS := hs1.1.std hS0
  refine t_ite (op := o_if 173 183 (fun x => x = 0) (fun _ => inferInstance)) (fe_X7_emberLine 170) g_if (fun c1 => ?_) (fun c1 => ?_)
  · exact absurd c1 (by decide)
  · clear c1
    refine t_go (op := o_aload 174 0) (fe_X7_emberLine 173) (fun _ _ => rfl) ?_
    refine t_go (op := o_ci 175 0) (fe_X7_emberLine 174) (fun _ _ => rfl) ?_
    refine t_go (op := o_ci 177 20) (fe_X7_emberLine 175) (fun _ _ => rfl) ?_
    refine t_call (op := o_callV 180 74 3 6) (fe_X7_emberLine 177) (g_callV hS (show (lay 4).1 = 6 by decide) (by decide) rfl rfl rfl (Nat.le_of_ble_eq_true rfl)) ?_
    refine M_mono ?_ (c_takeNumber (lo := 0) (hi2 := 20) hS hC3 (by decide) (by decide))
    rintro v3 k3 ⟨_, hn3⟩
    obtain ⟨rfl, rfl⟩ := hn3 hN
    refine t_go (op := o_goto 184) (fe_X7_emberLine 180) (fun _ _ => rfl) ?_
    refine t_go (op := o_istore 186 6) (fe_X7_emberLine 184) (fun _ _ => rfl) ?_
    refine t_go (op := o_iload 188 6) (fe_X7_emberLine 186) (fun _ _ => rfl) ?_
    refine t_go (op := o_ci 189 (-1)) (fe_X7_emberLine 188) (fun _ _ => rfl) ?_
    refine t_ite (op := o_icmp 194 192 (fun x y => x = y) (fun _ _ => inferInstance)) (fe_X7_emberLine 189) g_icmp (fun c2 => ?_) (fun c2 => ?_)
    · clear c2
      refine t_go (op := o_ci 193 0) (fe_X7_emberLine 192) (fun _ _ => rfl) ?_
      refine t_ret (op := o_zret) (fe_X7_emberLine 193) (g_zret (Or.inl rfl)) ?_
      exact hq _ (KGF_w hg5 hs1 hG)
    · exact absurd (by decide) c2
set_option maxRecDepth 8000 in
theorem k_eE {d : Nat} {h0 h : AHP} {g : Nat} {ch : Nat → Nat} {len i : Nat} {G : GS} (hS0 : Std h0) (hg : (lay g).1 = 3) (hg5 : 5 ≤ g) (hs : KGs h0 h g ch len i G) (hG : gOK G) {nm : Int64} {x4 x5 : Int32} (hw : isWd (tkT ch len) 2 i 0) (hN : nuP (tkT ch len) 0 20 (i + 1) 0) {Q : Option Value → AHP → Prop} (hq : ∀ h2, KGs h0 h2 g ch len (i + 2) G → TT (d + 5) 76 194 [some (.ref 4), some (.ref g), some (.long nm), none, some (.int x4), some (.int x5), some (.int (nI (tkT ch len (i + 1)).2.2.1)), none] [] h2 Q) : TT (d + 5) 76 163 [some (.ref 4), some (.ref g), some (.long nm), none, some (.int x4), some (.int x5), none, none] [] h Q := by
  have hS := hs.1.std hS0
  have hC := hs.2.1
  refine t_go (op := o_aload 164 0) (fe_X7_emberLine 163) (fun _ _ => rfl) ?_
  refine t_go (op := o_gets 167 200002) (fe_X7_emberLine 164) (fun _ _ => rfl) ?_
  refine t_call (op := o_callV 170 72 2 6) (fe_X7_emberLine 167) (g_callV hS (show (lay 4).1 = 6 by decide) (by decide) rfl rfl rfl (Nat.le_of_ble_eq_true rfl)) ?_
  refine M_mono ?_ (c_takeKey (c := 2) hS hC (by decide))
  rintro v3 k3 ⟨hy3, _⟩
  obtain ⟨rfl, hT3, hC3⟩ := hy3 hw
  have hs1 := KGs_T hg5 hs hT3 hC3
  replace hS := hs1.1.std hS0
  refine t_ite (op := o_if 173 183 (fun x => x = 0) (fun _ => inferInstance)) (fe_X7_emberLine 170) g_if (fun c1 => ?_) (fun c1 => ?_)
  · exact absurd c1 (by decide)
  · clear c1
    refine t_go (op := o_aload 174 0) (fe_X7_emberLine 173) (fun _ _ => rfl) ?_
    refine t_go (op := o_ci 175 0) (fe_X7_emberLine 174) (fun _ _ => rfl) ?_
    refine t_go (op := o_ci 177 20) (fe_X7_emberLine 175) (fun _ _ => rfl) ?_
    refine t_call (op := o_callV 180 74 3 6) (fe_X7_emberLine 177) (g_callV hS (show (lay 4).1 = 6 by decide) (by decide) rfl rfl rfl (Nat.le_of_ble_eq_true rfl)) ?_
    refine M_mono ?_ (c_takeNumber (lo := 0) (hi2 := 20) hS hC3 (by decide) (by decide))
    rintro v3 k3 ⟨hy3, _⟩
    obtain ⟨rfl, hT3, hC3⟩ := hy3 hN
    have hs2 := KGs_T hg5 hs1 hT3 hC3
    replace hS := hs2.1.std hS0
    refine t_go (op := o_goto 184) (fe_X7_emberLine 180) (fun _ _ => rfl) ?_
    refine t_go (op := o_istore 186 6) (fe_X7_emberLine 184) (fun _ _ => rfl) ?_
    refine t_go (op := o_iload 188 6) (fe_X7_emberLine 186) (fun _ _ => rfl) ?_
    refine t_go (op := o_ci 189 (-1)) (fe_X7_emberLine 188) (fun _ _ => rfl) ?_
    refine t_ite (op := o_icmp 194 192 (fun x y => x = y) (fun _ _ => inferInstance)) (fe_X7_emberLine 189) g_icmp (fun c2 => ?_) (fun c2 => ?_)
    · exact absurd c2 (nI_m1 (by have := hN.2.2.2; omega))
    · exact hq _ hs2
set_option maxRecDepth 8000 in
theorem k_eF1 {d : Nat} {h0 h : AHP} {g : Nat} {ch : Nat → Nat} {len i : Nat} {G : GS} (hS0 : Std h0) (hg : (lay g).1 = 3) (hg5 : 5 ≤ g) (hs : KGs h0 h g ch len i G) (hG : gOK G) {nm : Int64} {x4 x5 x6 : Int32} (hw : ¬ isWd (tkT ch len) 3 i 0) {Q : Option Value → AHP → Prop} (hq : ∀ h2, KGF h0 h2 g (wrF (tkT ch len) 1 i 0) → Q (some (.int 0)) h2) : TT (d + 5) 76 194 [some (.ref 4), some (.ref g), some (.long nm), none, some (.int x4), some (.int x5), some (.int x6), none] [] h Q := by
  have hS := hs.1.std hS0
  have hC := hs.2.1
  refine t_go (op := o_aload 195 0) (fe_X7_emberLine 194) (fun _ _ => rfl) ?_
  refine t_go (op := o_gets 198 200003) (fe_X7_emberLine 195) (fun _ _ => rfl) ?_
  refine t_call (op := o_callV 201 72 2 6) (fe_X7_emberLine 198) (g_callV hS (show (lay 4).1 = 6 by decide) (by decide) rfl rfl rfl (Nat.le_of_ble_eq_true rfl)) ?_
  refine M_mono ?_ (c_takeKey (c := 3) hS hC (by decide))
  rintro v3 k3 ⟨_, hn3⟩
  obtain ⟨rfl, rfl⟩ := hn3 hw
  refine t_ite (op := o_if 204 214 (fun x => x = 0) (fun _ => inferInstance)) (fe_X7_emberLine 201) g_if (fun c1 => ?_) (fun c1 => ?_)
  · clear c1
    refine t_go (op := o_ci 215 (-1)) (fe_X7_emberLine 214) (fun _ _ => rfl) ?_
    refine t_go (op := o_istore 217 7) (fe_X7_emberLine 215) (fun _ _ => rfl) ?_
    refine t_go (op := o_iload 219 7) (fe_X7_emberLine 217) (fun _ _ => rfl) ?_
    refine t_go (op := o_ci 220 (-1)) (fe_X7_emberLine 219) (fun _ _ => rfl) ?_
    refine t_ite (op := o_icmp 223 232 (fun x y => x = y) (fun _ _ => inferInstance)) (fe_X7_emberLine 220) g_icmp (fun c2 => ?_) (fun c2 => ?_)
    · clear c2
      refine t_go (op := o_ci 233 0) (fe_X7_emberLine 232) (fun _ _ => rfl) ?_
      refine t_ret (op := o_zret) (fe_X7_emberLine 233) (g_zret (Or.inl rfl)) ?_
      exact hq _ (KGF_w hg5 hs hG)
    · exact absurd (by decide) c2
  · exact absurd (by decide) c1
set_option maxRecDepth 8000 in
theorem k_eF2 {d : Nat} {h0 h : AHP} {g : Nat} {ch : Nat → Nat} {len i : Nat} {G : GS} (hS0 : Std h0) (hg : (lay g).1 = 3) (hg5 : 5 ≤ g) (hs : KGs h0 h g ch len i G) (hG : gOK G) {nm : Int64} {x4 x5 x6 : Int32} (hw : isWd (tkT ch len) 3 i 0) (hN : ¬ nuP (tkT ch len) 1 20 (i + 1) 0) {Q : Option Value → AHP → Prop} (hq : ∀ h2, KGF h0 h2 g (wrF (tkT ch len) (nmF (tkT ch len) (i + 1)) (i + 1) 0) → Q (some (.int 0)) h2) : TT (d + 5) 76 194 [some (.ref 4), some (.ref g), some (.long nm), none, some (.int x4), some (.int x5), some (.int x6), none] [] h Q := by
  have hS := hs.1.std hS0
  have hC := hs.2.1
  refine t_go (op := o_aload 195 0) (fe_X7_emberLine 194) (fun _ _ => rfl) ?_
  refine t_go (op := o_gets 198 200003) (fe_X7_emberLine 195) (fun _ _ => rfl) ?_
  refine t_call (op := o_callV 201 72 2 6) (fe_X7_emberLine 198) (g_callV hS (show (lay 4).1 = 6 by decide) (by decide) rfl rfl rfl (Nat.le_of_ble_eq_true rfl)) ?_
  refine M_mono ?_ (c_takeKey (c := 3) hS hC (by decide))
  rintro v3 k3 ⟨hy3, _⟩
  obtain ⟨rfl, hT3, hC3⟩ := hy3 hw
  have hs1 := KGs_T hg5 hs hT3 hC3
  replace hS := hs1.1.std hS0
  refine t_ite (op := o_if 204 214 (fun x => x = 0) (fun _ => inferInstance)) (fe_X7_emberLine 201) g_if (fun c1 => ?_) (fun c1 => ?_)
  · exact absurd c1 (by decide)
  · clear c1
    refine t_go (op := o_aload 205 0) (fe_X7_emberLine 204) (fun _ _ => rfl) ?_
    refine t_go (op := o_ci 206 1) (fe_X7_emberLine 205) (fun _ _ => rfl) ?_
    refine t_go (op := o_ci 208 20) (fe_X7_emberLine 206) (fun _ _ => rfl) ?_
    refine t_call (op := o_callV 211 74 3 6) (fe_X7_emberLine 208) (g_callV hS (show (lay 4).1 = 6 by decide) (by decide) rfl rfl rfl (Nat.le_of_ble_eq_true rfl)) ?_
    refine M_mono ?_ (c_takeNumber (lo := 1) (hi2 := 20) hS hC3 (by decide) (by decide))
    rintro v3 k3 ⟨_, hn3⟩
    obtain ⟨rfl, rfl⟩ := hn3 hN
    refine t_go (op := o_goto 215) (fe_X7_emberLine 211) (fun _ _ => rfl) ?_
    refine t_go (op := o_istore 217 7) (fe_X7_emberLine 215) (fun _ _ => rfl) ?_
    refine t_go (op := o_iload 219 7) (fe_X7_emberLine 217) (fun _ _ => rfl) ?_
    refine t_go (op := o_ci 220 (-1)) (fe_X7_emberLine 219) (fun _ _ => rfl) ?_
    refine t_ite (op := o_icmp 223 232 (fun x y => x = y) (fun _ _ => inferInstance)) (fe_X7_emberLine 220) g_icmp (fun c2 => ?_) (fun c2 => ?_)
    · clear c2
      refine t_go (op := o_ci 233 0) (fe_X7_emberLine 232) (fun _ _ => rfl) ?_
      refine t_ret (op := o_zret) (fe_X7_emberLine 233) (g_zret (Or.inl rfl)) ?_
      exact hq _ (KGF_w hg5 hs1 hG)
    · exact absurd (by decide) c2
set_option maxRecDepth 8000 in
theorem k_eF {d : Nat} {h0 h : AHP} {g : Nat} {ch : Nat → Nat} {len i : Nat} {G : GS} (hS0 : Std h0) (hg : (lay g).1 = 3) (hg5 : 5 ≤ g) (hs : KGs h0 h g ch len i G) (hG : gOK G) {nm : Int64} {x4 x5 x6 : Int32} (hw : isWd (tkT ch len) 3 i 0) (hN : nuP (tkT ch len) 1 20 (i + 1) 0) {Q : Option Value → AHP → Prop} (hq : ∀ h2, KGs h0 h2 g ch len (i + 2) G → TT (d + 5) 76 223 [some (.ref 4), some (.ref g), some (.long nm), none, some (.int x4), some (.int x5), some (.int x6), some (.int (nI (tkT ch len (i + 1)).2.2.1))] [] h2 Q) : TT (d + 5) 76 194 [some (.ref 4), some (.ref g), some (.long nm), none, some (.int x4), some (.int x5), some (.int x6), none] [] h Q := by
  have hS := hs.1.std hS0
  have hC := hs.2.1
  refine t_go (op := o_aload 195 0) (fe_X7_emberLine 194) (fun _ _ => rfl) ?_
  refine t_go (op := o_gets 198 200003) (fe_X7_emberLine 195) (fun _ _ => rfl) ?_
  refine t_call (op := o_callV 201 72 2 6) (fe_X7_emberLine 198) (g_callV hS (show (lay 4).1 = 6 by decide) (by decide) rfl rfl rfl (Nat.le_of_ble_eq_true rfl)) ?_
  refine M_mono ?_ (c_takeKey (c := 3) hS hC (by decide))
  rintro v3 k3 ⟨hy3, _⟩
  obtain ⟨rfl, hT3, hC3⟩ := hy3 hw
  have hs1 := KGs_T hg5 hs hT3 hC3
  replace hS := hs1.1.std hS0
  refine t_ite (op := o_if 204 214 (fun x => x = 0) (fun _ => inferInstance)) (fe_X7_emberLine 201) g_if (fun c1 => ?_) (fun c1 => ?_)
  · exact absurd c1 (by decide)
  · clear c1
    refine t_go (op := o_aload 205 0) (fe_X7_emberLine 204) (fun _ _ => rfl) ?_
    refine t_go (op := o_ci 206 1) (fe_X7_emberLine 205) (fun _ _ => rfl) ?_
    refine t_go (op := o_ci 208 20) (fe_X7_emberLine 206) (fun _ _ => rfl) ?_
    refine t_call (op := o_callV 211 74 3 6) (fe_X7_emberLine 208) (g_callV hS (show (lay 4).1 = 6 by decide) (by decide) rfl rfl rfl (Nat.le_of_ble_eq_true rfl)) ?_
    refine M_mono ?_ (c_takeNumber (lo := 1) (hi2 := 20) hS hC3 (by decide) (by decide))
    rintro v3 k3 ⟨hy3, _⟩
    obtain ⟨rfl, hT3, hC3⟩ := hy3 hN
    have hs2 := KGs_T hg5 hs1 hT3 hC3
    replace hS := hs2.1.std hS0
    refine t_go (op := o_goto 215) (fe_X7_emberLine 211) (fun _ _ => rfl) ?_
    refine t_go (op := o_istore 217 7) (fe_X7_emberLine 215) (fun _ _ => rfl) ?_
    refine t_go (op := o_iload 219 7) (fe_X7_emberLine 217) (fun _ _ => rfl) ?_
    refine t_go (op := o_ci 220 (-1)) (fe_X7_emberLine 219) (fun _ _ => rfl) ?_
    refine t_ite (op := o_icmp 223 232 (fun x y => x = y) (fun _ _ => inferInstance)) (fe_X7_emberLine 220) g_icmp (fun c2 => ?_) (fun c2 => ?_)
    · exact absurd c2 (nI_m1 (by have := hN.2.2.2; omega))
    · exact hq _ hs2
set_option maxRecDepth 8000 in
theorem k_eG1 {d : Nat} {h0 h : AHP} {g : Nat} {ch : Nat → Nat} {len i : Nat} {G : GS} (hS0 : Std h0) (hg : (lay g).1 = 3) (hg5 : 5 ≤ g) (hs : KGs h0 h g ch len i G) (hG : gOK G) {nm : Int64} {x4 x5 x6 x7 : Int32} (hw : ¬ isS (tkT ch len) 59 i 0) {Q : Option Value → AHP → Prop} (hq : ∀ h2, KGF h0 h2 g (wrF (tkT ch len) 1 i 0) → Q (some (.int 0)) h2) : TT (d + 5) 76 223 [some (.ref 4), some (.ref g), some (.long nm), none, some (.int x4), some (.int x5), some (.int x6), some (.int x7)] [] h Q := by
  have hS := hs.1.std hS0
  have hC := hs.2.1
  refine t_go (op := o_aload 224 0) (fe_X7_emberLine 223) (fun _ _ => rfl) ?_
  refine t_go (op := o_ci 226 59) (fe_X7_emberLine 224) (fun _ _ => rfl) ?_
  refine t_call (op := o_callV 229 73 2 6) (fe_X7_emberLine 226) (g_callV hS (show (lay 4).1 = 6 by decide) (by decide) rfl rfl rfl (Nat.le_of_ble_eq_true rfl)) ?_
  refine M_mono ?_ (c_takeSign (c := 59) hS hC (by decide))
  rintro v3 k3 ⟨_, hn3⟩
  obtain ⟨rfl, rfl⟩ := hn3 hw
  refine t_ite (op := o_if 234 232 (fun x => x = 0) (fun _ => inferInstance)) (fe_X7_emberLine 229) g_if (fun c1 => ?_) (fun c1 => ?_)
  · clear c1
    refine t_go (op := o_ci 233 0) (fe_X7_emberLine 232) (fun _ _ => rfl) ?_
    refine t_ret (op := o_zret) (fe_X7_emberLine 233) (g_zret (Or.inl rfl)) ?_
    exact hq _ (KGF_w hg5 hs hG)
  · exact absurd (by decide) c1
set_option maxRecDepth 8000 in
theorem k_eG {d : Nat} {h0 h : AHP} {g : Nat} {ch : Nat → Nat} {len i : Nat} {G : GS} (hS0 : Std h0) (hg : (lay g).1 = 3) (hg5 : 5 ≤ g) (hs : KGs h0 h g ch len i G) (hG : gOK G) {nm : Int64} {x4 x5 x6 x7 : Int32} (hw : isS (tkT ch len) 59 i 0) (hl7 : G.1.length < 7) {Q : Option Value → AHP → Prop} (hq : ∀ k3, KGs h0 k3 g ch len (i + 1) G → Q (some (.int 1)) (setF (sI (sI (sJ k3 (g + 1) G.1.length nm) (g + 2) G.1.length x4) g 4 (nI (G.1.length + 1))) (g + 3) (layF (fs k3 (g + 3)) (nI G.1.length) x5 x6 x7))) : TT (d + 5) 76 223 [some (.ref 4), some (.ref g), some (.long nm), none, some (.int x4), some (.int x5), some (.int x6), some (.int x7)] [] h Q := by
  have hS := hs.1.std hS0
  have hC := hs.2.1
  refine t_go (op := o_aload 224 0) (fe_X7_emberLine 223) (fun _ _ => rfl) ?_
  refine t_go (op := o_ci 226 59) (fe_X7_emberLine 224) (fun _ _ => rfl) ?_
  refine t_call (op := o_callV 229 73 2 6) (fe_X7_emberLine 226) (g_callV hS (show (lay 4).1 = 6 by decide) (by decide) rfl rfl rfl (Nat.le_of_ble_eq_true rfl)) ?_
  refine M_mono ?_ (c_takeSign (c := 59) hS hC (by decide))
  rintro v3 k3 ⟨hy3, _⟩
  obtain ⟨rfl, hT3, hC3⟩ := hy3 hw
  have hs2 := KGs_T hg5 hs hT3 hC3
  replace hS := hs2.1.std hS0
  refine t_ite (op := o_if 234 232 (fun x => x = 0) (fun _ => inferInstance)) (fe_X7_emberLine 229) g_if (fun c1 => ?_) (fun c1 => ?_)
  · exact absurd c1 (by decide)
  · clear c1
    refine t_go (op := o_aload 235 1) (fe_X7_emberLine 234) (fun _ _ => rfl) ?_
    refine t_go (op := o_lload 236 2) (fe_X7_emberLine 235) (fun _ _ => rfl) ?_
    refine t_go (op := o_iload 238 4) (fe_X7_emberLine 236) (fun _ _ => rfl) ?_
    refine t_call (op := o_callV 241 51 3 3) (fe_X7_emberLine 238) (g_callV hS hg (by decide) rfl rfl rfl (Nat.le_of_ble_eq_true rfl)) ?_
    refine M_eq (c_addEmber hS hg hs2.2.2.1.1 hl7) ?_
    refine t_go (op := o_aload 242 1) (fe_X7_emberLine 241) (fun _ _ => rfl) ?_
    refine t_go (op := o_getR 245 3 2) (fe_X7_emberLine 242) (g_getR hS hg (by decide) (fr_3_2 hS hg) (Nat.succ_pos _)) ?_
    refine t_go (op := o_aload 246 1) (fe_X7_emberLine 245) (fun _ _ => rfl) ?_
    refine t_go (op := o_getI 249 3 4) (fe_X7_emberLine 246) (g_getI hS hg (by decide)) ?_
    rw [show (sI (sI (sJ k3 (g + 1) G.1.length nm) (g + 2) G.1.length x4) g 4 (nI (G.1.length + 1))).1 g 4 = nI (G.1.length + 1) from sI_eq]
    refine t_go (op := o_ci 250 1) (fe_X7_emberLine 249) (fun _ _ => rfl) ?_
    refine t_go (op := o_i2 251 (fun x y => x - y)) (fe_X7_emberLine 250) (fun _ _ => rfl) ?_
    rw [show (fun x y : Int32 => x - y) (nI (G.1.length + 1)) 1 = nI G.1.length from (nIs (a := G.1.length + 1) (b := 1) rfl rfl (by omega)).trans (by rw [Nat.add_sub_cancel])]
    refine t_go (op := o_iload 253 5) (fe_X7_emberLine 251) (fun _ _ => rfl) ?_
    refine t_go (op := o_iload 255 6) (fe_X7_emberLine 253) (fun _ _ => rfl) ?_
    refine t_go (op := o_iload 257 7) (fe_X7_emberLine 255) (fun _ _ => rfl) ?_
    refine t_call (op := o_callV 260 10 5 1) (fe_X7_emberLine 257) (g_callV hS (lay_fst (ly_3_3 hg)) (by decide) rfl rfl rfl (Nat.le_of_ble_eq_true rfl)) ?_
    refine M_eq (M_heap (h' := setF (sI (sI (sJ k3 (g + 1) G.1.length nm) (g + 2) G.1.length x4) g 4 (nI (G.1.length + 1))) (g + 3) (fs k3 (g + 3))) ?_ (m_lay (e := nI G.1.length) hS (lay_fst (ly_3_3 hg)))) ?_
    · rw [show fs k3 (g + 3) = fs (sI (sI (sJ k3 (g + 1) G.1.length nm) (g + 2) G.1.length x4) g 4 (nI (G.1.length + 1))) (g + 3) from (fs_rows fun a q1 q2 => by rw [sI_ne (by omega), sI_ne (by omega)]; rfl).symm]; exact setF_fs
    refine t_go (op := o_ci 261 1) (fe_X7_emberLine 260) (fun _ _ => rfl) ?_
    refine t_ret (op := o_zret) (fe_X7_emberLine 261) (g_zret (Or.inr rfl)) ?_
    exact hq _ hs2
