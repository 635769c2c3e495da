/-! ===== the class's reader: more leaves ===== -/
theorem ky_le {t : Tk} (h : TKb t) : kyN t ≤ 24 := by
  unfold kyN
  by_cases h1 : t.1 = 1
  · rw [if_pos h1, (h.2.2.2 h1).2]
    have := kw_le t.2.2.2.1
    omega
  · rw [if_neg h1]
    omega
theorem ky_w {TK : Nat → Tk} {i c : Nat} (hc : c < 23) : 200000 + kyN (TK i) = 200000 + c ↔ isWd TK c i 0 := by
  unfold kyN isWd
  by_cases h1 : (TK i).1 = 1
  · rw [if_pos h1]
    exact ⟨fun q => ⟨rfl, h1, by omega⟩, fun q => by rw [q.2.2]⟩
  · rw [if_neg h1]
    exact ⟨fun q => by omega, fun q => absurd q.2.1 h1⟩
theorem ky_b {t : Tk} (h : TKb t) {c : Nat} (hc : c < 25) : 200000 ≤ 200000 + kyN t ∧ 200000 + kyN t < 200025 ∧ 200000 ≤ 200000 + c ∧ 200000 + c < 200025 := by have := ky_le h; omega
theorem c_takeKey {d : Nat} {h : AHP} {ch : Nat → Nat} {len i : Nat} (hS : Std h) (hC : CU h ch len i) {c : Nat} (hc : c < 23) : MM (d + 2) 72 [.ref 4, .ref (200000 + c)] h (fun v h2 => (isWd (tkT ch len) c i 0 → v = some (.int 1) ∧ Tf h h2 ∧ CU h2 ch len (i + 1)) ∧ (¬ isWd (tkT ch len) c i 0 → v = some (.int 0) ∧ h2 = sI h 4 1 (nI (wrF (tkT ch len) 1 i 0)))) := by
  refine ⟨Nat.le_of_ble_eq_true rfl, ?_⟩
  have hB := hC.b i
  refine t_go (op := o_aload 1 0) (fe_X7_takeKey 0) (fun _ _ => rfl) ?_
  refine t_go (op := o_getR 4 6 0) (fe_X7_takeKey 1) (g_getR hS (show (lay 4).1 = 6 by decide) (by decide) (fr_6_0 hS) (by decide)) ?_
  refine t_go (op := o_getR 7 8 6) (fe_X7_takeKey 4) (g_getR hS (by decide) (by decide) hC.key (by omega)) ?_
  refine t_go (op := o_aload 8 1) (fe_X7_takeKey 7) (fun _ _ => rfl) ?_
  refine t_ite (op := o_acmpEq 11 17) (fe_X7_takeKey 8) (g_acmpEq (ky_b hB (by omega))) (fun c1 => ?_) (fun c1 => ?_)
  · refine t_go (op := o_aload 18 0) (fe_X7_takeKey 17) (fun _ _ => rfl) ?_
    refine t_go (op := o_getR 21 6 0) (fe_X7_takeKey 18) (g_getR hS (show (lay 4).1 = 6 by decide) (by decide) (fr_6_0 hS) (by decide)) ?_
    refine t_call (op := o_callV 24 97 1 8) (fe_X7_takeKey 21) (g_callV hS (by decide) (by decide) rfl rfl rfl (Nat.le_of_ble_eq_true rfl)) ?_
    refine M_mono ?_ (c_toNext hS hC)
    rintro _ k2 ⟨rfl, hT, hC2⟩
    replace hS := hT.std hS
    refine t_go (op := o_ci 25 1) (fe_X7_takeKey 24) (fun _ _ => rfl) ?_
    refine t_ret (op := o_zret) (fe_X7_takeKey 25) (g_zret (Or.inr rfl)) ?_
    exact ⟨fun _ => ⟨rfl, hT, hC2⟩, fun q => absurd ((ky_w hc).mp c1) q⟩
  · refine t_go (op := o_aload 12 0) (fe_X7_takeKey 11) (fun _ _ => rfl) ?_
    refine t_go (op := o_ci 13 1) (fe_X7_takeKey 12) (fun _ _ => rfl) ?_
    refine t_call (op := o_callV 16 71 2 6) (fe_X7_takeKey 13) (g_callV hS (show (lay 4).1 = 6 by decide) (by decide) rfl rfl rfl (Nat.le_of_ble_eq_true rfl)) ?_
    refine M_eq (c_wrong (c := 1) hS hC) ?_
    refine t_ret (op := o_zret) (fe_X7_takeKey 16) (g_zret (Or.inl rfl)) ?_
    exact ⟨fun q => absurd ((ky_w hc).mpr q) c1, fun _ => ⟨rfl, rfl⟩⟩
theorem c_takeNumber {d : Nat} {h : AHP} {ch : Nat → Nat} {len i : Nat} (hS : Std h) (hC : CU h ch len i) {lo hi2 : Nat} (hl : lo < 10000) (hh : hi2 < 10000) : MM (d + 2) 74 [.ref 4, .int (nI lo), .int (nI hi2)] h (fun v h2 => (nuP (tkT ch len) lo hi2 i 0 → v = some (.int (nI (tkT ch len i).2.2.1)) ∧ Tf h h2 ∧ CU h2 ch len (i + 1)) ∧ (¬ nuP (tkT ch len) lo hi2 i 0 → v = some (.int (-1)) ∧ h2 = sI h 4 1 (nI (wrF (tkT ch len) (if (tkT ch len i).1 = 2 then 4 else 1) i 0)))) := by
  refine ⟨Nat.le_of_ble_eq_true rfl, ?_⟩
  have hB := hC.b i
  have hb0 := hB.2.2.1
  refine t_go (op := o_aload 1 0) (fe_X7_takeNumber 0) (fun _ _ => rfl) ?_
  refine t_go (op := o_getR 4 6 0) (fe_X7_takeNumber 1) (g_getR hS (show (lay 4).1 = 6 by decide) (by decide) (fr_6_0 hS) (by decide)) ?_
  refine t_go (op := o_getI 7 8 2) (fe_X7_takeNumber 4) (g_getI hS (by decide) (by decide)) ?_
  rw [show h.1 2 2 = nI (cSo (tkT ch len i).1) from hC.2.2.2.1]
  refine t_go (op := o_ci 8 3) (fe_X7_takeNumber 7) (fun _ _ => rfl) ?_
  refine t_ite (op := o_icmp 11 19 (fun x y => x = y) (fun _ _ => inferInstance)) (fe_X7_takeNumber 8) g_icmp (fun c1 => ?_) (fun c1 => ?_)
  · have hs2 := (cSo_3 _ hB.1).mp c1
    refine t_go (op := o_aload 20 0) (fe_X7_takeNumber 19) (fun _ _ => rfl) ?_
    refine t_go (op := o_getR 23 6 0) (fe_X7_takeNumber 20) (g_getR hS (show (lay 4).1 = 6 by decide) (by decide) (fr_6_0 hS) (by decide)) ?_
    refine t_go (op := o_getI 26 8 4) (fe_X7_takeNumber 23) (g_getI hS (by decide) (by decide)) ?_
    rw [show h.1 2 4 = nI (tkT ch len i).2.2.1 from hC.2.2.2.2.2.1 (Or.inl hs2)]
    refine t_go (op := o_istore 27 3) (fe_X7_takeNumber 26) (fun _ _ => rfl) ?_
    refine t_go (op := o_iload 28 3) (fe_X7_takeNumber 27) (fun _ _ => rfl) ?_
    refine t_go (op := o_iload 29 1) (fe_X7_takeNumber 28) (fun _ _ => rfl) ?_
    refine t_ite (op := o_icmp 32 37 (fun x y => x < y) (fun _ _ => inferInstance)) (fe_X7_takeNumber 29) g_icmp (fun c2 => ?_) (fun c2 => ?_)
    · refine t_go (op := o_aload 38 0) (fe_X7_takeNumber 37) (fun _ _ => rfl) ?_
      refine t_go (op := o_ci 39 4) (fe_X7_takeNumber 38) (fun _ _ => rfl) ?_
      refine t_call (op := o_callV 42 71 2 6) (fe_X7_takeNumber 39) (g_callV hS (show (lay 4).1 = 6 by decide) (by decide) rfl rfl rfl (Nat.le_of_ble_eq_true rfl)) ?_
      refine M_eq (c_wrong (c := 4) hS hC) ?_
      refine t_go (op := o_popI 43) (fe_X7_takeNumber 42) (fun _ _ => rfl) ?_
      refine t_go (op := o_ci 44 (-1)) (fe_X7_takeNumber 43) (fun _ _ => rfl) ?_
      refine t_ret (op := o_iret) (fe_X7_takeNumber 44) (fun _ _ => rfl) ?_
      exact ⟨fun q => absurd ((nI_ltI (by omega) (by omega)).mp c2) (by have := q.2.2.1; omega), fun _ => ⟨rfl, by rw [if_pos hs2]⟩⟩
    · refine t_go (op := o_iload 33 3) (fe_X7_takeNumber 32) (fun _ _ => rfl) ?_
      refine t_go (op := o_iload 34 2) (fe_X7_takeNumber 33) (fun _ _ => rfl) ?_
      refine t_ite (op := o_icmp 37 45 (fun x y => x ≤ y) (fun _ _ => inferInstance)) (fe_X7_takeNumber 34) g_icmp (fun c3 => ?_) (fun c3 => ?_)
      · refine t_go (op := o_aload 46 0) (fe_X7_takeNumber 45) (fun _ _ => rfl) ?_
        refine t_go (op := o_getR 49 6 0) (fe_X7_takeNumber 46) (g_getR hS (show (lay 4).1 = 6 by decide) (by decide) (fr_6_0 hS) (by decide)) ?_
        refine t_call (op := o_callV 52 97 1 8) (fe_X7_takeNumber 49) (g_callV hS (by decide) (by decide) rfl rfl rfl (Nat.le_of_ble_eq_true rfl)) ?_
        refine M_mono ?_ (c_toNext hS hC)
        rintro _ k2 ⟨rfl, hT, hC2⟩
        replace hS := hT.std hS
        refine t_go (op := o_iload 53 3) (fe_X7_takeNumber 52) (fun _ _ => rfl) ?_
        refine t_ret (op := o_iret) (fe_X7_takeNumber 53) (fun _ _ => rfl) ?_
        exact ⟨fun _ => ⟨rfl, hT, hC2⟩, fun q => absurd ⟨rfl, hs2, Nat.le_of_not_lt (fun q2 => c2 (nI_lt q2 (by omega))), le_nI (by omega) (by omega) c3⟩ q⟩
      · refine t_go (op := o_aload 38 0) (fe_X7_takeNumber 37) (fun _ _ => rfl) ?_
        refine t_go (op := o_ci 39 4) (fe_X7_takeNumber 38) (fun _ _ => rfl) ?_
        refine t_call (op := o_callV 42 71 2 6) (fe_X7_takeNumber 39) (g_callV hS (show (lay 4).1 = 6 by decide) (by decide) rfl rfl rfl (Nat.le_of_ble_eq_true rfl)) ?_
        refine M_eq (c_wrong (c := 4) hS hC) ?_
        refine t_go (op := o_popI 43) (fe_X7_takeNumber 42) (fun _ _ => rfl) ?_
        refine t_go (op := o_ci 44 (-1)) (fe_X7_takeNumber 43) (fun _ _ => rfl) ?_
        refine t_ret (op := o_iret) (fe_X7_takeNumber 44) (fun _ _ => rfl) ?_
        exact ⟨fun q => absurd (nI_le q.2.2.2 (by omega)) c3, fun _ => ⟨rfl, by rw [if_pos hs2]⟩⟩
  · refine t_go (op := o_aload 12 0) (fe_X7_takeNumber 11) (fun _ _ => rfl) ?_
    refine t_go (op := o_ci 13 1) (fe_X7_takeNumber 12) (fun _ _ => rfl) ?_
    refine t_call (op := o_callV 16 71 2 6) (fe_X7_takeNumber 13) (g_callV hS (show (lay 4).1 = 6 by decide) (by decide) rfl rfl rfl (Nat.le_of_ble_eq_true rfl)) ?_
    refine M_eq (c_wrong (c := 1) hS hC) ?_
    refine t_go (op := o_popI 17) (fe_X7_takeNumber 16) (fun _ _ => rfl) ?_
    refine t_go (op := o_ci 18 (-1)) (fe_X7_takeNumber 17) (fun _ _ => rfl) ?_
    refine t_ret (op := o_iret) (fe_X7_takeNumber 18) (fun _ _ => rfl) ?_
    exact ⟨fun q => absurd ((cSo_3 _ hB.1).mpr q.2.1) c1, fun _ => ⟨rfl, by rw [if_neg (fun q => c1 ((cSo_3 _ hB.1).mpr q))]⟩⟩
theorem c_add {d : Nat} {h : AHP} {l q : Nat} {x : Int32} (hS : Std h) (hl : (lay l).1 = 4) (hlen : h.1 l 3 = nI q) (hq : q < 1000) : MM d 59 [.ref l, .int x] h (fun v h2 => v = none ∧ h2 = sI (sI h (l + 1) q x) l 3 (nI (q + 1))) := by
  refine ⟨Nat.le_of_ble_eq_true rfl, ?_⟩
  refine t_go (op := o_aload 1 0) (fe_X5_add 0) (fun _ _ => rfl) ?_
  refine t_go (op := o_getI 4 4 3) (fe_X5_add 1) (g_getI hS hl (by decide)) ?_
  rw [hlen]
  refine t_go (op := o_ci 7 1000) (fe_X5_add 4) (fun _ _ => rfl) ?_
  refine t_ite (op := o_icmp 10 30 (fun x y => y ≤ x) (fun _ _ => inferInstance)) (fe_X5_add 7) g_icmp (fun c1 => ?_) (fun c1 => ?_)
  · exact absurd c1 (nI_ge hq (by decide))
  · refine t_go (op := o_aload 11 0) (fe_X5_add 10) (fun _ _ => rfl) ?_
    refine t_go (op := o_getR 14 4 0) (fe_X5_add 11) (g_getR hS hl (by decide) (fr_4_0 hS hl) (Nat.succ_pos _)) ?_
    refine t_go (op := o_aload 15 0) (fe_X5_add 14) (fun _ _ => rfl) ?_
    refine t_go (op := o_getI 18 4 3) (fe_X5_add 15) (g_getI hS hl (by decide)) ?_
    rw [hlen]
    refine t_go (op := o_iload 19 1) (fe_X5_add 18) (fun _ _ => rfl) ?_
    refine t_go (op := o_iast 20) (fe_X5_add 19) (g_iastN hS (ly_4_1 hl) rfl (by omega) (by decide)) ?_
    refine t_go (op := o_aload 21 0) (fe_X5_add 20) (fun _ _ => rfl) ?_
    refine t_go (op := o_dupA 22) (fe_X5_add 21) (fun _ _ => rfl) ?_
    refine t_go (op := o_getI 25 4 3) (fe_X5_add 22) (g_getI hS hl (by decide)) ?_
    rw [show (sI h (l + 1) q x).1 l 3 = nI q from (congrFun (sI_ne (by omega)) 3).trans hlen]
    refine t_go (op := o_ci 26 1) (fe_X5_add 25) (fun _ _ => rfl) ?_
    refine t_go (op := o_i2 27 (fun x y => x + y)) (fe_X5_add 26) (fun _ _ => rfl) ?_
    refine t_go (op := o_putI 30 4 3) (fe_X5_add 27) (g_putI hS hl (by decide)) ?_
    refine t_ret (op := o_vret) (fe_X5_add 30) (fun _ _ => rfl) ?_
    exact ⟨rfl, congrArg (sI (sI h (l + 1) q x) l 3) (nI_1 q)⟩
def ofF (c : Nat) : Int32 := if 200000 + c = 200019 then -1 else if 200000 + c = 200020 then -2 else if 200000 + c = 200021 then -3 else if 200000 + c = 200022 then -4 else 0
theorem c_ofFact {d : Nat} {h : AHP} {c : Nat} (hc : c < 25) : MM d 58 [.ref (200000 + c)] h (fun v h2 => v = some (.int (ofF c)) ∧ h2 = h) := by
  refine ⟨Nat.le_of_ble_eq_true rfl, ?_⟩
  refine t_go (op := o_aload 1 0) (fe_X5_ofFact 0) (fun _ _ => rfl) ?_
  refine t_go (op := o_gets 4 200019) (fe_X5_ofFact 1) (fun _ _ => rfl) ?_
  refine t_ite (op := o_acmpNe 7 9) (fe_X5_ofFact 4) (g_acmpNe ⟨by omega, by omega, by decide, by decide⟩) (fun c1 => ?_) (fun c1 => ?_)
  · refine t_go (op := o_ci 8 (-1)) (fe_X5_ofFact 7) (fun _ _ => rfl) ?_
    refine t_ret (op := o_iret) (fe_X5_ofFact 8) (fun _ _ => rfl) ?_
    exact ⟨congrArg (fun z => some (Value.int z)) (Eq.symm (show ofF c = _ from (if_pos c1))), rfl⟩
  · refine t_go (op := o_aload 10 0) (fe_X5_ofFact 9) (fun _ _ => rfl) ?_
    refine t_go (op := o_gets 13 200020) (fe_X5_ofFact 10) (fun _ _ => rfl) ?_
    refine t_ite (op := o_acmpNe 16 19) (fe_X5_ofFact 13) (g_acmpNe ⟨by omega, by omega, by decide, by decide⟩) (fun c2 => ?_) (fun c2 => ?_)
    · refine t_go (op := o_ci 18 (-2)) (fe_X5_ofFact 16) (fun _ _ => rfl) ?_
      refine t_ret (op := o_iret) (fe_X5_ofFact 18) (fun _ _ => rfl) ?_
      exact ⟨congrArg (fun z => some (Value.int z)) (Eq.symm (show ofF c = _ from (Eq.trans (if_neg c1) (if_pos c2)))), rfl⟩
    · refine t_go (op := o_aload 20 0) (fe_X5_ofFact 19) (fun _ _ => rfl) ?_
      refine t_go (op := o_gets 23 200021) (fe_X5_ofFact 20) (fun _ _ => rfl) ?_
      refine t_ite (op := o_acmpNe 26 29) (fe_X5_ofFact 23) (g_acmpNe ⟨by omega, by omega, by decide, by decide⟩) (fun c3 => ?_) (fun c3 => ?_)
      · refine t_go (op := o_ci 28 (-3)) (fe_X5_ofFact 26) (fun _ _ => rfl) ?_
        refine t_ret (op := o_iret) (fe_X5_ofFact 28) (fun _ _ => rfl) ?_
        exact ⟨congrArg (fun z => some (Value.int z)) (Eq.symm (show ofF c = _ from (Eq.trans (if_neg c1) (Eq.trans (if_neg c2) (if_pos c3))))), rfl⟩
      · refine t_go (op := o_aload 30 0) (fe_X5_ofFact 29) (fun _ _ => rfl) ?_
        refine t_go (op := o_gets 33 200022) (fe_X5_ofFact 30) (fun _ _ => rfl) ?_
        refine t_ite (op := o_acmpNe 36 41) (fe_X5_ofFact 33) (g_acmpNe ⟨by omega, by omega, by decide, by decide⟩) (fun c4 => ?_) (fun c4 => ?_)
        · refine t_go (op := o_ci 38 (-4)) (fe_X5_ofFact 36) (fun _ _ => rfl) ?_
          refine t_go (op := o_goto 42) (fe_X5_ofFact 38) (fun _ _ => rfl) ?_
          refine t_ret (op := o_iret) (fe_X5_ofFact 42) (fun _ _ => rfl) ?_
          exact ⟨congrArg (fun z => some (Value.int z)) (Eq.symm (show ofF c = _ from (Eq.trans (if_neg c1) (Eq.trans (if_neg c2) (Eq.trans (if_neg c3) (if_pos c4)))))), rfl⟩
        · refine t_go (op := o_ci 42 0) (fe_X5_ofFact 41) (fun _ _ => rfl) ?_
          refine t_ret (op := o_iret) (fe_X5_ofFact 42) (fun _ _ => rfl) ?_
          exact ⟨congrArg (fun z => some (Value.int z)) (Eq.symm (show ofF c = _ from (Eq.trans (if_neg c1) (Eq.trans (if_neg c2) (Eq.trans (if_neg c3) (if_neg c4)))))), rfl⟩
