/-! ===== the loop over the script ===== -/
theorem sub7 {N i : Nat} (hN : N ≤ 3584) (hi : i ≤ 100000) (h : ¬ nI N - 7 < nI i) : i + 7 ≤ N := by
  rcases Nat.lt_or_ge N (i + 7) with q | q
  · refine absurd ?_ h
    rcases Nat.lt_or_ge N 7 with q2 | q2
    · have e : ∀ n, n < 7 → nI n - 7 < 0 := by decide +kernel
      exact Int32.lt_of_lt_of_le (e N q2) (nI_pos' (by omega))
    · rw [show nI N - 7 = nI (N - 7) from nIs rfl (nIl 7) q2]
      exact nI_lt (by omega) (by omega)
  · exact q
set_option maxRecDepth 8000 in
theorem lw_loop {f : Nat → Int32} {N : Nat} (hN : N ≤ 3584) : ∀ (j T : Nat) (h : AHP) (c : Nat) (x5 x6 : Option Value), N ≤ 7 * T + j → 7 * T ≤ 3591 → CI T h → SC f N c h → c ≤ 201 + T → TL_ 50 23 [some (.ref 300000), some (.ref 1), some (.ref 183), some (.ref 201), some (.int (nI (7 * T))), x5, x6] [] h (fun v h2 => v = some (.int 1) ∧ ∃ c, SC f N c h2 ∧ c ≤ 801) := by
  intro j
  induction j with
  | zero =>
    intro T h c x5 x6 hj h9 hC hsc hc
    refine l_go (op := o_iload 25 4) rfl (fun _ _ => rfl) ?_
    refine l_go (op := o_aload 26 0) rfl (fun _ _ => rfl) ?_
    refine l_go (op := o_slen 27) rfl (g_slenN hsc) ?_
    refine l_go (op := o_ci 29 7) rfl (fun _ _ => rfl) ?_
    refine l_go (op := o_i2 30 (fun x y => x - y)) rfl (fun _ _ => rfl) ?_
    refine l_ite (op := o_icmp 33 1388 (fun x y => y < x) (fun _ _ => inferInstance)) rfl g_icmp (fun c1 => ?_) (fun c1 => ?_)
    · refine l_go (op := o_ci 1389 1) rfl (fun _ _ => rfl) ?_
      exact l_ret (op := o_zret) rfl (g_zret (Or.inr rfl)) ⟨rfl, c, hsc, by omega⟩
    · have := sub7 hN (by omega) c1
      omega
  | succ j ih =>
    intro T h c x5 x6 hj h9 hC hsc hc
    refine l_go (op := o_iload 25 4) rfl (fun _ _ => rfl) ?_
    refine l_go (op := o_aload 26 0) rfl (fun _ _ => rfl) ?_
    refine l_go (op := o_slen 27) rfl (g_slenN hsc) ?_
    refine l_go (op := o_ci 29 7) rfl (fun _ _ => rfl) ?_
    refine l_go (op := o_i2 30 (fun x y => x - y)) rfl (fun _ _ => rfl) ?_
    refine l_ite (op := o_icmp 33 1388 (fun x y => y < x) (fun _ _ => inferInstance)) rfl g_icmp (fun c1 => ?_) (fun c1 => ?_)
    · refine l_go (op := o_ci 1389 1) rfl (fun _ _ => rfl) ?_
      exact l_ret (op := o_zret) rfl (g_zret (Or.inr rfl)) ⟨rfl, c, hsc, by omega⟩
    · have hi7 := sub7 hN (by omega) c1
      have hT : T ≤ 600 := by omega
      have hw : ∀ h3 x5 x6 c', c' ≤ c + 1 → CI (T + 1) h3 → SC f N c' h3 → TL_ 50 1382 [some (.ref 300000), some (.ref 1), some (.ref 183), some (.ref 201), some (.int (nI (7 * T))), x5, x6] [] h3 (fun v h2 => v = some (.int 1) ∧ ∃ c, SC f N c h2 ∧ c ≤ 801) := by
        intro h3 x5 x6 c' hc' hC3 hsc3
        refine l_go (op := o_iinc 1385 4 7) rfl (fun _ _ => rfl) ?_
        refine l_go (op := o_goto 23) rfl (fun _ _ => rfl) ?_
        rw [show nI (7 * T) + 7 = nI (7 * (T + 1)) from (nIa (a := 7 * T) (b := 7) rfl (nIl 7)).trans (congrArg nI (by omega))]
        exact ih (T + 1) h3 c' x5 x6 (by omega) (by omega) hC3 hsc3 (by omega)
      have hq : ∀ h3 x5 x6, CI (T + 1) h3 → SC f N c h3 → TL_ 50 1382 [some (.ref 300000), some (.ref 1), some (.ref 183), some (.ref 201), some (.int (nI (7 * T))), x5, x6] [] h3 (fun v h2 => v = some (.int 1) ∧ ∃ c, SC f N c h2 ∧ c ≤ 801) := fun h3 x5 x6 a b => hw h3 x5 x6 c (Nat.le_succ c) a b
      refine l_go (op := o_aload 34 0) rfl (fun _ _ => rfl) ?_
      refine l_go (op := o_iload 36 4) rfl (fun _ _ => rfl) ?_
      refine l_go (op := o_sld 37) rfl (g_sldN hsc rfl (by omega)) ?_
      refine l_go (op := o_ci 39 63) rfl (fun _ _ => rfl) ?_
      refine l_go (op := o_i2 40 (fun x y => x &&& y)) rfl (fun _ _ => rfl) ?_
      refine l_go (op := o_sw (swT 0 [220, 367, 380, 393, 430, 455, 468, 493, 530, 567, 580, 593, 618, 643, 656, 669, 682, 695, 720, 733, 758, 771, 796, 861, 874, 899, 948, 973, 998, 1011, 1024, 1049, 1074, 1099, 1112, 1137, 1150, 1163, 1255, 1304, 1357] 1382)) rfl (fun _ _ => rfl) ?_
      clear ih
      refine l_swT (fun _ => hq _ _ _ (CI_W Wq.rf hC.2.1 hC) hsc) (fun jj hj _ => ?_)
      match jj, hj with
      | 0, _ => exact lw_c0 hC hT hsc hi7 hN hq
      | 1, _ => exact lw_c1 hC hT hsc hi7 hN hq
      | 2, _ => exact lw_c2 hC hT hsc hi7 hN hq
      | 3, _ => exact lw_c3 hC hT hsc hi7 hN hq
      | 4, _ => exact lw_c4 hC hT hsc hi7 hN hq
      | 5, _ => exact lw_c5 hC hT hsc hi7 hN hq
      | 6, _ => exact lw_c6 hC hT hsc hi7 hN hq
      | 7, _ => exact lw_c7 hC hT hsc hi7 hN hq
      | 8, _ => exact lw_c8 hC hT hsc hi7 hN hq
      | 9, _ => exact lw_c9 hC hT hsc hi7 hN hq
      | 10, _ => exact lw_c10 hC hT hsc hi7 hN hq
      | 11, _ => exact lw_c11 hC hT hsc hi7 hN hq
      | 12, _ => exact lw_c12 hC hT hsc hi7 hN hq
      | 13, _ => exact lw_c13 hC hT hsc hi7 hN hq
      | 14, _ => exact lw_c14 hC hT hsc hi7 hN hq
      | 15, _ => exact lw_c15 hC hT hsc hi7 hN hq
      | 16, _ => exact lw_c16 hC hT hsc hi7 hN hq
      | 17, _ => exact lw_c17 hC hT hsc hi7 hN hq
      | 18, _ => exact lw_c18 hC hT hsc hi7 hN hq
      | 19, _ => exact lw_c19 hC hT hsc hi7 hN hq
      | 20, _ => exact lw_c20 hC hT hsc hi7 hN hq
      | 21, _ => exact lw_c21 hC hT hsc hi7 hN hq
      | 22, _ => exact lw_c22 hC hT hsc hi7 hN hq
      | 23, _ => exact lw_c23 hC hT hsc hi7 hN hq
      | 24, _ => exact lw_c24 hC hT hsc hi7 hN hq
      | 25, _ => exact lw_c25 hC hT hsc hi7 hN hq
      | 26, _ => exact lw_c26 hC hT hsc hi7 hN hq
      | 27, _ => exact lw_c27 hC hT hsc hi7 hN hq
      | 28, _ => exact lw_c28 hC hT hsc hi7 hN hq
      | 29, _ => exact lw_c29 hC hT hsc hi7 hN hq
      | 30, _ => exact lw_c30 hC hT hsc hi7 hN hq
      | 31, _ => exact lw_c31 hC hT hsc hi7 hN hq
      | 32, _ => exact lw_c32 hC hT hsc hi7 hN hq
      | 33, _ => exact lw_c33 hC hT hsc hi7 hN hq
      | 34, _ => exact lw_c34 hC hT hsc hi7 hN hq
      | 35, _ => exact lw_c35 hC hT hsc hi7 hN hq
      | 36, _ => exact lw_c36 hC hT hsc hi7 hN hq
      | 37, _ => exact lw_c37 hC hsc hi7 hN (by omega) hw
      | 38, _ => exact lw_c38 hC hT hsc hi7 hN hq
      | 39, _ => exact lw_c39 hC hT hsc hi7 hN hq
      | 40, _ => exact lw_c40 hC hT hsc hi7 hN hq
      | jj + 41, hj => exact absurd hj (by show ¬ jj + 41 < 41; omega)
