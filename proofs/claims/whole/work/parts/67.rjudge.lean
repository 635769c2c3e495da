/-! ===== the reference: starts, judged ===== -/
/-- the reference's grate begins with this fire -/
def RG (k : AHP) (m : Nat) (F : FS) : Prop := (∀ e, e < m → k.1 189 (4 + 4 * e + 1) = F.1 e ∧ k.1 189 (4 + 4 * e + 2) = F.2.1 e ∧ k.1 189 (4 + 4 * e + 3) = F.2.2.1 e) ∧ (∀ e, m ≤ e → e < 7 → F.1 e = -1 ∧ F.2.1 e = 0 ∧ F.2.2.1 e = 0) ∧ F.2.2.2.2.1 = 0 ∧ F.2.2.2.2.2 = 0
theorem RG.zf {A : Nat → Prop} {k S : AHP} {m : Nat} {F : FS} (h : RG k m F) (hz : Zf A k S) : RG S m F := by
  unfold RG
  rw [hz.row (a := 189) (by omega)]
  exact h
theorem lr_st0 {d : Nat} {k : AHP} {b : Nat} (hS0 : Std k) (hb : b + 23 ≤ 966) {Q : Option Value → AHP → Prop} : ∀ (j i : Nat) (S : AHP), i + j = 23 → Zf (blk b) k S → (∀ a, a < i → S.1 197 (b + a) = 0) → (∀ S2, Zf (blk b) k S2 → (∀ a, a < 23 → S2.1 197 (b + a) = 0) → TT d 197 23 [some (.ref 183), some (.int (nI b)), some (.int (nI 23))] [] S2 Q) → TT d 197 2 [some (.ref 183), some (.int (nI b)), some (.int (nI i))] [] S Q := by
  intro j
  induction j with
  | zero =>
    intro i S hi hz hc hq
    have hN : i = 23 := by omega
    have hS := hz.std hS0
    refine t_go (op := o_iload 3 2) (fe_X12_starts 2) (fun _ _ => rfl) ?_
    refine t_go (op := o_ci 5 23) (fe_X12_starts 3) (fun _ _ => rfl) ?_
    refine t_ite (op := o_icmp 8 23 (fun x y => y ≤ x) (fun _ _ => inferInstance)) (fe_X12_starts 5) g_icmp (fun c1 => ?_) (fun c1 => ?_)
    · rw [hN]
      exact hq S hz (fun a ha => hc a (by omega))
    · exact absurd (by rw [hN]; exact Int32.le_refl _) c1
  | succ j ih =>
    intro i S hi hz hc hq
    have hi7 : i < 23 := by omega
    have hS := hz.std hS0
    refine t_go (op := o_iload 3 2) (fe_X12_starts 2) (fun _ _ => rfl) ?_
    refine t_go (op := o_ci 5 23) (fe_X12_starts 3) (fun _ _ => rfl) ?_
    refine t_ite (op := o_icmp 8 23 (fun x y => y ≤ x) (fun _ _ => inferInstance)) (fe_X12_starts 5) g_icmp (fun c1 => ?_) (fun c1 => ?_)
    · exact absurd c1 (nI_ge hi7 (by decide))
    · refine t_go (op := o_aload 9 0) (fe_X12_starts 8) (fun _ _ => rfl) ?_
      refine t_go (op := o_getR 12 11 22) (fe_X12_starts 9) (g_getR hS (show (lay 183).1 = 11 by decide) (by decide) (fr_11_22 hS) (by decide)) ?_
      refine t_go (op := o_iload 13 1) (fe_X12_starts 12) (fun _ _ => rfl) ?_
      refine t_go (op := o_iload 14 2) (fe_X12_starts 13) (fun _ _ => rfl) ?_
      refine t_go (op := o_i2 15 (fun x y => x + y)) (fe_X12_starts 14) (fun _ _ => rfl) ?_
      refine t_go (op := o_ci 16 0) (fe_X12_starts 15) (fun _ _ => rfl) ?_
      refine t_go (op := o_iast 17) (fe_X12_starts 16) (g_iastN hS (show lay 197 = (20, 966) by decide) (nIa rfl rfl) (by omega) (by decide)) ?_
      refine t_go (op := o_iinc 20 2 1) (fe_X12_starts 17) (fun _ _ => rfl) ?_
      refine t_go (op := o_goto 2) (fe_X12_starts 20) (fun _ _ => rfl) ?_
      rw [nI_1]
      refine ih (i + 1) _ (by omega) (Zf_st hz (by constructor <;> omega)) (fun a ha => ?_) hq
      by_cases hai : a = i
      · subst hai; exact sI_eq
      · rw [sI_nr (by omega)]; exact hc a (by omega)
theorem le_nI {a b : Nat} (ha : a < 2 ^ 31) (hb : b < 2 ^ 31) (h : nI a ≤ nI b) : a ≤ b := (nI_leI ha hb).mp h
theorem lr_st1 {d : Nat} {k : AHP} {m b : Nat} {F : FS} (hS0 : Std k) (hE0 : k.1 189 0 = nI m) (hm : m ≤ 7) (hG : RG k m F) (hb : b + 23 ≤ 966) {Q : Option Value → AHP → Prop} : ∀ (j i : Nat) (S : AHP), i + j = 7 → Zf (blk b) k S → (∀ e, e < i → S.1 197 (b + 2 + e) = F.1 e ∧ S.1 197 (b + 9 + e) = F.2.1 e ∧ S.1 197 (b + 16 + e) = F.2.2.1 e) → S.1 197 b = 0 → S.1 197 (b + 1) = 0 → (∀ S2, Zf (blk b) k S2 → (∀ e, e < 7 → S2.1 197 (b + 2 + e) = F.1 e ∧ S2.1 197 (b + 9 + e) = F.2.1 e ∧ S2.1 197 (b + 16 + e) = F.2.2.1 e) → S2.1 197 b = 0 → S2.1 197 (b + 1) = 0 → Q none S2) → TT (d + 1) 197 25 [some (.ref 183), some (.int (nI b)), some (.int (nI i))] [] S Q := by
  intro j
  induction j with
  | zero =>
    intro i S hi hz hc h0 h1 hq
    have hN : i = 7 := by omega
    have hS := hz.std hS0
    have hGS := hG.zf hz
    have hE : S.1 189 0 = nI m := by rw [hz.row (a := 189) (by omega)]; exact hE0
    refine t_go (op := o_iload 26 2) (fe_X12_starts 25) (fun _ _ => rfl) ?_
    refine t_go (op := o_ci 28 7) (fe_X12_starts 26) (fun _ _ => rfl) ?_
    refine t_ite (op := o_icmp 31 123 (fun x y => y ≤ x) (fun _ _ => inferInstance)) (fe_X12_starts 28) g_icmp (fun c1 => ?_) (fun c1 => ?_)
    · refine t_ret (op := o_vret) (fe_X12_starts 123) (fun _ _ => rfl) ?_
      exact hq S hz (fun e he => hc e (by omega)) h0 h1
    · exact absurd (by rw [hN]; exact Int32.le_refl _) c1
  | succ j ih =>
    intro i S hi hz hc h0 h1 hq
    have hi7 : i < 7 := by omega
    have hS := hz.std hS0
    have hGS := hG.zf hz
    have hE : S.1 189 0 = nI m := by rw [hz.row (a := 189) (by omega)]; exact hE0
    refine t_go (op := o_iload 26 2) (fe_X12_starts 25) (fun _ _ => rfl) ?_
    refine t_go (op := o_ci 28 7) (fe_X12_starts 26) (fun _ _ => rfl) ?_
    refine t_ite (op := o_icmp 31 123 (fun x y => y ≤ x) (fun _ _ => inferInstance)) (fe_X12_starts 28) g_icmp (fun c1 => ?_) (fun c1 => ?_)
    · exact absurd c1 (nI_ge hi7 (by decide))
    · refine t_go (op := o_aload 32 0) (fe_X12_starts 31) (fun _ _ => rfl) ?_
      refine t_go (op := o_getR 35 11 22) (fe_X12_starts 32) (g_getR hS (show (lay 183).1 = 11 by decide) (by decide) (fr_11_22 hS) (by decide)) ?_
      refine t_go (op := o_iload 36 1) (fe_X12_starts 35) (fun _ _ => rfl) ?_
      refine t_go (op := o_ci 37 2) (fe_X12_starts 36) (fun _ _ => rfl) ?_
      refine t_go (op := o_i2 38 (fun x y => x + y)) (fe_X12_starts 37) (fun _ _ => rfl) ?_
      refine t_go (op := o_iload 39 2) (fe_X12_starts 38) (fun _ _ => rfl) ?_
      refine t_go (op := o_i2 40 (fun x y => x + y)) (fe_X12_starts 39) (fun _ _ => rfl) ?_
      refine t_go (op := o_iload 41 2) (fe_X12_starts 40) (fun _ _ => rfl) ?_
      refine t_go (op := o_aload 42 0) (fe_X12_starts 41) (fun _ _ => rfl) ?_
      refine t_call (op := o_callV 45 200 1 11) (fe_X12_starts 42) (g_callV hS (show (lay 183).1 = 11 by decide) (by decide) rfl rfl rfl (Nat.le_of_ble_eq_true rfl)) ?_
      refine M_eq (r_embers (by exact hS) (by exact hE)) ?_
      refine t_ite (op := o_icmp 48 57 (fun x y => y ≤ x) (fun _ _ => inferInstance)) (fe_X12_starts 45) g_icmp (fun c2 => ?_) (fun c2 => ?_)
      · refine t_go (op := o_ci 58 (-1)) (fe_X12_starts 57) (fun _ _ => rfl) ?_
        rw [show (-1 : Int32) = F.1 i from ((hGS.2.1 i (le_nI (by omega) (by omega) c2) (by omega)).1).symm]
        refine t_go (op := o_iast 59) (fe_X12_starts 58) (g_iastN hS (show lay 197 = (20, 966) by decide) (nIa (nIa rfl (nIl 2)) rfl) (by omega) (by decide)) ?_
        refine t_go (op := o_aload 60 0) (fe_X12_starts 59) (fun _ _ => rfl) ?_
        refine t_go (op := o_getR 63 11 22) (fe_X12_starts 60) (g_getR hS (show (lay 183).1 = 11 by decide) (by decide) (fr_11_22 hS) (by decide)) ?_
        refine t_go (op := o_iload 64 1) (fe_X12_starts 63) (fun _ _ => rfl) ?_
        refine t_go (op := o_ci 66 9) (fe_X12_starts 64) (fun _ _ => rfl) ?_
        refine t_go (op := o_i2 67 (fun x y => x + y)) (fe_X12_starts 66) (fun _ _ => rfl) ?_
        refine t_go (op := o_iload 68 2) (fe_X12_starts 67) (fun _ _ => rfl) ?_
        refine t_go (op := o_i2 69 (fun x y => x + y)) (fe_X12_starts 68) (fun _ _ => rfl) ?_
        refine t_go (op := o_iload 70 2) (fe_X12_starts 69) (fun _ _ => rfl) ?_
        refine t_go (op := o_aload 71 0) (fe_X12_starts 70) (fun _ _ => rfl) ?_
        refine t_call (op := o_callV 74 200 1 11) (fe_X12_starts 71) (g_callV hS (show (lay 183).1 = 11 by decide) (by decide) rfl rfl rfl (Nat.le_of_ble_eq_true rfl)) ?_
        refine M_eq (r_embers (by exact hS) (by exact hE)) ?_
        refine t_ite (op := o_icmp 77 86 (fun x y => y ≤ x) (fun _ _ => inferInstance)) (fe_X12_starts 74) g_icmp (fun c3 => ?_) (fun c3 => ?_)
        · refine t_go (op := o_ci 87 0) (fe_X12_starts 86) (fun _ _ => rfl) ?_
          rw [show (0 : Int32) = F.2.1 i from ((hGS.2.1 i (le_nI (by omega) (by omega) c3) (by omega)).2.1).symm]
          refine t_go (op := o_iast 88) (fe_X12_starts 87) (g_iastN hS (show lay 197 = (20, 966) by decide) (nIa (nIa rfl (nIl 9)) rfl) (by omega) (by decide)) ?_
          refine t_go (op := o_aload 89 0) (fe_X12_starts 88) (fun _ _ => rfl) ?_
          refine t_go (op := o_getR 92 11 22) (fe_X12_starts 89) (g_getR hS (show (lay 183).1 = 11 by decide) (by decide) (fr_11_22 hS) (by decide)) ?_
          refine t_go (op := o_iload 93 1) (fe_X12_starts 92) (fun _ _ => rfl) ?_
          refine t_go (op := o_ci 95 16) (fe_X12_starts 93) (fun _ _ => rfl) ?_
          refine t_go (op := o_i2 96 (fun x y => x + y)) (fe_X12_starts 95) (fun _ _ => rfl) ?_
          refine t_go (op := o_iload 97 2) (fe_X12_starts 96) (fun _ _ => rfl) ?_
          refine t_go (op := o_i2 98 (fun x y => x + y)) (fe_X12_starts 97) (fun _ _ => rfl) ?_
          refine t_go (op := o_iload 99 2) (fe_X12_starts 98) (fun _ _ => rfl) ?_
          refine t_go (op := o_aload 100 0) (fe_X12_starts 99) (fun _ _ => rfl) ?_
          refine t_call (op := o_callV 103 200 1 11) (fe_X12_starts 100) (g_callV hS (show (lay 183).1 = 11 by decide) (by decide) rfl rfl rfl (Nat.le_of_ble_eq_true rfl)) ?_
          refine M_eq (r_embers (by exact hS) (by exact hE)) ?_
          refine t_ite (op := o_icmp 106 115 (fun x y => y ≤ x) (fun _ _ => inferInstance)) (fe_X12_starts 103) g_icmp (fun c4 => ?_) (fun c4 => ?_)
          · refine t_go (op := o_ci 116 0) (fe_X12_starts 115) (fun _ _ => rfl) ?_
            rw [show (0 : Int32) = F.2.2.1 i from ((hGS.2.1 i (le_nI (by omega) (by omega) c4) (by omega)).2.2).symm]
            refine t_go (op := o_iast 117) (fe_X12_starts 116) (g_iastN hS (show lay 197 = (20, 966) by decide) (nIa (nIa rfl (nIl 16)) rfl) (by omega) (by decide)) ?_
            refine t_go (op := o_iinc 120 2 1) (fe_X12_starts 117) (fun _ _ => rfl) ?_
            refine t_go (op := o_goto 25) (fe_X12_starts 120) (fun _ _ => rfl) ?_
            rw [nI_1]
            refine ih (i + 1) _ (by omega) (Zf_st (Zf_st (Zf_st hz (by constructor <;> omega)) (by constructor <;> omega)) (by constructor <;> omega)) (fun e he => ?_) (by rw [sI_nr (by omega), sI_nr (by omega), sI_nr (by omega)]; exact h0) (by rw [sI_nr (by omega), sI_nr (by omega), sI_nr (by omega)]; exact h1) hq
            by_cases hei : e = i
            · subst hei
              exact ⟨by rw [sI_nr (by omega), sI_nr (by omega), sI_eq], by rw [sI_nr (by omega), sI_eq], by rw [sI_eq]⟩
            · obtain ⟨q1, q2, q3⟩ := hc e (by omega)
              exact ⟨by rw [sI_nr (by omega), sI_nr (by omega), sI_nr (by omega)]; exact q1, by rw [sI_nr (by omega), sI_nr (by omega), sI_nr (by omega)]; exact q2, by rw [sI_nr (by omega), sI_nr (by omega), sI_nr (by omega)]; exact q3⟩
          · exact absurd c3 c4
        · exact absurd c2 c3
      · refine t_go (op := o_aload 49 0) (fe_X12_starts 48) (fun _ _ => rfl) ?_
        refine t_go (op := o_iload 50 2) (fe_X12_starts 49) (fun _ _ => rfl) ?_
        refine t_go (op := o_ci 51 1) (fe_X12_starts 50) (fun _ _ => rfl) ?_
        refine t_call (op := o_callV 54 201 3 11) (fe_X12_starts 51) (g_callV hS (show (lay 183).1 = 11 by decide) (by decide) rfl rfl rfl (Nat.le_of_ble_eq_true rfl)) ?_
        refine M_eq (r_emberOf (by exact hS) (e := i) (w := 1) (by omega)) ?_
        refine t_go (op := o_goto 58) (fe_X12_starts 54) (fun _ _ => rfl) ?_
        rw [show S.1 189 (4 + 4 * i + 1) = F.1 i from (hGS.1 i (Nat.lt_of_not_le (fun q => c2 (nI_le q (by omega))))).1]
        refine t_go (op := o_iast 59) (fe_X12_starts 58) (g_iastN hS (show lay 197 = (20, 966) by decide) (nIa (nIa rfl (nIl 2)) rfl) (by omega) (by decide)) ?_
        refine t_go (op := o_aload 60 0) (fe_X12_starts 59) (fun _ _ => rfl) ?_
        refine t_go (op := o_getR 63 11 22) (fe_X12_starts 60) (g_getR hS (show (lay 183).1 = 11 by decide) (by decide) (fr_11_22 hS) (by decide)) ?_
        refine t_go (op := o_iload 64 1) (fe_X12_starts 63) (fun _ _ => rfl) ?_
        refine t_go (op := o_ci 66 9) (fe_X12_starts 64) (fun _ _ => rfl) ?_
        refine t_go (op := o_i2 67 (fun x y => x + y)) (fe_X12_starts 66) (fun _ _ => rfl) ?_
        refine t_go (op := o_iload 68 2) (fe_X12_starts 67) (fun _ _ => rfl) ?_
        refine t_go (op := o_i2 69 (fun x y => x + y)) (fe_X12_starts 68) (fun _ _ => rfl) ?_
        refine t_go (op := o_iload 70 2) (fe_X12_starts 69) (fun _ _ => rfl) ?_
        refine t_go (op := o_aload 71 0) (fe_X12_starts 70) (fun _ _ => rfl) ?_
        refine t_call (op := o_callV 74 200 1 11) (fe_X12_starts 71) (g_callV hS (show (lay 183).1 = 11 by decide) (by decide) rfl rfl rfl (Nat.le_of_ble_eq_true rfl)) ?_
        refine M_eq (r_embers (by exact hS) (by exact hE)) ?_
        refine t_ite (op := o_icmp 77 86 (fun x y => y ≤ x) (fun _ _ => inferInstance)) (fe_X12_starts 74) g_icmp (fun c5 => ?_) (fun c5 => ?_)
        · exact absurd c5 c2
        · refine t_go (op := o_aload 78 0) (fe_X12_starts 77) (fun _ _ => rfl) ?_
          refine t_go (op := o_iload 79 2) (fe_X12_starts 78) (fun _ _ => rfl) ?_
          refine t_go (op := o_ci 80 2) (fe_X12_starts 79) (fun _ _ => rfl) ?_
          refine t_call (op := o_callV 83 201 3 11) (fe_X12_starts 80) (g_callV hS (show (lay 183).1 = 11 by decide) (by decide) rfl rfl rfl (Nat.le_of_ble_eq_true rfl)) ?_
          refine M_eq (r_emberOf (by exact hS) (e := i) (w := 2) (by omega)) ?_
          refine t_go (op := o_goto 87) (fe_X12_starts 83) (fun _ _ => rfl) ?_
          rw [show (sI S 197 (b + 2 + i) (F.1 i)).1 189 (4 + 4 * i + 2) = F.2.1 i from (hGS.1 i (Nat.lt_of_not_le (fun q => c5 (nI_le q (by omega))))).2.1]
          refine t_go (op := o_iast 88) (fe_X12_starts 87) (g_iastN hS (show lay 197 = (20, 966) by decide) (nIa (nIa rfl (nIl 9)) rfl) (by omega) (by decide)) ?_
          refine t_go (op := o_aload 89 0) (fe_X12_starts 88) (fun _ _ => rfl) ?_
          refine t_go (op := o_getR 92 11 22) (fe_X12_starts 89) (g_getR hS (show (lay 183).1 = 11 by decide) (by decide) (fr_11_22 hS) (by decide)) ?_
          refine t_go (op := o_iload 93 1) (fe_X12_starts 92) (fun _ _ => rfl) ?_
          refine t_go (op := o_ci 95 16) (fe_X12_starts 93) (fun _ _ => rfl) ?_
          refine t_go (op := o_i2 96 (fun x y => x + y)) (fe_X12_starts 95) (fun _ _ => rfl) ?_
          refine t_go (op := o_iload 97 2) (fe_X12_starts 96) (fun _ _ => rfl) ?_
          refine t_go (op := o_i2 98 (fun x y => x + y)) (fe_X12_starts 97) (fun _ _ => rfl) ?_
          refine t_go (op := o_iload 99 2) (fe_X12_starts 98) (fun _ _ => rfl) ?_
          refine t_go (op := o_aload 100 0) (fe_X12_starts 99) (fun _ _ => rfl) ?_
          refine t_call (op := o_callV 103 200 1 11) (fe_X12_starts 100) (g_callV hS (show (lay 183).1 = 11 by decide) (by decide) rfl rfl rfl (Nat.le_of_ble_eq_true rfl)) ?_
          refine M_eq (r_embers (by exact hS) (by exact hE)) ?_
          refine t_ite (op := o_icmp 106 115 (fun x y => y ≤ x) (fun _ _ => inferInstance)) (fe_X12_starts 103) g_icmp (fun c6 => ?_) (fun c6 => ?_)
          · exact absurd c6 c5
          · refine t_go (op := o_aload 107 0) (fe_X12_starts 106) (fun _ _ => rfl) ?_
            refine t_go (op := o_iload 108 2) (fe_X12_starts 107) (fun _ _ => rfl) ?_
            refine t_go (op := o_ci 109 3) (fe_X12_starts 108) (fun _ _ => rfl) ?_
            refine t_call (op := o_callV 112 201 3 11) (fe_X12_starts 109) (g_callV hS (show (lay 183).1 = 11 by decide) (by decide) rfl rfl rfl (Nat.le_of_ble_eq_true rfl)) ?_
            refine M_eq (r_emberOf (by exact hS) (e := i) (w := 3) (by omega)) ?_
            refine t_go (op := o_goto 116) (fe_X12_starts 112) (fun _ _ => rfl) ?_
            rw [show (sI (sI S 197 (b + 2 + i) (F.1 i)) 197 (b + 9 + i) (F.2.1 i)).1 189 (4 + 4 * i + 3) = F.2.2.1 i from (hGS.1 i (Nat.lt_of_not_le (fun q => c6 (nI_le q (by omega))))).2.2]
            refine t_go (op := o_iast 117) (fe_X12_starts 116) (g_iastN hS (show lay 197 = (20, 966) by decide) (nIa (nIa rfl (nIl 16)) rfl) (by omega) (by decide)) ?_
            refine t_go (op := o_iinc 120 2 1) (fe_X12_starts 117) (fun _ _ => rfl) ?_
            refine t_go (op := o_goto 25) (fe_X12_starts 120) (fun _ _ => rfl) ?_
            rw [nI_1]
            refine ih (i + 1) _ (by omega) (Zf_st (Zf_st (Zf_st hz (by constructor <;> omega)) (by constructor <;> omega)) (by constructor <;> omega)) (fun e he => ?_) (by rw [sI_nr (by omega), sI_nr (by omega), sI_nr (by omega)]; exact h0) (by rw [sI_nr (by omega), sI_nr (by omega), sI_nr (by omega)]; exact h1) hq
            by_cases hei : e = i
            · subst hei
              exact ⟨by rw [sI_nr (by omega), sI_nr (by omega), sI_eq], by rw [sI_nr (by omega), sI_eq], by rw [sI_eq]⟩
            · obtain ⟨q1, q2, q3⟩ := hc e (by omega)
              exact ⟨by rw [sI_nr (by omega), sI_nr (by omega), sI_nr (by omega)]; exact q1, by rw [sI_nr (by omega), sI_nr (by omega), sI_nr (by omega)]; exact q2, by rw [sI_nr (by omega), sI_nr (by omega), sI_nr (by omega)]; exact q3⟩
theorem r_starts {d : Nat} {k : AHP} {m b : Nat} {F : FS} (hS0 : Std k) (hE0 : k.1 189 0 = nI m) (hm : m ≤ 7) (hG : RG k m F) (hb : b + 23 ≤ 966) : MM (d + 1) 197 [.ref 183, .int (nI b)] k (fun v h2 => v = none ∧ Zf (blk b) k h2 ∧ RB (h2.1 197) b F) := by
  refine ⟨Nat.le_of_ble_eq_true rfl, ?_⟩
  refine t_go (op := o_ci 1 0) (fe_X12_starts 0) (fun _ _ => rfl) ?_
  refine t_go (op := o_istore 2 2) (fe_X12_starts 1) (fun _ _ => rfl) ?_
  refine lr_st0 hS0 hb 23 0 k (by omega) Zf.rf (fun a ha => absurd ha (Nat.not_lt_zero a)) fun S2 hz hc => ?_
  refine t_go (op := o_ci 24 0) (fe_X12_starts 23) (fun _ _ => rfl) ?_
  refine t_go (op := o_istore 25 2) (fe_X12_starts 24) (fun _ _ => rfl) ?_
  exact lr_st1 (hz.std hS0) (by rw [hz.row (a := 189) (by omega)]; exact hE0) hm (hG.zf hz) hb 7 0 S2 (by omega) Zf.rf (fun e he => absurd he (Nat.not_lt_zero e)) (hc 0 (by omega)) (hc 1 (by omega)) fun S3 hz3 h1 h2 h3 => ⟨rfl, hz.tr hz3, h1, h2.trans hG.2.2.1.symm, h3.trans hG.2.2.2.symm⟩
/-- the reference's evening -/
def LN (k : AHP) (ln : Nat) (A E X : Nat → Int32) : Prop := k.1 194 0 = nI ln ∧ ∀ i, i < ln → k.1 194 (1 + 3 * i) = A i ∧ ((A i = 1 ∨ A i = 2 ∨ A i = 3) → k.1 194 (2 + 3 * i) = E i ∧ k.1 194 (3 + 3 * i) = X i)
def LV (m ln : Nat) (A E X : Nat → Int32) : Prop := ln ≤ 40 ∧ ∀ i, i < ln → A i = 0 ∨ (A i = 1 ∧ ∃ e : Nat, e < m ∧ E i = nI e) ∨ (A i = 2 ∧ (∃ e : Nat, e < m ∧ E i = nI e) ∧ ∃ c : Nat, c < 12 ∧ X i = nI c) ∨ (A i = 3 ∧ (∃ e : Nat, e < m ∧ E i = nI e) ∧ ∃ x : Nat, 1 ≤ x ∧ x ≤ 9 ∧ X i = nI x) ∨ A i = 4
theorem LN.zf {A0 : Nat → Prop} {k S : AHP} {ln : Nat} {A E X : Nat → Int32} (h : LN k ln A E X) (hz : Zf A0 k S) : LN S ln A E X := by
  unfold LN
  rw [hz.row (a := 194) (by omega)]
  exact h
/-- a line judged, over rows -/
noncomputable def jdS (h : AHP) (g n : Nat) (A E X : Nat → Int32) (i : Nat) (s : Int32 × Int32 × FS) : Int32 × Int32 × FS :=
  if A i = 0 then (s.1, if (HB h g n 1 s.2.2).2 = 0 then s.2.1 else if s.2.1 = -1 then nI i else s.2.1, (HB h g n 1 s.2.2).1)
  else (@ite _ (tryOK s.2.2 (A i) (E i) (X i)) (Classical.propDecidable _) s.1 (if s.1 = -1 then nI i else s.1), s.2.1, tryN s.2.2 (A i) (E i) (X i))
def wrP (w : Int32) : Prop := w = -1 ∨ 0 ≤ w
theorem wr_p {w x : Int32} (h : wrP w) (h0 : 0 ≤ w) : (if w = -1 then x else w) = w := if_neg fun e => by rw [e] at h0; exact absurd h0 (by decide)
theorem wr_n {w x : Int32} (h : wrP w) (h0 : ¬ 0 ≤ w) : (if w = -1 then x else w) = x := if_pos (h.resolve_right h0)
theorem try_1 {G : FS} {e x : Int32} : tryOK G 1 e x ↔ hasF G e := ⟨fun q => q.elim (fun z => absurd z (by decide)) fun z => z.1, fun q => Or.inr ⟨q, fun z => absurd z.1 (by decide)⟩⟩
theorem try_2 {G : FS} {e x : Int32} : tryOK G 2 e x ↔ hasF G e ∧ freeF G x := ⟨fun q => q.elim (fun z => absurd z (by decide)) fun z => ⟨z.1, Classical.byContradiction fun w => z.2 ⟨rfl, w⟩⟩, fun q => Or.inr ⟨q.1, fun z => z.2 q.2⟩⟩
theorem try_3 {G : FS} {e x : Int32} : tryOK G 3 e x ↔ hasF G e := ⟨fun q => q.elim (fun z => absurd z (by decide)) fun z => z.1, fun q => Or.inr ⟨q, fun z => absurd z.1 (by decide)⟩⟩
theorem tryN_1 {G : FS} {e x : Int32} : tryN G 1 e x = stokeF G e := by
  unfold tryN
  rw [if_neg (by decide)]
  by_cases h : hasF G e
  · rw [if_pos (try_1.mpr h), if_pos rfl]
  · rw [if_neg (fun q => h (try_1.mp q)), stokeF, if_neg h]
theorem tryN_2 {G : FS} {e x : Int32} : tryN G 2 e x = carryF G e x := by
  unfold tryN
  rw [if_neg (by decide)]
  by_cases h : hasF G e ∧ freeF G x
  · rw [if_pos (try_2.mpr h), if_neg (by decide), if_pos rfl]
  · rw [if_neg (fun q => h (try_2.mp q)), carryF, if_neg h]
theorem tryN_3 {G : FS} {e x : Int32} : tryN G 3 e x = addFuelF G e x := by
  unfold tryN
  rw [if_neg (by decide)]
  by_cases h : hasF G e
  · rw [if_pos (try_3.mpr h), if_neg (by decide), if_neg (by decide)]
  · rw [if_neg (fun q => h (try_3.mp q)), addFuelF, if_neg h]
theorem jd_0 {h : AHP} {g n i : Nat} {A E X : Nat → Int32} {a c : Int32} {G : FS} (h0 : A i = 0) : jdS h g n A E X i (a, c, G) = (a, if (HB h g n 1 G).2 = 0 then c else if c = -1 then nI i else c, (HB h g n 1 G).1) := if_pos h0
theorem jd_4 {h : AHP} {g n i : Nat} {A E X : Nat → Int32} {a c : Int32} {G : FS} (h0 : A i = 4) : jdS h g n A E X i (a, c, G) = (a, c, bankF G) := by
  unfold jdS
  rw [if_neg (by rw [h0]; decide), h0]
  exact Prod.ext (if_pos (Or.inl rfl)) (Prod.ext rfl (show tryN G 4 (E i) (X i) = bankF G from if_pos rfl))
theorem jd_x {h : AHP} {g n i : Nat} {A E X : Nat → Int32} {a c : Int32} {G : FS} (h0 : ¬ A i = 0) (ok : tryOK G (A i) (E i) (X i)) : jdS h g n A E X i (a, c, G) = (a, c, tryN G (A i) (E i) (X i)) := by
  unfold jdS
  rw [if_neg h0]
  exact Prod.ext (if_pos ok) rfl
theorem jd_y {h : AHP} {g n i : Nat} {A E X : Nat → Int32} {a c : Int32} {G : FS} (h0 : ¬ A i = 0) (ok : ¬ tryOK G (A i) (E i) (X i)) : jdS h g n A E X i (a, c, G) = (if a = -1 then nI i else a, c, tryN G (A i) (E i) (X i)) := by
  unfold jdS
  rw [if_neg h0]
  exact Prod.ext (if_neg ok) rfl
set_option maxRecDepth 8000 in
theorem jd_go0 {d : Nat} {k h : AHP} {m n g T ln i : Nat} {A E X : Nat → Int32} (hP : CP k h g n m) (hL : LN k ln A E X) (hl : ln ≤ 40) (hT : T < 90000) (hi7 : i < ln) {S : AHP} {G : FS} {y a c : Int32} {x5 x6 x7 x8 : Option Value} {Q : Option Value → AHP → Prop} (hz : Zf trl k S) (hBt : RB (S.1 197) 882 G) (hWt : FW m (T + i) G) (ha : wrP a) (hc : wrP c) (hA : A i = 0) (hq : ∀ S2 a2 c2 G2 x5 x6 x7 x8, jdS h g n A E X i (a, c, G) = (a2, c2, G2) → Zf trl k S2 → RB (S2.1 197) 882 G2 → FW m (T + (i + 1)) G2 → wrP a2 → wrP c2 → TT (d + 5) 228 31 [some (.ref 183), some (.int y), some (.int a2), some (.int c2), some (.int (nI (i + 1))), x5, x6, x7, x8] [] S2 Q) : TT (d + 5) 228 31 [some (.ref 183), some (.int y), some (.int a), some (.int c), some (.int (nI i)), x5, x6, x7, x8] [] S Q := by
  have hm := hP.1.2.2.1
  have hS := (hP.zf hz).1.1
  have hE := (hP.zf hz).1.2.1
  have hLS := hL.zf hz
  have hl1 := hLS.2 i hi7
  have h12 : i < 40 := by omega
  refine t_go (op := o_iload 33 4) (fe_X12_judged 31) (fun _ _ => rfl) ?_
  refine t_go (op := o_aload 34 0) (fe_X12_judged 33) (fun _ _ => rfl) ?_
  refine t_go (op := o_getR 37 11 19) (fe_X12_judged 34) (g_getR hS (show (lay 183).1 = 11 by decide) (by decide) (fr_11_19 hS) (by decide)) ?_
  refine t_go (op := o_ci 38 0) (fe_X12_judged 37) (fun _ _ => rfl) ?_
  refine t_go (op := o_iald 39) (fe_X12_judged 38) (g_ialdN hS (show lay 194 = (20, 250) by decide) (nIl 0) (by omega) (by decide)) ?_
  rw [hLS.1]
  refine t_ite (op := o_icmp 42 271 (fun x y => y ≤ x) (fun _ _ => inferInstance)) (fe_X12_judged 39) g_icmp (fun c1 => ?_) (fun c1 => ?_)
  · exact absurd c1 (nI_ge hi7 (by omega))
  · refine t_go (op := o_aload 43 0) (fe_X12_judged 42) (fun _ _ => rfl) ?_
    refine t_go (op := o_getR 46 11 19) (fe_X12_judged 43) (g_getR hS (show (lay 183).1 = 11 by decide) (by decide) (fr_11_19 hS) (by decide)) ?_
    refine t_go (op := o_ci 47 1) (fe_X12_judged 46) (fun _ _ => rfl) ?_
    refine t_go (op := o_ci 48 3) (fe_X12_judged 47) (fun _ _ => rfl) ?_
    refine t_go (op := o_iload 50 4) (fe_X12_judged 48) (fun _ _ => rfl) ?_
    refine t_go (op := o_i2 51 (fun x y => x * y)) (fe_X12_judged 50) (fun _ _ => rfl) ?_
    refine t_go (op := o_i2 52 (fun x y => x + y)) (fe_X12_judged 51) (fun _ _ => rfl) ?_
    refine t_go (op := o_iald 53) (fe_X12_judged 52) (g_ialdN hS (show lay 194 = (20, 250) by decide) (nIa (nIl 1) (nIm (nIl 3) rfl)) (by omega) (by decide)) ?_
    rw [show S.1 194 (1 + 3 * i) = 0 from hl1.1.trans hA]
    refine t_go (op := o_istore 55 5) (fe_X12_judged 53) (fun _ _ => rfl) ?_
    refine t_go (op := o_aload 56 0) (fe_X12_judged 55) (fun _ _ => rfl) ?_
    refine t_go (op := o_getR 59 11 19) (fe_X12_judged 56) (g_getR hS (show (lay 183).1 = 11 by decide) (by decide) (fr_11_19 hS) (by decide)) ?_
    refine t_go (op := o_ci 60 2) (fe_X12_judged 59) (fun _ _ => rfl) ?_
    refine t_go (op := o_ci 61 3) (fe_X12_judged 60) (fun _ _ => rfl) ?_
    refine t_go (op := o_iload 63 4) (fe_X12_judged 61) (fun _ _ => rfl) ?_
    refine t_go (op := o_i2 64 (fun x y => x * y)) (fe_X12_judged 63) (fun _ _ => rfl) ?_
    refine t_go (op := o_i2 65 (fun x y => x + y)) (fe_X12_judged 64) (fun _ _ => rfl) ?_
    refine t_go (op := o_iald 66) (fe_X12_judged 65) (g_ialdN hS (show lay 194 = (20, 250) by decide) (nIa (nIl 2) (nIm (nIl 3) rfl)) (by omega) (by decide)) ?_
    refine t_go (op := o_istore 68 6) (fe_X12_judged 66) (fun _ _ => rfl) ?_
    refine t_go (op := o_aload 69 0) (fe_X12_judged 68) (fun _ _ => rfl) ?_
    refine t_go (op := o_getR 72 11 19) (fe_X12_judged 69) (g_getR hS (show (lay 183).1 = 11 by decide) (by decide) (fr_11_19 hS) (by decide)) ?_
    refine t_go (op := o_ci 73 3) (fe_X12_judged 72) (fun _ _ => rfl) ?_
    refine t_go (op := o_ci 74 3) (fe_X12_judged 73) (fun _ _ => rfl) ?_
    refine t_go (op := o_iload 76 4) (fe_X12_judged 74) (fun _ _ => rfl) ?_
    refine t_go (op := o_i2 77 (fun x y => x * y)) (fe_X12_judged 76) (fun _ _ => rfl) ?_
    refine t_go (op := o_i2 78 (fun x y => x + y)) (fe_X12_judged 77) (fun _ _ => rfl) ?_
    refine t_go (op := o_iald 79) (fe_X12_judged 78) (g_ialdN hS (show lay 194 = (20, 250) by decide) (nIa (nIl 3) (nIm (nIl 3) rfl)) (by omega) (by decide)) ?_
    refine t_go (op := o_istore 81 7) (fe_X12_judged 79) (fun _ _ => rfl) ?_
    refine t_go (op := o_iload 83 5) (fe_X12_judged 81) (fun _ _ => rfl) ?_
    refine t_go (op := o_ci 84 4) (fe_X12_judged 83) (fun _ _ => rfl) ?_
    refine t_go (op := o_i2d 85 (fun x y => x - x / y * y)) (fe_X12_judged 84) (g_i2d (by decide)) ?_
    refine t_ite (op := o_if 88 120 (fun x => x = 0) (fun _ => inferInstance)) (fe_X12_judged 85) g_if (fun c2 => ?_) (fun c2 => ?_)
    · clear c2
      refine t_go (op := o_ci 121 1) (fe_X12_judged 120) (fun _ _ => rfl) ?_
      refine t_go (op := o_goto 125) (fe_X12_judged 121) (fun _ _ => rfl) ?_
      refine t_go (op := o_istore 127 8) (fe_X12_judged 125) (fun _ _ => rfl) ?_
      refine t_go (op := o_iload 129 8) (fe_X12_judged 127) (fun _ _ => rfl) ?_
      refine t_ite (op := o_if 141 132 (fun x => x = 0) (fun _ => inferInstance)) (fe_X12_judged 129) g_if (fun c3 => ?_) (fun c3 => ?_)
      · exact absurd c3 (by decide)
      · clear c3
        refine t_go (op := o_iload 142 2) (fe_X12_judged 141) (fun _ _ => rfl) ?_
        refine t_go (op := o_istore 143 2) (fe_X12_judged 142) (fun _ _ => rfl) ?_
        refine t_go (op := o_iload 145 5) (fe_X12_judged 143) (fun _ _ => rfl) ?_
        refine t_ite (op := o_if 172 148 (fun x => x = 0) (fun _ => inferInstance)) (fe_X12_judged 145) g_if (fun c4 => ?_) (fun c4 => ?_)
        · clear c4
          refine t_go (op := o_aload 149 0) (fe_X12_judged 148) (fun _ _ => rfl) ?_
          refine t_go (op := o_ci 152 882) (fe_X12_judged 149) (fun _ _ => rfl) ?_
          refine t_call (op := o_callV 155 215 2 11) (fe_X12_judged 152) (g_callV hS (show (lay 183).1 = 11 by decide) (by decide) rfl rfl rfl (Nat.le_of_ble_eq_true rfl)) ?_
          refine M_mono ?_ (r_hour (b := 882) (hP.zf hz) hWt hBt (by decide) (by omega))
          rintro _ h2 ⟨rfl, hz2, hB2⟩
          replace hz := hz.tr (hz2.mono trl_b)
          clear hz2
          have hS := (hP.zf hz).1.1
          have hE := (hP.zf hz).1.2.1
          refine t_ite (op := o_if 158 167 (fun x => x = 0) (fun _ => inferInstance)) (fe_X12_judged 155) g_if (fun c5 => ?_) (fun c5 => ?_)
          · refine t_go (op := o_iload 168 3) (fe_X12_judged 167) (fun _ _ => rfl) ?_
            refine t_go (op := o_istore 169 3) (fe_X12_judged 168) (fun _ _ => rfl) ?_
            refine t_go (op := o_goto 265) (fe_X12_judged 169) (fun _ _ => rfl) ?_
            refine t_go (op := o_iinc 268 4 1) (fe_X12_judged 265) (fun _ _ => rfl) ?_
            refine t_go (op := o_goto 31) (fe_X12_judged 268) (fun _ _ => rfl) ?_
            have eS := jd_0 (h := h) (g := g) (n := n) (E := E) (X := X) (a := a) (c := c) (G := G) hA
            rw [if_pos c5] at eS
            rw [nI_1]
            exact hq _ _ _ _ _ _ _ _ eS hz hB2 (FW_HF hm hWt) ha hc
          · refine t_go (op := o_iload 159 3) (fe_X12_judged 158) (fun _ _ => rfl) ?_
            refine t_ite (op := o_if 162 167 (fun x => 0 ≤ x) (fun _ => inferInstance)) (fe_X12_judged 159) g_if (fun c6 => ?_) (fun c6 => ?_)
            · refine t_go (op := o_iload 168 3) (fe_X12_judged 167) (fun _ _ => rfl) ?_
              refine t_go (op := o_istore 169 3) (fe_X12_judged 168) (fun _ _ => rfl) ?_
              refine t_go (op := o_goto 265) (fe_X12_judged 169) (fun _ _ => rfl) ?_
              refine t_go (op := o_iinc 268 4 1) (fe_X12_judged 265) (fun _ _ => rfl) ?_
              refine t_go (op := o_goto 31) (fe_X12_judged 268) (fun _ _ => rfl) ?_
              have eS := jd_0 (h := h) (g := g) (n := n) (E := E) (X := X) (a := a) (c := c) (G := G) hA
              rw [if_neg c5, wr_p hc c6] at eS
              rw [nI_1]
              exact hq _ _ _ _ _ _ _ _ eS hz hB2 (FW_HF hm hWt) ha hc
            · refine t_go (op := o_iload 164 4) (fe_X12_judged 162) (fun _ _ => rfl) ?_
              refine t_go (op := o_goto 168) (fe_X12_judged 164) (fun _ _ => rfl) ?_
              refine t_go (op := o_istore 169 3) (fe_X12_judged 168) (fun _ _ => rfl) ?_
              refine t_go (op := o_goto 265) (fe_X12_judged 169) (fun _ _ => rfl) ?_
              refine t_go (op := o_iinc 268 4 1) (fe_X12_judged 265) (fun _ _ => rfl) ?_
              refine t_go (op := o_goto 31) (fe_X12_judged 268) (fun _ _ => rfl) ?_
              have eS := jd_0 (h := h) (g := g) (n := n) (E := E) (X := X) (a := a) (c := c) (G := G) hA
              rw [if_neg c5, wr_n hc c6] at eS
              rw [nI_1]
              exact hq _ _ _ _ _ _ _ _ eS hz hB2 (FW_HF hm hWt) ha (Or.inr (nI_pos' (by omega)))
        · exact absurd (by decide) c4
    · exact absurd (by decide) c2
set_option maxRecDepth 8000 in
theorem jd_go1 {d : Nat} {k h : AHP} {m n g T ln i : Nat} {A E X : Nat → Int32} (hP : CP k h g n m) (hL : LN k ln A E X) (hl : ln ≤ 40) (hT : T < 90000) (hi7 : i < ln) {S : AHP} {G : FS} {y a c : Int32} {x5 x6 x7 x8 : Option Value} {Q : Option Value → AHP → Prop} (hz : Zf trl k S) (hBt : RB (S.1 197) 882 G) (hWt : FW m (T + i) G) (ha : wrP a) (hc : wrP c) (hA : A i = 1) {e : Nat} (he : e < m) (hE2 : E i = nI e) (hq : ∀ S2 a2 c2 G2 x5 x6 x7 x8, jdS h g n A E X i (a, c, G) = (a2, c2, G2) → Zf trl k S2 → RB (S2.1 197) 882 G2 → FW m (T + (i + 1)) G2 → wrP a2 → wrP c2 → TT (d + 5) 228 31 [some (.ref 183), some (.int y), some (.int a2), some (.int c2), some (.int (nI (i + 1))), x5, x6, x7, x8] [] S2 Q) : TT (d + 5) 228 31 [some (.ref 183), some (.int y), some (.int a), some (.int c), some (.int (nI i)), x5, x6, x7, x8] [] S Q := by
  have hm := hP.1.2.2.1
  have hS := (hP.zf hz).1.1
  have hE := (hP.zf hz).1.2.1
  have hLS := hL.zf hz
  have hl1 := hLS.2 i hi7
  have h12 : i < 40 := by omega
  refine t_go (op := o_iload 33 4) (fe_X12_judged 31) (fun _ _ => rfl) ?_
  refine t_go (op := o_aload 34 0) (fe_X12_judged 33) (fun _ _ => rfl) ?_
  refine t_go (op := o_getR 37 11 19) (fe_X12_judged 34) (g_getR hS (show (lay 183).1 = 11 by decide) (by decide) (fr_11_19 hS) (by decide)) ?_
  refine t_go (op := o_ci 38 0) (fe_X12_judged 37) (fun _ _ => rfl) ?_
  refine t_go (op := o_iald 39) (fe_X12_judged 38) (g_ialdN hS (show lay 194 = (20, 250) by decide) (nIl 0) (by omega) (by decide)) ?_
  rw [hLS.1]
  refine t_ite (op := o_icmp 42 271 (fun x y => y ≤ x) (fun _ _ => inferInstance)) (fe_X12_judged 39) g_icmp (fun c1 => ?_) (fun c1 => ?_)
  · exact absurd c1 (nI_ge hi7 (by omega))
  · refine t_go (op := o_aload 43 0) (fe_X12_judged 42) (fun _ _ => rfl) ?_
    refine t_go (op := o_getR 46 11 19) (fe_X12_judged 43) (g_getR hS (show (lay 183).1 = 11 by decide) (by decide) (fr_11_19 hS) (by decide)) ?_
    refine t_go (op := o_ci 47 1) (fe_X12_judged 46) (fun _ _ => rfl) ?_
    refine t_go (op := o_ci 48 3) (fe_X12_judged 47) (fun _ _ => rfl) ?_
    refine t_go (op := o_iload 50 4) (fe_X12_judged 48) (fun _ _ => rfl) ?_
    refine t_go (op := o_i2 51 (fun x y => x * y)) (fe_X12_judged 50) (fun _ _ => rfl) ?_
    refine t_go (op := o_i2 52 (fun x y => x + y)) (fe_X12_judged 51) (fun _ _ => rfl) ?_
    refine t_go (op := o_iald 53) (fe_X12_judged 52) (g_ialdN hS (show lay 194 = (20, 250) by decide) (nIa (nIl 1) (nIm (nIl 3) rfl)) (by omega) (by decide)) ?_
    rw [show S.1 194 (1 + 3 * i) = 1 from hl1.1.trans hA]
    refine t_go (op := o_istore 55 5) (fe_X12_judged 53) (fun _ _ => rfl) ?_
    refine t_go (op := o_aload 56 0) (fe_X12_judged 55) (fun _ _ => rfl) ?_
    refine t_go (op := o_getR 59 11 19) (fe_X12_judged 56) (g_getR hS (show (lay 183).1 = 11 by decide) (by decide) (fr_11_19 hS) (by decide)) ?_
    refine t_go (op := o_ci 60 2) (fe_X12_judged 59) (fun _ _ => rfl) ?_
    refine t_go (op := o_ci 61 3) (fe_X12_judged 60) (fun _ _ => rfl) ?_
    refine t_go (op := o_iload 63 4) (fe_X12_judged 61) (fun _ _ => rfl) ?_
    refine t_go (op := o_i2 64 (fun x y => x * y)) (fe_X12_judged 63) (fun _ _ => rfl) ?_
    refine t_go (op := o_i2 65 (fun x y => x + y)) (fe_X12_judged 64) (fun _ _ => rfl) ?_
    refine t_go (op := o_iald 66) (fe_X12_judged 65) (g_ialdN hS (show lay 194 = (20, 250) by decide) (nIa (nIl 2) (nIm (nIl 3) rfl)) (by omega) (by decide)) ?_
    rw [show S.1 194 (2 + 3 * i) = nI e from ((hl1.2 (by rw [hA]; decide)).1).trans hE2]
    refine t_go (op := o_istore 68 6) (fe_X12_judged 66) (fun _ _ => rfl) ?_
    refine t_go (op := o_aload 69 0) (fe_X12_judged 68) (fun _ _ => rfl) ?_
    refine t_go (op := o_getR 72 11 19) (fe_X12_judged 69) (g_getR hS (show (lay 183).1 = 11 by decide) (by decide) (fr_11_19 hS) (by decide)) ?_
    refine t_go (op := o_ci 73 3) (fe_X12_judged 72) (fun _ _ => rfl) ?_
    refine t_go (op := o_ci 74 3) (fe_X12_judged 73) (fun _ _ => rfl) ?_
    refine t_go (op := o_iload 76 4) (fe_X12_judged 74) (fun _ _ => rfl) ?_
    refine t_go (op := o_i2 77 (fun x y => x * y)) (fe_X12_judged 76) (fun _ _ => rfl) ?_
    refine t_go (op := o_i2 78 (fun x y => x + y)) (fe_X12_judged 77) (fun _ _ => rfl) ?_
    refine t_go (op := o_iald 79) (fe_X12_judged 78) (g_ialdN hS (show lay 194 = (20, 250) by decide) (nIa (nIl 3) (nIm (nIl 3) rfl)) (by omega) (by decide)) ?_
    refine t_go (op := o_istore 81 7) (fe_X12_judged 79) (fun _ _ => rfl) ?_
    refine t_go (op := o_iload 83 5) (fe_X12_judged 81) (fun _ _ => rfl) ?_
    refine t_go (op := o_ci 84 4) (fe_X12_judged 83) (fun _ _ => rfl) ?_
    refine t_go (op := o_i2d 85 (fun x y => x - x / y * y)) (fe_X12_judged 84) (g_i2d (by decide)) ?_
    refine t_ite (op := o_if 88 120 (fun x => x = 0) (fun _ => inferInstance)) (fe_X12_judged 85) g_if (fun c2 => ?_) (fun c2 => ?_)
    · exact absurd c2 (by decide)
    · clear c2
      refine t_go (op := o_aload 89 0) (fe_X12_judged 88) (fun _ _ => rfl) ?_
      refine t_go (op := o_ci 92 882) (fe_X12_judged 89) (fun _ _ => rfl) ?_
      refine t_go (op := o_iload 94 6) (fe_X12_judged 92) (fun _ _ => rfl) ?_
      refine t_call (op := o_callV 97 203 3 11) (fe_X12_judged 94) (g_callV hS (show (lay 183).1 = 11 by decide) (by decide) rfl rfl rfl (Nat.le_of_ble_eq_true rfl)) ?_
      refine M_eq (r_isThere (b := 882) hS hWt.1 hBt (by decide) (e := e) (by omega)) ?_
      refine t_ite (op := o_if 100 124 (fun x => x = 0) (fun _ => inferInstance)) (fe_X12_judged 97) g_if (fun c3 => ?_) (fun c3 => ?_)
      · replace c3 := b2i_z c3
        refine t_go (op := o_ci 125 0) (fe_X12_judged 124) (fun _ _ => rfl) ?_
        refine t_go (op := o_istore 127 8) (fe_X12_judged 125) (fun _ _ => rfl) ?_
        refine t_go (op := o_iload 129 8) (fe_X12_judged 127) (fun _ _ => rfl) ?_
        refine t_ite (op := o_if 141 132 (fun x => x = 0) (fun _ => inferInstance)) (fe_X12_judged 129) g_if (fun c4 => ?_) (fun c4 => ?_)
        · clear c4
          refine t_go (op := o_iload 133 2) (fe_X12_judged 132) (fun _ _ => rfl) ?_
          refine t_ite (op := o_if 136 141 (fun x => 0 ≤ x) (fun _ => inferInstance)) (fe_X12_judged 133) g_if (fun c5 => ?_) (fun c5 => ?_)
          · refine t_go (op := o_iload 142 2) (fe_X12_judged 141) (fun _ _ => rfl) ?_
            refine t_go (op := o_istore 143 2) (fe_X12_judged 142) (fun _ _ => rfl) ?_
            refine t_go (op := o_iload 145 5) (fe_X12_judged 143) (fun _ _ => rfl) ?_
            refine t_ite (op := o_if 172 148 (fun x => x = 0) (fun _ => inferInstance)) (fe_X12_judged 145) g_if (fun c6 => ?_) (fun c6 => ?_)
            · exact absurd c6 (by decide)
            · clear c6
              refine t_go (op := o_iload 174 5) (fe_X12_judged 172) (fun _ _ => rfl) ?_
              refine t_go (op := o_ci 175 4) (fe_X12_judged 174) (fun _ _ => rfl) ?_
              refine t_ite (op := o_icmp 199 178 (fun x y => x = y) (fun _ _ => inferInstance)) (fe_X12_judged 175) g_icmp (fun c7 => ?_) (fun c7 => ?_)
              · exact absurd c7 (by decide)
              · clear c7
                refine t_go (op := o_iload 201 8) (fe_X12_judged 199) (fun _ _ => rfl) ?_
                refine t_ite (op := o_if 204 222 (fun x => x = 0) (fun _ => inferInstance)) (fe_X12_judged 201) g_if (fun c8 => ?_) (fun c8 => ?_)
                · clear c8
                  refine t_go (op := o_iload 224 8) (fe_X12_judged 222) (fun _ _ => rfl) ?_
                  refine t_ite (op := o_if 227 249 (fun x => x = 0) (fun _ => inferInstance)) (fe_X12_judged 224) g_if (fun c9 => ?_) (fun c9 => ?_)
                  · clear c9
                    refine t_go (op := o_iload 251 8) (fe_X12_judged 249) (fun _ _ => rfl) ?_
                    refine t_ite (op := o_if 254 265 (fun x => x = 0) (fun _ => inferInstance)) (fe_X12_judged 251) g_if (fun c10 => ?_) (fun c10 => ?_)
                    · clear c10
                      refine t_go (op := o_iinc 268 4 1) (fe_X12_judged 265) (fun _ _ => rfl) ?_
                      refine t_go (op := o_goto 31) (fe_X12_judged 268) (fun _ _ => rfl) ?_
                      have eS := jd_y (h := h) (g := g) (n := n) (a := a) (c := c) (A := A) (E := E) (X := X) (i := i) (G := G) (by rw [hA]; decide) (by rw [hA, hE2]; exact fun q => c3 ((try_1.mp q)))
                      rw [hA, hE2, tryN_1, stokeF, if_neg (c3)] at eS
                      rw [wr_p ha c5] at eS
                      rw [nI_1]
                      exact hq _ _ _ _ _ _ _ _ eS hz hBt (FW_le hWt (by omega)) ha hc
                    · exact absurd (by decide) c10
                  · exact absurd (by decide) c9
                · exact absurd (by decide) c8
          · refine t_go (op := o_iload 138 4) (fe_X12_judged 136) (fun _ _ => rfl) ?_
            refine t_go (op := o_goto 142) (fe_X12_judged 138) (fun _ _ => rfl) ?_
            refine t_go (op := o_istore 143 2) (fe_X12_judged 142) (fun _ _ => rfl) ?_
            refine t_go (op := o_iload 145 5) (fe_X12_judged 143) (fun _ _ => rfl) ?_
            refine t_ite (op := o_if 172 148 (fun x => x = 0) (fun _ => inferInstance)) (fe_X12_judged 145) g_if (fun c11 => ?_) (fun c11 => ?_)
            · exact absurd c11 (by decide)
            · clear c11
              refine t_go (op := o_iload 174 5) (fe_X12_judged 172) (fun _ _ => rfl) ?_
              refine t_go (op := o_ci 175 4) (fe_X12_judged 174) (fun _ _ => rfl) ?_
              refine t_ite (op := o_icmp 199 178 (fun x y => x = y) (fun _ _ => inferInstance)) (fe_X12_judged 175) g_icmp (fun c12 => ?_) (fun c12 => ?_)
              · exact absurd c12 (by decide)
              · clear c12
                refine t_go (op := o_iload 201 8) (fe_X12_judged 199) (fun _ _ => rfl) ?_
                refine t_ite (op := o_if 204 222 (fun x => x = 0) (fun _ => inferInstance)) (fe_X12_judged 201) g_if (fun c13 => ?_) (fun c13 => ?_)
                · clear c13
                  refine t_go (op := o_iload 224 8) (fe_X12_judged 222) (fun _ _ => rfl) ?_
                  refine t_ite (op := o_if 227 249 (fun x => x = 0) (fun _ => inferInstance)) (fe_X12_judged 224) g_if (fun c14 => ?_) (fun c14 => ?_)
                  · clear c14
                    refine t_go (op := o_iload 251 8) (fe_X12_judged 249) (fun _ _ => rfl) ?_
                    refine t_ite (op := o_if 254 265 (fun x => x = 0) (fun _ => inferInstance)) (fe_X12_judged 251) g_if (fun c15 => ?_) (fun c15 => ?_)
                    · clear c15
                      refine t_go (op := o_iinc 268 4 1) (fe_X12_judged 265) (fun _ _ => rfl) ?_
                      refine t_go (op := o_goto 31) (fe_X12_judged 268) (fun _ _ => rfl) ?_
                      have eS := jd_y (h := h) (g := g) (n := n) (a := a) (c := c) (A := A) (E := E) (X := X) (i := i) (G := G) (by rw [hA]; decide) (by rw [hA, hE2]; exact fun q => c3 ((try_1.mp q)))
                      rw [hA, hE2, tryN_1, stokeF, if_neg (c3)] at eS
                      rw [wr_n ha c5] at eS
                      rw [nI_1]
                      exact hq _ _ _ _ _ _ _ _ eS hz hBt (FW_le hWt (by omega)) (Or.inr (nI_pos' (by omega))) hc
                    · exact absurd (by decide) c15
                  · exact absurd (by decide) c14
                · exact absurd (by decide) c13
        · exact absurd (by decide) c4
      · replace c3 := b2i_nn c3
        refine t_go (op := o_iload 102 5) (fe_X12_judged 100) (fun _ _ => rfl) ?_
        refine t_go (op := o_ci 103 2) (fe_X12_judged 102) (fun _ _ => rfl) ?_
        refine t_ite (op := o_icmp 120 106 (fun x y => x = y) (fun _ _ => inferInstance)) (fe_X12_judged 103) g_icmp (fun c16 => ?_) (fun c16 => ?_)
        · exact absurd c16 (by decide)
        · clear c16
          refine t_go (op := o_ci 121 1) (fe_X12_judged 120) (fun _ _ => rfl) ?_
          refine t_go (op := o_goto 125) (fe_X12_judged 121) (fun _ _ => rfl) ?_
          refine t_go (op := o_istore 127 8) (fe_X12_judged 125) (fun _ _ => rfl) ?_
          refine t_go (op := o_iload 129 8) (fe_X12_judged 127) (fun _ _ => rfl) ?_
          refine t_ite (op := o_if 141 132 (fun x => x = 0) (fun _ => inferInstance)) (fe_X12_judged 129) g_if (fun c17 => ?_) (fun c17 => ?_)
          · exact absurd c17 (by decide)
          · clear c17
            refine t_go (op := o_iload 142 2) (fe_X12_judged 141) (fun _ _ => rfl) ?_
            refine t_go (op := o_istore 143 2) (fe_X12_judged 142) (fun _ _ => rfl) ?_
            refine t_go (op := o_iload 145 5) (fe_X12_judged 143) (fun _ _ => rfl) ?_
            refine t_ite (op := o_if 172 148 (fun x => x = 0) (fun _ => inferInstance)) (fe_X12_judged 145) g_if (fun c18 => ?_) (fun c18 => ?_)
            · exact absurd c18 (by decide)
            · clear c18
              refine t_go (op := o_iload 174 5) (fe_X12_judged 172) (fun _ _ => rfl) ?_
              refine t_go (op := o_ci 175 4) (fe_X12_judged 174) (fun _ _ => rfl) ?_
              refine t_ite (op := o_icmp 199 178 (fun x y => x = y) (fun _ _ => inferInstance)) (fe_X12_judged 175) g_icmp (fun c19 => ?_) (fun c19 => ?_)
              · exact absurd c19 (by decide)
              · clear c19
                refine t_go (op := o_iload 201 8) (fe_X12_judged 199) (fun _ _ => rfl) ?_
                refine t_ite (op := o_if 204 222 (fun x => x = 0) (fun _ => inferInstance)) (fe_X12_judged 201) g_if (fun c20 => ?_) (fun c20 => ?_)
                · exact absurd c20 (by decide)
                · clear c20
                  refine t_go (op := o_iload 206 5) (fe_X12_judged 204) (fun _ _ => rfl) ?_
                  refine t_go (op := o_ci 207 1) (fe_X12_judged 206) (fun _ _ => rfl) ?_
                  refine t_ite (op := o_icmp 222 210 (fun x y => x = y) (fun _ _ => inferInstance)) (fe_X12_judged 207) g_icmp (fun c21 => ?_) (fun c21 => ?_)
                  · clear c21
                    refine t_go (op := o_aload 211 0) (fe_X12_judged 210) (fun _ _ => rfl) ?_
                    refine t_go (op := o_ci 214 882) (fe_X12_judged 211) (fun _ _ => rfl) ?_
                    refine t_go (op := o_iload 216 6) (fe_X12_judged 214) (fun _ _ => rfl) ?_
                    refine t_call (op := o_callV 219 217 3 11) (fe_X12_judged 216) (g_callV hS (show (lay 183).1 = 11 by decide) (by decide) rfl rfl rfl (Nat.le_of_ble_eq_true rfl)) ?_
                    refine M_mono ?_ (r_pokes (b := 882) (hP.zf hz).1 hWt.1 hBt (by decide) (e := e) (by omega) c3)
                    rintro _ h2 ⟨rfl, hz2, hB2⟩
                    replace hz := hz.tr (hz2.mono trl_b)
                    refine t_go (op := o_goto 265) (fe_X12_judged 219) (fun _ _ => rfl) ?_
                    refine t_go (op := o_iinc 268 4 1) (fe_X12_judged 265) (fun _ _ => rfl) ?_
                    refine t_go (op := o_goto 31) (fe_X12_judged 268) (fun _ _ => rfl) ?_
                    have eS := jd_x (h := h) (g := g) (n := n) (a := a) (c := c) (A := A) (E := E) (X := X) (i := i) (G := G) (by rw [hA]; decide) (by rw [hA, hE2]; exact try_1.mpr c3)
                    rw [hA, hE2, tryN_1] at eS
                    rw [nI_1]
                    exact hq _ _ _ _ _ _ _ _ eS hz hB2 (FW_le (FW_stoke (e := e) hWt (by omega)) (by omega)) ha hc
                  · exact absurd (by decide) c21
set_option maxRecDepth 8000 in
theorem jd_go2 {d : Nat} {k h : AHP} {m n g T ln i : Nat} {A E X : Nat → Int32} (hP : CP k h g n m) (hL : LN k ln A E X) (hl : ln ≤ 40) (hT : T < 90000) (hi7 : i < ln) {S : AHP} {G : FS} {y a c : Int32} {x5 x6 x7 x8 : Option Value} {Q : Option Value → AHP → Prop} (hz : Zf trl k S) (hBt : RB (S.1 197) 882 G) (hWt : FW m (T + i) G) (ha : wrP a) (hc : wrP c) (hA : A i = 2) {e : Nat} (he : e < m) (hE2 : E i = nI e) {x : Nat} (hx : x < 12) (hX : X i = nI x) (hq : ∀ S2 a2 c2 G2 x5 x6 x7 x8, jdS h g n A E X i (a, c, G) = (a2, c2, G2) → Zf trl k S2 → RB (S2.1 197) 882 G2 → FW m (T + (i + 1)) G2 → wrP a2 → wrP c2 → TT (d + 5) 228 31 [some (.ref 183), some (.int y), some (.int a2), some (.int c2), some (.int (nI (i + 1))), x5, x6, x7, x8] [] S2 Q) : TT (d + 5) 228 31 [some (.ref 183), some (.int y), some (.int a), some (.int c), some (.int (nI i)), x5, x6, x7, x8] [] S Q := by
  have hm := hP.1.2.2.1
  have hS := (hP.zf hz).1.1
  have hE := (hP.zf hz).1.2.1
  have hLS := hL.zf hz
  have hl1 := hLS.2 i hi7
  have h12 : i < 40 := by omega
  refine t_go (op := o_iload 33 4) (fe_X12_judged 31) (fun _ _ => rfl) ?_
  refine t_go (op := o_aload 34 0) (fe_X12_judged 33) (fun _ _ => rfl) ?_
  refine t_go (op := o_getR 37 11 19) (fe_X12_judged 34) (g_getR hS (show (lay 183).1 = 11 by decide) (by decide) (fr_11_19 hS) (by decide)) ?_
  refine t_go (op := o_ci 38 0) (fe_X12_judged 37) (fun _ _ => rfl) ?_
  refine t_go (op := o_iald 39) (fe_X12_judged 38) (g_ialdN hS (show lay 194 = (20, 250) by decide) (nIl 0) (by omega) (by decide)) ?_
  rw [hLS.1]
  refine t_ite (op := o_icmp 42 271 (fun x y => y ≤ x) (fun _ _ => inferInstance)) (fe_X12_judged 39) g_icmp (fun c1 => ?_) (fun c1 => ?_)
  · exact absurd c1 (nI_ge hi7 (by omega))
  · refine t_go (op := o_aload 43 0) (fe_X12_judged 42) (fun _ _ => rfl) ?_
    refine t_go (op := o_getR 46 11 19) (fe_X12_judged 43) (g_getR hS (show (lay 183).1 = 11 by decide) (by decide) (fr_11_19 hS) (by decide)) ?_
    refine t_go (op := o_ci 47 1) (fe_X12_judged 46) (fun _ _ => rfl) ?_
    refine t_go (op := o_ci 48 3) (fe_X12_judged 47) (fun _ _ => rfl) ?_
    refine t_go (op := o_iload 50 4) (fe_X12_judged 48) (fun _ _ => rfl) ?_
    refine t_go (op := o_i2 51 (fun x y => x * y)) (fe_X12_judged 50) (fun _ _ => rfl) ?_
    refine t_go (op := o_i2 52 (fun x y => x + y)) (fe_X12_judged 51) (fun _ _ => rfl) ?_
    refine t_go (op := o_iald 53) (fe_X12_judged 52) (g_ialdN hS (show lay 194 = (20, 250) by decide) (nIa (nIl 1) (nIm (nIl 3) rfl)) (by omega) (by decide)) ?_
    rw [show S.1 194 (1 + 3 * i) = 2 from hl1.1.trans hA]
    refine t_go (op := o_istore 55 5) (fe_X12_judged 53) (fun _ _ => rfl) ?_
    refine t_go (op := o_aload 56 0) (fe_X12_judged 55) (fun _ _ => rfl) ?_
    refine t_go (op := o_getR 59 11 19) (fe_X12_judged 56) (g_getR hS (show (lay 183).1 = 11 by decide) (by decide) (fr_11_19 hS) (by decide)) ?_
    refine t_go (op := o_ci 60 2) (fe_X12_judged 59) (fun _ _ => rfl) ?_
    refine t_go (op := o_ci 61 3) (fe_X12_judged 60) (fun _ _ => rfl) ?_
    refine t_go (op := o_iload 63 4) (fe_X12_judged 61) (fun _ _ => rfl) ?_
    refine t_go (op := o_i2 64 (fun x y => x * y)) (fe_X12_judged 63) (fun _ _ => rfl) ?_
    refine t_go (op := o_i2 65 (fun x y => x + y)) (fe_X12_judged 64) (fun _ _ => rfl) ?_
    refine t_go (op := o_iald 66) (fe_X12_judged 65) (g_ialdN hS (show lay 194 = (20, 250) by decide) (nIa (nIl 2) (nIm (nIl 3) rfl)) (by omega) (by decide)) ?_
    rw [show S.1 194 (2 + 3 * i) = nI e from ((hl1.2 (by rw [hA]; decide)).1).trans hE2]
    refine t_go (op := o_istore 68 6) (fe_X12_judged 66) (fun _ _ => rfl) ?_
    refine t_go (op := o_aload 69 0) (fe_X12_judged 68) (fun _ _ => rfl) ?_
    refine t_go (op := o_getR 72 11 19) (fe_X12_judged 69) (g_getR hS (show (lay 183).1 = 11 by decide) (by decide) (fr_11_19 hS) (by decide)) ?_
    refine t_go (op := o_ci 73 3) (fe_X12_judged 72) (fun _ _ => rfl) ?_
    refine t_go (op := o_ci 74 3) (fe_X12_judged 73) (fun _ _ => rfl) ?_
    refine t_go (op := o_iload 76 4) (fe_X12_judged 74) (fun _ _ => rfl) ?_
    refine t_go (op := o_i2 77 (fun x y => x * y)) (fe_X12_judged 76) (fun _ _ => rfl) ?_
    refine t_go (op := o_i2 78 (fun x y => x + y)) (fe_X12_judged 77) (fun _ _ => rfl) ?_
    refine t_go (op := o_iald 79) (fe_X12_judged 78) (g_ialdN hS (show lay 194 = (20, 250) by decide) (nIa (nIl 3) (nIm (nIl 3) rfl)) (by omega) (by decide)) ?_
    rw [show S.1 194 (3 + 3 * i) = nI x from ((hl1.2 (by rw [hA]; decide)).2).trans hX]
    refine t_go (op := o_istore 81 7) (fe_X12_judged 79) (fun _ _ => rfl) ?_
    refine t_go (op := o_iload 83 5) (fe_X12_judged 81) (fun _ _ => rfl) ?_
    refine t_go (op := o_ci 84 4) (fe_X12_judged 83) (fun _ _ => rfl) ?_
    refine t_go (op := o_i2d 85 (fun x y => x - x / y * y)) (fe_X12_judged 84) (g_i2d (by decide)) ?_
    refine t_ite (op := o_if 88 120 (fun x => x = 0) (fun _ => inferInstance)) (fe_X12_judged 85) g_if (fun c2 => ?_) (fun c2 => ?_)
    · exact absurd c2 (by decide)
    · clear c2
      refine t_go (op := o_aload 89 0) (fe_X12_judged 88) (fun _ _ => rfl) ?_
      refine t_go (op := o_ci 92 882) (fe_X12_judged 89) (fun _ _ => rfl) ?_
      refine t_go (op := o_iload 94 6) (fe_X12_judged 92) (fun _ _ => rfl) ?_
      refine t_call (op := o_callV 97 203 3 11) (fe_X12_judged 94) (g_callV hS (show (lay 183).1 = 11 by decide) (by decide) rfl rfl rfl (Nat.le_of_ble_eq_true rfl)) ?_
      refine M_eq (r_isThere (b := 882) hS hWt.1 hBt (by decide) (e := e) (by omega)) ?_
      refine t_ite (op := o_if 100 124 (fun x => x = 0) (fun _ => inferInstance)) (fe_X12_judged 97) g_if (fun c3 => ?_) (fun c3 => ?_)
      · replace c3 := b2i_z c3
        refine t_go (op := o_ci 125 0) (fe_X12_judged 124) (fun _ _ => rfl) ?_
        refine t_go (op := o_istore 127 8) (fe_X12_judged 125) (fun _ _ => rfl) ?_
        refine t_go (op := o_iload 129 8) (fe_X12_judged 127) (fun _ _ => rfl) ?_
        refine t_ite (op := o_if 141 132 (fun x => x = 0) (fun _ => inferInstance)) (fe_X12_judged 129) g_if (fun c4 => ?_) (fun c4 => ?_)
        · clear c4
          refine t_go (op := o_iload 133 2) (fe_X12_judged 132) (fun _ _ => rfl) ?_
          refine t_ite (op := o_if 136 141 (fun x => 0 ≤ x) (fun _ => inferInstance)) (fe_X12_judged 133) g_if (fun c5 => ?_) (fun c5 => ?_)
          · refine t_go (op := o_iload 142 2) (fe_X12_judged 141) (fun _ _ => rfl) ?_
            refine t_go (op := o_istore 143 2) (fe_X12_judged 142) (fun _ _ => rfl) ?_
            refine t_go (op := o_iload 145 5) (fe_X12_judged 143) (fun _ _ => rfl) ?_
            refine t_ite (op := o_if 172 148 (fun x => x = 0) (fun _ => inferInstance)) (fe_X12_judged 145) g_if (fun c6 => ?_) (fun c6 => ?_)
            · exact absurd c6 (by decide)
            · clear c6
              refine t_go (op := o_iload 174 5) (fe_X12_judged 172) (fun _ _ => rfl) ?_
              refine t_go (op := o_ci 175 4) (fe_X12_judged 174) (fun _ _ => rfl) ?_
              refine t_ite (op := o_icmp 199 178 (fun x y => x = y) (fun _ _ => inferInstance)) (fe_X12_judged 175) g_icmp (fun c7 => ?_) (fun c7 => ?_)
              · exact absurd c7 (by decide)
              · clear c7
                refine t_go (op := o_iload 201 8) (fe_X12_judged 199) (fun _ _ => rfl) ?_
                refine t_ite (op := o_if 204 222 (fun x => x = 0) (fun _ => inferInstance)) (fe_X12_judged 201) g_if (fun c8 => ?_) (fun c8 => ?_)
                · clear c8
                  refine t_go (op := o_iload 224 8) (fe_X12_judged 222) (fun _ _ => rfl) ?_
                  refine t_ite (op := o_if 227 249 (fun x => x = 0) (fun _ => inferInstance)) (fe_X12_judged 224) g_if (fun c9 => ?_) (fun c9 => ?_)
                  · clear c9
                    refine t_go (op := o_iload 251 8) (fe_X12_judged 249) (fun _ _ => rfl) ?_
                    refine t_ite (op := o_if 254 265 (fun x => x = 0) (fun _ => inferInstance)) (fe_X12_judged 251) g_if (fun c10 => ?_) (fun c10 => ?_)
                    · clear c10
                      refine t_go (op := o_iinc 268 4 1) (fe_X12_judged 265) (fun _ _ => rfl) ?_
                      refine t_go (op := o_goto 31) (fe_X12_judged 268) (fun _ _ => rfl) ?_
                      have eS := jd_y (h := h) (g := g) (n := n) (a := a) (c := c) (A := A) (E := E) (X := X) (i := i) (G := G) (by rw [hA]; decide) (by rw [hA, hE2, hX]; exact fun q => c3 ((try_2.mp q).1))
                      rw [hA, hE2, hX, tryN_2, carryF, if_neg (show ¬ (hasF G (nI e) ∧ freeF G (nI x)) from fun q => c3 q.1)] at eS
                      rw [wr_p ha c5] at eS
                      rw [nI_1]
                      exact hq _ _ _ _ _ _ _ _ eS hz hBt (FW_le hWt (by omega)) ha hc
                    · exact absurd (by decide) c10
                  · exact absurd (by decide) c9
                · exact absurd (by decide) c8
          · refine t_go (op := o_iload 138 4) (fe_X12_judged 136) (fun _ _ => rfl) ?_
            refine t_go (op := o_goto 142) (fe_X12_judged 138) (fun _ _ => rfl) ?_
            refine t_go (op := o_istore 143 2) (fe_X12_judged 142) (fun _ _ => rfl) ?_
            refine t_go (op := o_iload 145 5) (fe_X12_judged 143) (fun _ _ => rfl) ?_
            refine t_ite (op := o_if 172 148 (fun x => x = 0) (fun _ => inferInstance)) (fe_X12_judged 145) g_if (fun c11 => ?_) (fun c11 => ?_)
            · exact absurd c11 (by decide)
            · clear c11
              refine t_go (op := o_iload 174 5) (fe_X12_judged 172) (fun _ _ => rfl) ?_
              refine t_go (op := o_ci 175 4) (fe_X12_judged 174) (fun _ _ => rfl) ?_
              refine t_ite (op := o_icmp 199 178 (fun x y => x = y) (fun _ _ => inferInstance)) (fe_X12_judged 175) g_icmp (fun c12 => ?_) (fun c12 => ?_)
              · exact absurd c12 (by decide)
              · clear c12
                refine t_go (op := o_iload 201 8) (fe_X12_judged 199) (fun _ _ => rfl) ?_
                refine t_ite (op := o_if 204 222 (fun x => x = 0) (fun _ => inferInstance)) (fe_X12_judged 201) g_if (fun c13 => ?_) (fun c13 => ?_)
                · clear c13
                  refine t_go (op := o_iload 224 8) (fe_X12_judged 222) (fun _ _ => rfl) ?_
                  refine t_ite (op := o_if 227 249 (fun x => x = 0) (fun _ => inferInstance)) (fe_X12_judged 224) g_if (fun c14 => ?_) (fun c14 => ?_)
                  · clear c14
                    refine t_go (op := o_iload 251 8) (fe_X12_judged 249) (fun _ _ => rfl) ?_
                    refine t_ite (op := o_if 254 265 (fun x => x = 0) (fun _ => inferInstance)) (fe_X12_judged 251) g_if (fun c15 => ?_) (fun c15 => ?_)
                    · clear c15
                      refine t_go (op := o_iinc 268 4 1) (fe_X12_judged 265) (fun _ _ => rfl) ?_
                      refine t_go (op := o_goto 31) (fe_X12_judged 268) (fun _ _ => rfl) ?_
                      have eS := jd_y (h := h) (g := g) (n := n) (a := a) (c := c) (A := A) (E := E) (X := X) (i := i) (G := G) (by rw [hA]; decide) (by rw [hA, hE2, hX]; exact fun q => c3 ((try_2.mp q).1))
                      rw [hA, hE2, hX, tryN_2, carryF, if_neg (show ¬ (hasF G (nI e) ∧ freeF G (nI x)) from fun q => c3 q.1)] at eS
                      rw [wr_n ha c5] at eS
                      rw [nI_1]
                      exact hq _ _ _ _ _ _ _ _ eS hz hBt (FW_le hWt (by omega)) (Or.inr (nI_pos' (by omega))) hc
                    · exact absurd (by decide) c15
                  · exact absurd (by decide) c14
                · exact absurd (by decide) c13
        · exact absurd (by decide) c4
      · replace c3 := b2i_nn c3
        refine t_go (op := o_iload 102 5) (fe_X12_judged 100) (fun _ _ => rfl) ?_
        refine t_go (op := o_ci 103 2) (fe_X12_judged 102) (fun _ _ => rfl) ?_
        refine t_ite (op := o_icmp 120 106 (fun x y => x = y) (fun _ _ => inferInstance)) (fe_X12_judged 103) g_icmp (fun c16 => ?_) (fun c16 => ?_)
        · clear c16
          refine t_go (op := o_aload 107 0) (fe_X12_judged 106) (fun _ _ => rfl) ?_
          refine t_go (op := o_ci 110 882) (fe_X12_judged 107) (fun _ _ => rfl) ?_
          refine t_go (op := o_iload 112 6) (fe_X12_judged 110) (fun _ _ => rfl) ?_
          refine t_go (op := o_iload 114 7) (fe_X12_judged 112) (fun _ _ => rfl) ?_
          refine t_call (op := o_callV 117 223 4 11) (fe_X12_judged 114) (g_callV hS (show (lay 183).1 = 11 by decide) (by decide) rfl rfl rfl (Nat.le_of_ble_eq_true rfl)) ?_
          refine M_eq (r_mayCarry (b := 882) hS hE hm hWt.1 hBt (by decide) (e := e) (c := x) (by omega) hx) ?_
          refine t_ite (op := o_if 120 124 (fun x => x = 0) (fun _ => inferInstance)) (fe_X12_judged 117) g_if (fun c17 => ?_) (fun c17 => ?_)
          · replace c17 := b2i_z c17
            refine t_go (op := o_ci 125 0) (fe_X12_judged 124) (fun _ _ => rfl) ?_
            refine t_go (op := o_istore 127 8) (fe_X12_judged 125) (fun _ _ => rfl) ?_
            refine t_go (op := o_iload 129 8) (fe_X12_judged 127) (fun _ _ => rfl) ?_
            refine t_ite (op := o_if 141 132 (fun x => x = 0) (fun _ => inferInstance)) (fe_X12_judged 129) g_if (fun c18 => ?_) (fun c18 => ?_)
            · clear c18
              refine t_go (op := o_iload 133 2) (fe_X12_judged 132) (fun _ _ => rfl) ?_
              refine t_ite (op := o_if 136 141 (fun x => 0 ≤ x) (fun _ => inferInstance)) (fe_X12_judged 133) g_if (fun c19 => ?_) (fun c19 => ?_)
              · refine t_go (op := o_iload 142 2) (fe_X12_judged 141) (fun _ _ => rfl) ?_
                refine t_go (op := o_istore 143 2) (fe_X12_judged 142) (fun _ _ => rfl) ?_
                refine t_go (op := o_iload 145 5) (fe_X12_judged 143) (fun _ _ => rfl) ?_
                refine t_ite (op := o_if 172 148 (fun x => x = 0) (fun _ => inferInstance)) (fe_X12_judged 145) g_if (fun c20 => ?_) (fun c20 => ?_)
                · exact absurd c20 (by decide)
                · clear c20
                  refine t_go (op := o_iload 174 5) (fe_X12_judged 172) (fun _ _ => rfl) ?_
                  refine t_go (op := o_ci 175 4) (fe_X12_judged 174) (fun _ _ => rfl) ?_
                  refine t_ite (op := o_icmp 199 178 (fun x y => x = y) (fun _ _ => inferInstance)) (fe_X12_judged 175) g_icmp (fun c21 => ?_) (fun c21 => ?_)
                  · exact absurd c21 (by decide)
                  · clear c21
                    refine t_go (op := o_iload 201 8) (fe_X12_judged 199) (fun _ _ => rfl) ?_
                    refine t_ite (op := o_if 204 222 (fun x => x = 0) (fun _ => inferInstance)) (fe_X12_judged 201) g_if (fun c22 => ?_) (fun c22 => ?_)
                    · clear c22
                      refine t_go (op := o_iload 224 8) (fe_X12_judged 222) (fun _ _ => rfl) ?_
                      refine t_ite (op := o_if 227 249 (fun x => x = 0) (fun _ => inferInstance)) (fe_X12_judged 224) g_if (fun c23 => ?_) (fun c23 => ?_)
                      · clear c23
                        refine t_go (op := o_iload 251 8) (fe_X12_judged 249) (fun _ _ => rfl) ?_
                        refine t_ite (op := o_if 254 265 (fun x => x = 0) (fun _ => inferInstance)) (fe_X12_judged 251) g_if (fun c24 => ?_) (fun c24 => ?_)
                        · clear c24
                          refine t_go (op := o_iinc 268 4 1) (fe_X12_judged 265) (fun _ _ => rfl) ?_
                          refine t_go (op := o_goto 31) (fe_X12_judged 268) (fun _ _ => rfl) ?_
                          have eS := jd_y (h := h) (g := g) (n := n) (a := a) (c := c) (A := A) (E := E) (X := X) (i := i) (G := G) (by rw [hA]; decide) (by rw [hA, hE2, hX]; exact fun q => c17 (try_2.mp q))
                          rw [hA, hE2, hX, tryN_2, carryF, if_neg (show ¬ (hasF G (nI e) ∧ freeF G (nI x)) from c17)] at eS
                          rw [wr_p ha c19] at eS
                          rw [nI_1]
                          exact hq _ _ _ _ _ _ _ _ eS hz hBt (FW_le hWt (by omega)) ha hc
                        · exact absurd (by decide) c24
                      · exact absurd (by decide) c23
                    · exact absurd (by decide) c22
              · refine t_go (op := o_iload 138 4) (fe_X12_judged 136) (fun _ _ => rfl) ?_
                refine t_go (op := o_goto 142) (fe_X12_judged 138) (fun _ _ => rfl) ?_
                refine t_go (op := o_istore 143 2) (fe_X12_judged 142) (fun _ _ => rfl) ?_
                refine t_go (op := o_iload 145 5) (fe_X12_judged 143) (fun _ _ => rfl) ?_
                refine t_ite (op := o_if 172 148 (fun x => x = 0) (fun _ => inferInstance)) (fe_X12_judged 145) g_if (fun c25 => ?_) (fun c25 => ?_)
                · exact absurd c25 (by decide)
                · clear c25
                  refine t_go (op := o_iload 174 5) (fe_X12_judged 172) (fun _ _ => rfl) ?_
                  refine t_go (op := o_ci 175 4) (fe_X12_judged 174) (fun _ _ => rfl) ?_
                  refine t_ite (op := o_icmp 199 178 (fun x y => x = y) (fun _ _ => inferInstance)) (fe_X12_judged 175) g_icmp (fun c26 => ?_) (fun c26 => ?_)
                  · exact absurd c26 (by decide)
                  · clear c26
                    refine t_go (op := o_iload 201 8) (fe_X12_judged 199) (fun _ _ => rfl) ?_
                    refine t_ite (op := o_if 204 222 (fun x => x = 0) (fun _ => inferInstance)) (fe_X12_judged 201) g_if (fun c27 => ?_) (fun c27 => ?_)
                    · clear c27
                      refine t_go (op := o_iload 224 8) (fe_X12_judged 222) (fun _ _ => rfl) ?_
                      refine t_ite (op := o_if 227 249 (fun x => x = 0) (fun _ => inferInstance)) (fe_X12_judged 224) g_if (fun c28 => ?_) (fun c28 => ?_)
                      · clear c28
                        refine t_go (op := o_iload 251 8) (fe_X12_judged 249) (fun _ _ => rfl) ?_
                        refine t_ite (op := o_if 254 265 (fun x => x = 0) (fun _ => inferInstance)) (fe_X12_judged 251) g_if (fun c29 => ?_) (fun c29 => ?_)
                        · clear c29
                          refine t_go (op := o_iinc 268 4 1) (fe_X12_judged 265) (fun _ _ => rfl) ?_
                          refine t_go (op := o_goto 31) (fe_X12_judged 268) (fun _ _ => rfl) ?_
                          have eS := jd_y (h := h) (g := g) (n := n) (a := a) (c := c) (A := A) (E := E) (X := X) (i := i) (G := G) (by rw [hA]; decide) (by rw [hA, hE2, hX]; exact fun q => c17 (try_2.mp q))
                          rw [hA, hE2, hX, tryN_2, carryF, if_neg (show ¬ (hasF G (nI e) ∧ freeF G (nI x)) from c17)] at eS
                          rw [wr_n ha c19] at eS
                          rw [nI_1]
                          exact hq _ _ _ _ _ _ _ _ eS hz hBt (FW_le hWt (by omega)) (Or.inr (nI_pos' (by omega))) hc
                        · exact absurd (by decide) c29
                      · exact absurd (by decide) c28
                    · exact absurd (by decide) c27
            · exact absurd (by decide) c18
          · replace c17 := b2i_nn c17
            refine t_go (op := o_ci 121 1) (fe_X12_judged 120) (fun _ _ => rfl) ?_
            refine t_go (op := o_goto 125) (fe_X12_judged 121) (fun _ _ => rfl) ?_
            refine t_go (op := o_istore 127 8) (fe_X12_judged 125) (fun _ _ => rfl) ?_
            refine t_go (op := o_iload 129 8) (fe_X12_judged 127) (fun _ _ => rfl) ?_
            refine t_ite (op := o_if 141 132 (fun x => x = 0) (fun _ => inferInstance)) (fe_X12_judged 129) g_if (fun c30 => ?_) (fun c30 => ?_)
            · exact absurd c30 (by decide)
            · clear c30
              refine t_go (op := o_iload 142 2) (fe_X12_judged 141) (fun _ _ => rfl) ?_
              refine t_go (op := o_istore 143 2) (fe_X12_judged 142) (fun _ _ => rfl) ?_
              refine t_go (op := o_iload 145 5) (fe_X12_judged 143) (fun _ _ => rfl) ?_
              refine t_ite (op := o_if 172 148 (fun x => x = 0) (fun _ => inferInstance)) (fe_X12_judged 145) g_if (fun c31 => ?_) (fun c31 => ?_)
              · exact absurd c31 (by decide)
              · clear c31
                refine t_go (op := o_iload 174 5) (fe_X12_judged 172) (fun _ _ => rfl) ?_
                refine t_go (op := o_ci 175 4) (fe_X12_judged 174) (fun _ _ => rfl) ?_
                refine t_ite (op := o_icmp 199 178 (fun x y => x = y) (fun _ _ => inferInstance)) (fe_X12_judged 175) g_icmp (fun c32 => ?_) (fun c32 => ?_)
                · exact absurd c32 (by decide)
                · clear c32
                  refine t_go (op := o_iload 201 8) (fe_X12_judged 199) (fun _ _ => rfl) ?_
                  refine t_ite (op := o_if 204 222 (fun x => x = 0) (fun _ => inferInstance)) (fe_X12_judged 201) g_if (fun c33 => ?_) (fun c33 => ?_)
                  · exact absurd c33 (by decide)
                  · clear c33
                    refine t_go (op := o_iload 206 5) (fe_X12_judged 204) (fun _ _ => rfl) ?_
                    refine t_go (op := o_ci 207 1) (fe_X12_judged 206) (fun _ _ => rfl) ?_
                    refine t_ite (op := o_icmp 222 210 (fun x y => x = y) (fun _ _ => inferInstance)) (fe_X12_judged 207) g_icmp (fun c34 => ?_) (fun c34 => ?_)
                    · exact absurd c34 (by decide)
                    · clear c34
                      refine t_go (op := o_iload 224 8) (fe_X12_judged 222) (fun _ _ => rfl) ?_
                      refine t_ite (op := o_if 227 249 (fun x => x = 0) (fun _ => inferInstance)) (fe_X12_judged 224) g_if (fun c35 => ?_) (fun c35 => ?_)
                      · exact absurd c35 (by decide)
                      · clear c35
                        refine t_go (op := o_iload 229 5) (fe_X12_judged 227) (fun _ _ => rfl) ?_
                        refine t_go (op := o_ci 230 2) (fe_X12_judged 229) (fun _ _ => rfl) ?_
                        refine t_ite (op := o_icmp 249 233 (fun x y => x = y) (fun _ _ => inferInstance)) (fe_X12_judged 230) g_icmp (fun c36 => ?_) (fun c36 => ?_)
                        · clear c36
                          refine t_go (op := o_aload 234 0) (fe_X12_judged 233) (fun _ _ => rfl) ?_
                          refine t_go (op := o_getR 237 11 22) (fe_X12_judged 234) (g_getR hS (show (lay 183).1 = 11 by decide) (by decide) (fr_11_22 hS) (by decide)) ?_
                          refine t_go (op := o_ci 240 884) (fe_X12_judged 237) (fun _ _ => rfl) ?_
                          refine t_go (op := o_iload 242 6) (fe_X12_judged 240) (fun _ _ => rfl) ?_
                          refine t_go (op := o_i2 243 (fun x y => x + y)) (fe_X12_judged 242) (fun _ _ => rfl) ?_
                          refine t_go (op := o_iload 245 7) (fe_X12_judged 243) (fun _ _ => rfl) ?_
                          refine t_go (op := o_iast 246) (fe_X12_judged 245) (g_iastN hS (show lay 197 = (20, 966) by decide) (nIa (nIl 884) rfl) (by omega) (by decide)) ?_
                          refine t_go (op := o_goto 265) (fe_X12_judged 246) (fun _ _ => rfl) ?_
                          refine t_go (op := o_iinc 268 4 1) (fe_X12_judged 265) (fun _ _ => rfl) ?_
                          refine t_go (op := o_goto 31) (fe_X12_judged 268) (fun _ _ => rfl) ?_
                          have eS := jd_x (h := h) (g := g) (n := n) (a := a) (c := c) (A := A) (E := E) (X := X) (i := i) (G := G) (by rw [hA]; decide) (by rw [hA, hE2, hX]; exact try_2.mpr c17)
                          rw [hA, hE2, hX, tryN_2] at eS
                          obtain ⟨_, c0, _, _, hc0, _, _, _, hce, _⟩ := FV_in hWt.1 (show e < 7 by omega) c3
                          have hB2 : RB ((sI S 197 (884 + e) (nI x)).1 197) 882 (carryF G (nI e) (nI x)) := by
                            rw [carry_eq hWt.1 (by omega) c3 hce hc0 hx ((free_n hx).mp c17.2)]
                            exact RB_lies (RB_cell hBt (by omega))
                          rw [nI_1]
                          exact hq _ _ _ _ _ _ _ _ eS (Zf_st hz (by constructor <;> omega)) hB2 (FW_le (FW_carry (e := e) (c := x) hWt (by omega) hx) (by omega)) ha hc
                        · exact absurd (by decide) c36
        · exact absurd (by decide) c16
set_option maxRecDepth 8000 in
theorem jd_go3 {d : Nat} {k h : AHP} {m n g T ln i : Nat} {A E X : Nat → Int32} (hP : CP k h g n m) (hL : LN k ln A E X) (hl : ln ≤ 40) (hT : T < 90000) (hi7 : i < ln) {S : AHP} {G : FS} {y a c : Int32} {x5 x6 x7 x8 : Option Value} {Q : Option Value → AHP → Prop} (hz : Zf trl k S) (hBt : RB (S.1 197) 882 G) (hWt : FW m (T + i) G) (ha : wrP a) (hc : wrP c) (hA : A i = 3) {e : Nat} (he : e < m) (hE2 : E i = nI e) {x : Nat} (hx1 : 1 ≤ x) (hx : x ≤ 9) (hX : X i = nI x) (hq : ∀ S2 a2 c2 G2 x5 x6 x7 x8, jdS h g n A E X i (a, c, G) = (a2, c2, G2) → Zf trl k S2 → RB (S2.1 197) 882 G2 → FW m (T + (i + 1)) G2 → wrP a2 → wrP c2 → TT (d + 5) 228 31 [some (.ref 183), some (.int y), some (.int a2), some (.int c2), some (.int (nI (i + 1))), x5, x6, x7, x8] [] S2 Q) : TT (d + 5) 228 31 [some (.ref 183), some (.int y), some (.int a), some (.int c), some (.int (nI i)), x5, x6, x7, x8] [] S Q := by
  have hm := hP.1.2.2.1
  have hS := (hP.zf hz).1.1
  have hE := (hP.zf hz).1.2.1
  have hLS := hL.zf hz
  have hl1 := hLS.2 i hi7
  have h12 : i < 40 := by omega
  refine t_go (op := o_iload 33 4) (fe_X12_judged 31) (fun _ _ => rfl) ?_
  refine t_go (op := o_aload 34 0) (fe_X12_judged 33) (fun _ _ => rfl) ?_
  refine t_go (op := o_getR 37 11 19) (fe_X12_judged 34) (g_getR hS (show (lay 183).1 = 11 by decide) (by decide) (fr_11_19 hS) (by decide)) ?_
  refine t_go (op := o_ci 38 0) (fe_X12_judged 37) (fun _ _ => rfl) ?_
  refine t_go (op := o_iald 39) (fe_X12_judged 38) (g_ialdN hS (show lay 194 = (20, 250) by decide) (nIl 0) (by omega) (by decide)) ?_
  rw [hLS.1]
  refine t_ite (op := o_icmp 42 271 (fun x y => y ≤ x) (fun _ _ => inferInstance)) (fe_X12_judged 39) g_icmp (fun c1 => ?_) (fun c1 => ?_)
  · exact absurd c1 (nI_ge hi7 (by omega))
  · refine t_go (op := o_aload 43 0) (fe_X12_judged 42) (fun _ _ => rfl) ?_
    refine t_go (op := o_getR 46 11 19) (fe_X12_judged 43) (g_getR hS (show (lay 183).1 = 11 by decide) (by decide) (fr_11_19 hS) (by decide)) ?_
    refine t_go (op := o_ci 47 1) (fe_X12_judged 46) (fun _ _ => rfl) ?_
    refine t_go (op := o_ci 48 3) (fe_X12_judged 47) (fun _ _ => rfl) ?_
    refine t_go (op := o_iload 50 4) (fe_X12_judged 48) (fun _ _ => rfl) ?_
    refine t_go (op := o_i2 51 (fun x y => x * y)) (fe_X12_judged 50) (fun _ _ => rfl) ?_
    refine t_go (op := o_i2 52 (fun x y => x + y)) (fe_X12_judged 51) (fun _ _ => rfl) ?_
    refine t_go (op := o_iald 53) (fe_X12_judged 52) (g_ialdN hS (show lay 194 = (20, 250) by decide) (nIa (nIl 1) (nIm (nIl 3) rfl)) (by omega) (by decide)) ?_
    rw [show S.1 194 (1 + 3 * i) = 3 from hl1.1.trans hA]
    refine t_go (op := o_istore 55 5) (fe_X12_judged 53) (fun _ _ => rfl) ?_
    refine t_go (op := o_aload 56 0) (fe_X12_judged 55) (fun _ _ => rfl) ?_
    refine t_go (op := o_getR 59 11 19) (fe_X12_judged 56) (g_getR hS (show (lay 183).1 = 11 by decide) (by decide) (fr_11_19 hS) (by decide)) ?_
    refine t_go (op := o_ci 60 2) (fe_X12_judged 59) (fun _ _ => rfl) ?_
    refine t_go (op := o_ci 61 3) (fe_X12_judged 60) (fun _ _ => rfl) ?_
    refine t_go (op := o_iload 63 4) (fe_X12_judged 61) (fun _ _ => rfl) ?_
    refine t_go (op := o_i2 64 (fun x y => x * y)) (fe_X12_judged 63) (fun _ _ => rfl) ?_
    refine t_go (op := o_i2 65 (fun x y => x + y)) (fe_X12_judged 64) (fun _ _ => rfl) ?_
    refine t_go (op := o_iald 66) (fe_X12_judged 65) (g_ialdN hS (show lay 194 = (20, 250) by decide) (nIa (nIl 2) (nIm (nIl 3) rfl)) (by omega) (by decide)) ?_
    rw [show S.1 194 (2 + 3 * i) = nI e from ((hl1.2 (by rw [hA]; decide)).1).trans hE2]
    refine t_go (op := o_istore 68 6) (fe_X12_judged 66) (fun _ _ => rfl) ?_
    refine t_go (op := o_aload 69 0) (fe_X12_judged 68) (fun _ _ => rfl) ?_
    refine t_go (op := o_getR 72 11 19) (fe_X12_judged 69) (g_getR hS (show (lay 183).1 = 11 by decide) (by decide) (fr_11_19 hS) (by decide)) ?_
    refine t_go (op := o_ci 73 3) (fe_X12_judged 72) (fun _ _ => rfl) ?_
    refine t_go (op := o_ci 74 3) (fe_X12_judged 73) (fun _ _ => rfl) ?_
    refine t_go (op := o_iload 76 4) (fe_X12_judged 74) (fun _ _ => rfl) ?_
    refine t_go (op := o_i2 77 (fun x y => x * y)) (fe_X12_judged 76) (fun _ _ => rfl) ?_
    refine t_go (op := o_i2 78 (fun x y => x + y)) (fe_X12_judged 77) (fun _ _ => rfl) ?_
    refine t_go (op := o_iald 79) (fe_X12_judged 78) (g_ialdN hS (show lay 194 = (20, 250) by decide) (nIa (nIl 3) (nIm (nIl 3) rfl)) (by omega) (by decide)) ?_
    rw [show S.1 194 (3 + 3 * i) = nI x from ((hl1.2 (by rw [hA]; decide)).2).trans hX]
    refine t_go (op := o_istore 81 7) (fe_X12_judged 79) (fun _ _ => rfl) ?_
    refine t_go (op := o_iload 83 5) (fe_X12_judged 81) (fun _ _ => rfl) ?_
    refine t_go (op := o_ci 84 4) (fe_X12_judged 83) (fun _ _ => rfl) ?_
    refine t_go (op := o_i2d 85 (fun x y => x - x / y * y)) (fe_X12_judged 84) (g_i2d (by decide)) ?_
    refine t_ite (op := o_if 88 120 (fun x => x = 0) (fun _ => inferInstance)) (fe_X12_judged 85) g_if (fun c2 => ?_) (fun c2 => ?_)
    · exact absurd c2 (by decide)
    · clear c2
      refine t_go (op := o_aload 89 0) (fe_X12_judged 88) (fun _ _ => rfl) ?_
      refine t_go (op := o_ci 92 882) (fe_X12_judged 89) (fun _ _ => rfl) ?_
      refine t_go (op := o_iload 94 6) (fe_X12_judged 92) (fun _ _ => rfl) ?_
      refine t_call (op := o_callV 97 203 3 11) (fe_X12_judged 94) (g_callV hS (show (lay 183).1 = 11 by decide) (by decide) rfl rfl rfl (Nat.le_of_ble_eq_true rfl)) ?_
      refine M_eq (r_isThere (b := 882) hS hWt.1 hBt (by decide) (e := e) (by omega)) ?_
      refine t_ite (op := o_if 100 124 (fun x => x = 0) (fun _ => inferInstance)) (fe_X12_judged 97) g_if (fun c3 => ?_) (fun c3 => ?_)
      · replace c3 := b2i_z c3
        refine t_go (op := o_ci 125 0) (fe_X12_judged 124) (fun _ _ => rfl) ?_
        refine t_go (op := o_istore 127 8) (fe_X12_judged 125) (fun _ _ => rfl) ?_
        refine t_go (op := o_iload 129 8) (fe_X12_judged 127) (fun _ _ => rfl) ?_
        refine t_ite (op := o_if 141 132 (fun x => x = 0) (fun _ => inferInstance)) (fe_X12_judged 129) g_if (fun c4 => ?_) (fun c4 => ?_)
        · clear c4
          refine t_go (op := o_iload 133 2) (fe_X12_judged 132) (fun _ _ => rfl) ?_
          refine t_ite (op := o_if 136 141 (fun x => 0 ≤ x) (fun _ => inferInstance)) (fe_X12_judged 133) g_if (fun c5 => ?_) (fun c5 => ?_)
          · refine t_go (op := o_iload 142 2) (fe_X12_judged 141) (fun _ _ => rfl) ?_
            refine t_go (op := o_istore 143 2) (fe_X12_judged 142) (fun _ _ => rfl) ?_
            refine t_go (op := o_iload 145 5) (fe_X12_judged 143) (fun _ _ => rfl) ?_
            refine t_ite (op := o_if 172 148 (fun x => x = 0) (fun _ => inferInstance)) (fe_X12_judged 145) g_if (fun c6 => ?_) (fun c6 => ?_)
            · exact absurd c6 (by decide)
            · clear c6
              refine t_go (op := o_iload 174 5) (fe_X12_judged 172) (fun _ _ => rfl) ?_
              refine t_go (op := o_ci 175 4) (fe_X12_judged 174) (fun _ _ => rfl) ?_
              refine t_ite (op := o_icmp 199 178 (fun x y => x = y) (fun _ _ => inferInstance)) (fe_X12_judged 175) g_icmp (fun c7 => ?_) (fun c7 => ?_)
              · exact absurd c7 (by decide)
              · clear c7
                refine t_go (op := o_iload 201 8) (fe_X12_judged 199) (fun _ _ => rfl) ?_
                refine t_ite (op := o_if 204 222 (fun x => x = 0) (fun _ => inferInstance)) (fe_X12_judged 201) g_if (fun c8 => ?_) (fun c8 => ?_)
                · clear c8
                  refine t_go (op := o_iload 224 8) (fe_X12_judged 222) (fun _ _ => rfl) ?_
                  refine t_ite (op := o_if 227 249 (fun x => x = 0) (fun _ => inferInstance)) (fe_X12_judged 224) g_if (fun c9 => ?_) (fun c9 => ?_)
                  · clear c9
                    refine t_go (op := o_iload 251 8) (fe_X12_judged 249) (fun _ _ => rfl) ?_
                    refine t_ite (op := o_if 254 265 (fun x => x = 0) (fun _ => inferInstance)) (fe_X12_judged 251) g_if (fun c10 => ?_) (fun c10 => ?_)
                    · clear c10
                      refine t_go (op := o_iinc 268 4 1) (fe_X12_judged 265) (fun _ _ => rfl) ?_
                      refine t_go (op := o_goto 31) (fe_X12_judged 268) (fun _ _ => rfl) ?_
                      have eS := jd_y (h := h) (g := g) (n := n) (a := a) (c := c) (A := A) (E := E) (X := X) (i := i) (G := G) (by rw [hA]; decide) (by rw [hA, hE2, hX]; exact fun q => c3 ((try_3.mp q)))
                      rw [hA, hE2, hX, tryN_3, addFuelF, if_neg (c3)] at eS
                      rw [wr_p ha c5] at eS
                      rw [nI_1]
                      exact hq _ _ _ _ _ _ _ _ eS hz hBt (FW_le hWt (by omega)) ha hc
                    · exact absurd (by decide) c10
                  · exact absurd (by decide) c9
                · exact absurd (by decide) c8
          · refine t_go (op := o_iload 138 4) (fe_X12_judged 136) (fun _ _ => rfl) ?_
            refine t_go (op := o_goto 142) (fe_X12_judged 138) (fun _ _ => rfl) ?_
            refine t_go (op := o_istore 143 2) (fe_X12_judged 142) (fun _ _ => rfl) ?_
            refine t_go (op := o_iload 145 5) (fe_X12_judged 143) (fun _ _ => rfl) ?_
            refine t_ite (op := o_if 172 148 (fun x => x = 0) (fun _ => inferInstance)) (fe_X12_judged 145) g_if (fun c11 => ?_) (fun c11 => ?_)
            · exact absurd c11 (by decide)
            · clear c11
              refine t_go (op := o_iload 174 5) (fe_X12_judged 172) (fun _ _ => rfl) ?_
              refine t_go (op := o_ci 175 4) (fe_X12_judged 174) (fun _ _ => rfl) ?_
              refine t_ite (op := o_icmp 199 178 (fun x y => x = y) (fun _ _ => inferInstance)) (fe_X12_judged 175) g_icmp (fun c12 => ?_) (fun c12 => ?_)
              · exact absurd c12 (by decide)
              · clear c12
                refine t_go (op := o_iload 201 8) (fe_X12_judged 199) (fun _ _ => rfl) ?_
                refine t_ite (op := o_if 204 222 (fun x => x = 0) (fun _ => inferInstance)) (fe_X12_judged 201) g_if (fun c13 => ?_) (fun c13 => ?_)
                · clear c13
                  refine t_go (op := o_iload 224 8) (fe_X12_judged 222) (fun _ _ => rfl) ?_
                  refine t_ite (op := o_if 227 249 (fun x => x = 0) (fun _ => inferInstance)) (fe_X12_judged 224) g_if (fun c14 => ?_) (fun c14 => ?_)
                  · clear c14
                    refine t_go (op := o_iload 251 8) (fe_X12_judged 249) (fun _ _ => rfl) ?_
                    refine t_ite (op := o_if 254 265 (fun x => x = 0) (fun _ => inferInstance)) (fe_X12_judged 251) g_if (fun c15 => ?_) (fun c15 => ?_)
                    · clear c15
                      refine t_go (op := o_iinc 268 4 1) (fe_X12_judged 265) (fun _ _ => rfl) ?_
                      refine t_go (op := o_goto 31) (fe_X12_judged 268) (fun _ _ => rfl) ?_
                      have eS := jd_y (h := h) (g := g) (n := n) (a := a) (c := c) (A := A) (E := E) (X := X) (i := i) (G := G) (by rw [hA]; decide) (by rw [hA, hE2, hX]; exact fun q => c3 ((try_3.mp q)))
                      rw [hA, hE2, hX, tryN_3, addFuelF, if_neg (c3)] at eS
                      rw [wr_n ha c5] at eS
                      rw [nI_1]
                      exact hq _ _ _ _ _ _ _ _ eS hz hBt (FW_le hWt (by omega)) (Or.inr (nI_pos' (by omega))) hc
                    · exact absurd (by decide) c15
                  · exact absurd (by decide) c14
                · exact absurd (by decide) c13
        · exact absurd (by decide) c4
      · replace c3 := b2i_nn c3
        refine t_go (op := o_iload 102 5) (fe_X12_judged 100) (fun _ _ => rfl) ?_
        refine t_go (op := o_ci 103 2) (fe_X12_judged 102) (fun _ _ => rfl) ?_
        refine t_ite (op := o_icmp 120 106 (fun x y => x = y) (fun _ _ => inferInstance)) (fe_X12_judged 103) g_icmp (fun c16 => ?_) (fun c16 => ?_)
        · exact absurd c16 (by decide)
        · clear c16
          refine t_go (op := o_ci 121 1) (fe_X12_judged 120) (fun _ _ => rfl) ?_
          refine t_go (op := o_goto 125) (fe_X12_judged 121) (fun _ _ => rfl) ?_
          refine t_go (op := o_istore 127 8) (fe_X12_judged 125) (fun _ _ => rfl) ?_
          refine t_go (op := o_iload 129 8) (fe_X12_judged 127) (fun _ _ => rfl) ?_
          refine t_ite (op := o_if 141 132 (fun x => x = 0) (fun _ => inferInstance)) (fe_X12_judged 129) g_if (fun c17 => ?_) (fun c17 => ?_)
          · exact absurd c17 (by decide)
          · clear c17
            refine t_go (op := o_iload 142 2) (fe_X12_judged 141) (fun _ _ => rfl) ?_
            refine t_go (op := o_istore 143 2) (fe_X12_judged 142) (fun _ _ => rfl) ?_
            refine t_go (op := o_iload 145 5) (fe_X12_judged 143) (fun _ _ => rfl) ?_
            refine t_ite (op := o_if 172 148 (fun x => x = 0) (fun _ => inferInstance)) (fe_X12_judged 145) g_if (fun c18 => ?_) (fun c18 => ?_)
            · exact absurd c18 (by decide)
            · clear c18
              refine t_go (op := o_iload 174 5) (fe_X12_judged 172) (fun _ _ => rfl) ?_
              refine t_go (op := o_ci 175 4) (fe_X12_judged 174) (fun _ _ => rfl) ?_
              refine t_ite (op := o_icmp 199 178 (fun x y => x = y) (fun _ _ => inferInstance)) (fe_X12_judged 175) g_icmp (fun c19 => ?_) (fun c19 => ?_)
              · exact absurd c19 (by decide)
              · clear c19
                refine t_go (op := o_iload 201 8) (fe_X12_judged 199) (fun _ _ => rfl) ?_
                refine t_ite (op := o_if 204 222 (fun x => x = 0) (fun _ => inferInstance)) (fe_X12_judged 201) g_if (fun c20 => ?_) (fun c20 => ?_)
                · exact absurd c20 (by decide)
                · clear c20
                  refine t_go (op := o_iload 206 5) (fe_X12_judged 204) (fun _ _ => rfl) ?_
                  refine t_go (op := o_ci 207 1) (fe_X12_judged 206) (fun _ _ => rfl) ?_
                  refine t_ite (op := o_icmp 222 210 (fun x y => x = y) (fun _ _ => inferInstance)) (fe_X12_judged 207) g_icmp (fun c21 => ?_) (fun c21 => ?_)
                  · exact absurd c21 (by decide)
                  · clear c21
                    refine t_go (op := o_iload 224 8) (fe_X12_judged 222) (fun _ _ => rfl) ?_
                    refine t_ite (op := o_if 227 249 (fun x => x = 0) (fun _ => inferInstance)) (fe_X12_judged 224) g_if (fun c22 => ?_) (fun c22 => ?_)
                    · exact absurd c22 (by decide)
                    · clear c22
                      refine t_go (op := o_iload 229 5) (fe_X12_judged 227) (fun _ _ => rfl) ?_
                      refine t_go (op := o_ci 230 2) (fe_X12_judged 229) (fun _ _ => rfl) ?_
                      refine t_ite (op := o_icmp 249 233 (fun x y => x = y) (fun _ _ => inferInstance)) (fe_X12_judged 230) g_icmp (fun c23 => ?_) (fun c23 => ?_)
                      · exact absurd c23 (by decide)
                      · clear c23
                        refine t_go (op := o_iload 251 8) (fe_X12_judged 249) (fun _ _ => rfl) ?_
                        refine t_ite (op := o_if 254 265 (fun x => x = 0) (fun _ => inferInstance)) (fe_X12_judged 251) g_if (fun c24 => ?_) (fun c24 => ?_)
                        · exact absurd c24 (by decide)
                        · clear c24
                          refine t_go (op := o_aload 255 0) (fe_X12_judged 254) (fun _ _ => rfl) ?_
                          refine t_go (op := o_ci 258 882) (fe_X12_judged 255) (fun _ _ => rfl) ?_
                          refine t_go (op := o_iload 260 6) (fe_X12_judged 258) (fun _ _ => rfl) ?_
                          refine t_go (op := o_iload 262 7) (fe_X12_judged 260) (fun _ _ => rfl) ?_
                          refine t_call (op := o_callV 265 218 4 11) (fe_X12_judged 262) (g_callV hS (show (lay 183).1 = 11 by decide) (by decide) rfl rfl rfl (Nat.le_of_ble_eq_true rfl)) ?_
                          refine M_mono ?_ (r_feeds (b := 882) (hP.zf hz).1 hWt.1 hBt (by decide) (e := e) (by omega) c3)
                          rintro _ h2 ⟨rfl, hz2, hB2⟩
                          replace hz := hz.tr (hz2.mono trl_b)
                          refine t_go (op := o_iinc 268 4 1) (fe_X12_judged 265) (fun _ _ => rfl) ?_
                          refine t_go (op := o_goto 31) (fe_X12_judged 268) (fun _ _ => rfl) ?_
                          have eS := jd_x (h := h) (g := g) (n := n) (a := a) (c := c) (A := A) (E := E) (X := X) (i := i) (G := G) (by rw [hA]; decide) (by rw [hA, hE2, hX]; exact try_3.mpr c3)
                          rw [hA, hE2, hX, tryN_3] at eS
                          rw [nI_1]
                          exact hq _ _ _ _ _ _ _ _ eS hz hB2 (FW_le (FW_fuel (e := e) (x := x) hWt (by omega) (by omega)) (by omega)) ha hc
set_option maxRecDepth 8000 in
theorem jd_go4 {d : Nat} {k h : AHP} {m n g T ln i : Nat} {A E X : Nat → Int32} (hP : CP k h g n m) (hL : LN k ln A E X) (hl : ln ≤ 40) (hT : T < 90000) (hi7 : i < ln) {S : AHP} {G : FS} {y a c : Int32} {x5 x6 x7 x8 : Option Value} {Q : Option Value → AHP → Prop} (hz : Zf trl k S) (hBt : RB (S.1 197) 882 G) (hWt : FW m (T + i) G) (ha : wrP a) (hc : wrP c) (hA : A i = 4) (hq : ∀ S2 a2 c2 G2 x5 x6 x7 x8, jdS h g n A E X i (a, c, G) = (a2, c2, G2) → Zf trl k S2 → RB (S2.1 197) 882 G2 → FW m (T + (i + 1)) G2 → wrP a2 → wrP c2 → TT (d + 5) 228 31 [some (.ref 183), some (.int y), some (.int a2), some (.int c2), some (.int (nI (i + 1))), x5, x6, x7, x8] [] S2 Q) : TT (d + 5) 228 31 [some (.ref 183), some (.int y), some (.int a), some (.int c), some (.int (nI i)), x5, x6, x7, x8] [] S Q := by
  have hm := hP.1.2.2.1
  have hS := (hP.zf hz).1.1
  have hE := (hP.zf hz).1.2.1
  have hLS := hL.zf hz
  have hl1 := hLS.2 i hi7
  have h12 : i < 40 := by omega
  refine t_go (op := o_iload 33 4) (fe_X12_judged 31) (fun _ _ => rfl) ?_
  refine t_go (op := o_aload 34 0) (fe_X12_judged 33) (fun _ _ => rfl) ?_
  refine t_go (op := o_getR 37 11 19) (fe_X12_judged 34) (g_getR hS (show (lay 183).1 = 11 by decide) (by decide) (fr_11_19 hS) (by decide)) ?_
  refine t_go (op := o_ci 38 0) (fe_X12_judged 37) (fun _ _ => rfl) ?_
  refine t_go (op := o_iald 39) (fe_X12_judged 38) (g_ialdN hS (show lay 194 = (20, 250) by decide) (nIl 0) (by omega) (by decide)) ?_
  rw [hLS.1]
  refine t_ite (op := o_icmp 42 271 (fun x y => y ≤ x) (fun _ _ => inferInstance)) (fe_X12_judged 39) g_icmp (fun c1 => ?_) (fun c1 => ?_)
  · exact absurd c1 (nI_ge hi7 (by omega))
  · refine t_go (op := o_aload 43 0) (fe_X12_judged 42) (fun _ _ => rfl) ?_
    refine t_go (op := o_getR 46 11 19) (fe_X12_judged 43) (g_getR hS (show (lay 183).1 = 11 by decide) (by decide) (fr_11_19 hS) (by decide)) ?_
    refine t_go (op := o_ci 47 1) (fe_X12_judged 46) (fun _ _ => rfl) ?_
    refine t_go (op := o_ci 48 3) (fe_X12_judged 47) (fun _ _ => rfl) ?_
    refine t_go (op := o_iload 50 4) (fe_X12_judged 48) (fun _ _ => rfl) ?_
    refine t_go (op := o_i2 51 (fun x y => x * y)) (fe_X12_judged 50) (fun _ _ => rfl) ?_
    refine t_go (op := o_i2 52 (fun x y => x + y)) (fe_X12_judged 51) (fun _ _ => rfl) ?_
    refine t_go (op := o_iald 53) (fe_X12_judged 52) (g_ialdN hS (show lay 194 = (20, 250) by decide) (nIa (nIl 1) (nIm (nIl 3) rfl)) (by omega) (by decide)) ?_
    rw [show S.1 194 (1 + 3 * i) = 4 from hl1.1.trans hA]
    refine t_go (op := o_istore 55 5) (fe_X12_judged 53) (fun _ _ => rfl) ?_
    refine t_go (op := o_aload 56 0) (fe_X12_judged 55) (fun _ _ => rfl) ?_
    refine t_go (op := o_getR 59 11 19) (fe_X12_judged 56) (g_getR hS (show (lay 183).1 = 11 by decide) (by decide) (fr_11_19 hS) (by decide)) ?_
    refine t_go (op := o_ci 60 2) (fe_X12_judged 59) (fun _ _ => rfl) ?_
    refine t_go (op := o_ci 61 3) (fe_X12_judged 60) (fun _ _ => rfl) ?_
    refine t_go (op := o_iload 63 4) (fe_X12_judged 61) (fun _ _ => rfl) ?_
    refine t_go (op := o_i2 64 (fun x y => x * y)) (fe_X12_judged 63) (fun _ _ => rfl) ?_
    refine t_go (op := o_i2 65 (fun x y => x + y)) (fe_X12_judged 64) (fun _ _ => rfl) ?_
    refine t_go (op := o_iald 66) (fe_X12_judged 65) (g_ialdN hS (show lay 194 = (20, 250) by decide) (nIa (nIl 2) (nIm (nIl 3) rfl)) (by omega) (by decide)) ?_
    refine t_go (op := o_istore 68 6) (fe_X12_judged 66) (fun _ _ => rfl) ?_
    refine t_go (op := o_aload 69 0) (fe_X12_judged 68) (fun _ _ => rfl) ?_
    refine t_go (op := o_getR 72 11 19) (fe_X12_judged 69) (g_getR hS (show (lay 183).1 = 11 by decide) (by decide) (fr_11_19 hS) (by decide)) ?_
    refine t_go (op := o_ci 73 3) (fe_X12_judged 72) (fun _ _ => rfl) ?_
    refine t_go (op := o_ci 74 3) (fe_X12_judged 73) (fun _ _ => rfl) ?_
    refine t_go (op := o_iload 76 4) (fe_X12_judged 74) (fun _ _ => rfl) ?_
    refine t_go (op := o_i2 77 (fun x y => x * y)) (fe_X12_judged 76) (fun _ _ => rfl) ?_
    refine t_go (op := o_i2 78 (fun x y => x + y)) (fe_X12_judged 77) (fun _ _ => rfl) ?_
    refine t_go (op := o_iald 79) (fe_X12_judged 78) (g_ialdN hS (show lay 194 = (20, 250) by decide) (nIa (nIl 3) (nIm (nIl 3) rfl)) (by omega) (by decide)) ?_
    refine t_go (op := o_istore 81 7) (fe_X12_judged 79) (fun _ _ => rfl) ?_
    refine t_go (op := o_iload 83 5) (fe_X12_judged 81) (fun _ _ => rfl) ?_
    refine t_go (op := o_ci 84 4) (fe_X12_judged 83) (fun _ _ => rfl) ?_
    refine t_go (op := o_i2d 85 (fun x y => x - x / y * y)) (fe_X12_judged 84) (g_i2d (by decide)) ?_
    refine t_ite (op := o_if 88 120 (fun x => x = 0) (fun _ => inferInstance)) (fe_X12_judged 85) g_if (fun c2 => ?_) (fun c2 => ?_)
    · clear c2
      refine t_go (op := o_ci 121 1) (fe_X12_judged 120) (fun _ _ => rfl) ?_
      refine t_go (op := o_goto 125) (fe_X12_judged 121) (fun _ _ => rfl) ?_
      refine t_go (op := o_istore 127 8) (fe_X12_judged 125) (fun _ _ => rfl) ?_
      refine t_go (op := o_iload 129 8) (fe_X12_judged 127) (fun _ _ => rfl) ?_
      refine t_ite (op := o_if 141 132 (fun x => x = 0) (fun _ => inferInstance)) (fe_X12_judged 129) g_if (fun c3 => ?_) (fun c3 => ?_)
      · exact absurd c3 (by decide)
      · clear c3
        refine t_go (op := o_iload 142 2) (fe_X12_judged 141) (fun _ _ => rfl) ?_
        refine t_go (op := o_istore 143 2) (fe_X12_judged 142) (fun _ _ => rfl) ?_
        refine t_go (op := o_iload 145 5) (fe_X12_judged 143) (fun _ _ => rfl) ?_
        refine t_ite (op := o_if 172 148 (fun x => x = 0) (fun _ => inferInstance)) (fe_X12_judged 145) g_if (fun c4 => ?_) (fun c4 => ?_)
        · exact absurd c4 (by decide)
        · clear c4
          refine t_go (op := o_iload 174 5) (fe_X12_judged 172) (fun _ _ => rfl) ?_
          refine t_go (op := o_ci 175 4) (fe_X12_judged 174) (fun _ _ => rfl) ?_
          refine t_ite (op := o_icmp 199 178 (fun x y => x = y) (fun _ _ => inferInstance)) (fe_X12_judged 175) g_icmp (fun c5 => ?_) (fun c5 => ?_)
          · clear c5
            refine t_go (op := o_aload 179 0) (fe_X12_judged 178) (fun _ _ => rfl) ?_
            refine t_go (op := o_getR 182 11 22) (fe_X12_judged 179) (g_getR hS (show (lay 183).1 = 11 by decide) (by decide) (fr_11_22 hS) (by decide)) ?_
            refine t_go (op := o_ci 185 883) (fe_X12_judged 182) (fun _ _ => rfl) ?_
            refine t_go (op := o_ci 186 1) (fe_X12_judged 185) (fun _ _ => rfl) ?_
            refine t_go (op := o_aload 187 0) (fe_X12_judged 186) (fun _ _ => rfl) ?_
            refine t_go (op := o_getR 190 11 22) (fe_X12_judged 187) (g_getR hS (show (lay 183).1 = 11 by decide) (by decide) (fr_11_22 hS) (by decide)) ?_
            refine t_go (op := o_ci 193 883) (fe_X12_judged 190) (fun _ _ => rfl) ?_
            refine t_go (op := o_iald 194) (fe_X12_judged 193) (g_ialdN hS (show lay 197 = (20, 966) by decide) (nIl 883) (by omega) (by decide)) ?_
            rw [show S.1 197 883 = G.2.2.2.2.2 from hBt.2.2]
            refine t_go (op := o_i2 195 (fun x y => x - y)) (fe_X12_judged 194) (fun _ _ => rfl) ?_
            refine t_go (op := o_iast 196) (fe_X12_judged 195) (g_iastN hS (show lay 197 = (20, 966) by decide) (nIl 883) (by omega) (by decide)) ?_
            refine t_go (op := o_goto 265) (fe_X12_judged 196) (fun _ _ => rfl) ?_
            refine t_go (op := o_iinc 268 4 1) (fe_X12_judged 265) (fun _ _ => rfl) ?_
            refine t_go (op := o_goto 31) (fe_X12_judged 268) (fun _ _ => rfl) ?_
            have eS := jd_4 (h := h) (g := g) (n := n) (E := E) (X := X) (a := a) (c := c) (G := G) hA
            have hB2 : RB ((sI S 197 883 (1 - G.2.2.2.2.2)).1 197) 882 (bankF G) := by
              have := RB_bank (x := 1 - G.2.2.2.2.2) hBt
              rw [show (G.1, G.2.1, G.2.2.1, G.2.2.2.1, G.2.2.2.2.1, 1 - G.2.2.2.2.2) = bankF G from by rw [bank_1 hWt.1]; rfl] at this
              exact this
            rw [nI_1]
            exact hq _ _ _ _ _ _ _ _ eS (Zf_st hz (by decide)) hB2 (FW_le (FW_bank hWt) (by omega)) ha hc
          · exact absurd (by decide) c5
    · exact absurd (by decide) c2
