/-! ===== the reference's parser: more leaves ===== -/
def whP (TK : Nat → Tk) (b p f c : Nat) : Prop := f = 0 ∧ (TK p).1 = 1 ∧ b ≤ (TK p).2.2.1 ∧ (TK p).2.2.1 < b + c
noncomputable def whV (TK : Nat → Tk) (b p f c : Nat) : Int32 := @ite _ (whP TK b p f c) (Classical.propDecidable _) (nI ((TK p).2.2.1 - b)) (-1)
theorem whV_t {TK : Nat → Tk} {b p f i : Nat} (hw : isWd TK (b + i) p f) : whV TK b p f (i + 1) = nI i := by
  obtain ⟨h1, h2, h3⟩ := hw
  unfold whV
  rw [if_pos ⟨h1, h2, by omega, by omega⟩, h3, Nat.add_sub_cancel_left]
theorem whV_f {TK : Nat → Tk} {b p f i : Nat} (hw : ¬ isWd TK (b + i) p f) : whV TK b p f (i + 1) = whV TK b p f i := by
  unfold whV
  by_cases h : whP TK b p f i
  · rw [if_pos h, if_pos (show whP TK b p f (i + 1) from ⟨h.1, h.2.1, h.2.2.1, by have := h.2.2.2; omega⟩)]
  · rw [if_neg h, if_neg (show ¬ whP TK b p f (i + 1) from fun q => by
      by_cases h5 : (TK p).2.2.1 = b + i
      · exact hw ⟨q.1, q.2.1, h5⟩
      · exact h ⟨q.1, q.2.1, q.2.2.1, by have := q.2.2.2; omega⟩)]
theorem whV_0 {TK : Nat → Tk} {b p f : Nat} : whV TK b p f 0 = -1 := by
  unfold whV
  rw [if_neg (show ¬ whP TK b p f 0 from fun q => by have := q.2.2; omega)]
theorem whV_n {TK : Nat → Tk} {b p f c : Nat} (hb : TKb (TK p)) : 0 ≤ whV TK b p f c ↔ whP TK b p f c := by
  unfold whV
  by_cases h : whP TK b p f c
  · rw [if_pos h]; exact ⟨fun _ => h, fun _ => nI_pos' (by have := hb.2.2.1; omega)⟩
  · rw [if_neg h]; exact ⟨fun q => absurd q (by decide), fun q => absurd q h⟩
theorem lr_wh {d : Nat} {h : AHP} {TK : Nat → Tk} {n p f : Nat} (hR : RQ h TK n) (hp : p ≤ n) (hf : f < 100000) {b cnt : Nat} (hb : b + cnt ≤ 23) {Q : Option Value → AHP → Prop} : ∀ (j i : Nat) (_ : Unit), i + j = cnt → Q (some (.int (whV TK b p f cnt))) (AT h p f) → TT (d + 1) 177 5 [some (.ref 183), some (.int (nI b)), some (.int (nI cnt)), some (.int (whV TK b p f i)), some (.int (nI i))] [] (AT h p f) Q := by
  intro j
  induction j with
  | zero =>
    intro i _ hi  hq
    have hN : i = cnt := by omega
    have hS := hR.1
    refine t_go (op := o_iload 7 4) (fe_X12_wordHere 5) (fun _ _ => rfl) ?_
    refine t_go (op := o_iload 8 2) (fe_X12_wordHere 7) (fun _ _ => rfl) ?_
    refine t_ite (op := o_icmp 11 35 (fun x y => y ≤ x) (fun _ _ => inferInstance)) (fe_X12_wordHere 8) g_icmp (fun c1 => ?_) (fun c1 => ?_)
    · refine t_go (op := o_iload 36 3) (fe_X12_wordHere 35) (fun _ _ => rfl) ?_
      refine t_ret (op := o_iret) (fe_X12_wordHere 36) (fun _ _ => rfl) ?_
      rw [← hN] at hq
      exact hq
    · exact absurd (by rw [hN]; exact Int32.le_refl _) c1
  | succ j ih =>
    intro i _ hi  hq
    have hi7 : i < cnt := by omega
    have hS := hR.1
    refine t_go (op := o_iload 7 4) (fe_X12_wordHere 5) (fun _ _ => rfl) ?_
    refine t_go (op := o_iload 8 2) (fe_X12_wordHere 7) (fun _ _ => rfl) ?_
    refine t_ite (op := o_icmp 11 35 (fun x y => y ≤ x) (fun _ _ => inferInstance)) (fe_X12_wordHere 8) g_icmp (fun c1 => ?_) (fun c1 => ?_)
    · exact absurd c1 (nI_ge hi7 (by omega))
    · refine t_go (op := o_aload 12 0) (fe_X12_wordHere 11) (fun _ _ => rfl) ?_
      refine t_go (op := o_iload 13 1) (fe_X12_wordHere 12) (fun _ _ => rfl) ?_
      refine t_go (op := o_iload 15 4) (fe_X12_wordHere 13) (fun _ _ => rfl) ?_
      refine t_go (op := o_i2 16 (fun x y => x + y)) (fe_X12_wordHere 15) (fun _ _ => rfl) ?_
      rw [show (fun x y : Int32 => x + y) (nI b) (nI i) = nI (b + i) from nIa rfl rfl]
      refine t_call (op := o_callV 19 168 2 11) (fe_X12_wordHere 16) (g_callV hS (show (lay 183).1 = 11 by decide) (by decide) rfl rfl rfl (Nat.le_of_ble_eq_true rfl)) ?_
      refine M_eq (r_isWord (c := b + i) hR hp hf (by omega)) ?_
      refine t_ite (op := o_if 22 27 (fun x => x = 0) (fun _ => inferInstance)) (fe_X12_wordHere 19) g_if (fun c2 => ?_) (fun c2 => ?_)
      · replace c2 := b2i_z c2
        refine t_go (op := o_iload 28 3) (fe_X12_wordHere 27) (fun _ _ => rfl) ?_
        refine t_go (op := o_istore 29 3) (fe_X12_wordHere 28) (fun _ _ => rfl) ?_
        refine t_go (op := o_iinc 32 4 1) (fe_X12_wordHere 29) (fun _ _ => rfl) ?_
        refine t_go (op := o_goto 5) (fe_X12_wordHere 32) (fun _ _ => rfl) ?_
        rw [nI_1]
        rw [show whV TK b p f i = whV TK b p f (i + 1) from (whV_f c2).symm]
        exact ih (i + 1) () (by omega) hq
      · replace c2 := b2i_nn c2
        refine t_go (op := o_iload 24 4) (fe_X12_wordHere 22) (fun _ _ => rfl) ?_
        refine t_go (op := o_goto 28) (fe_X12_wordHere 24) (fun _ _ => rfl) ?_
        refine t_go (op := o_istore 29 3) (fe_X12_wordHere 28) (fun _ _ => rfl) ?_
        refine t_go (op := o_iinc 32 4 1) (fe_X12_wordHere 29) (fun _ _ => rfl) ?_
        refine t_go (op := o_goto 5) (fe_X12_wordHere 32) (fun _ _ => rfl) ?_
        rw [nI_1]
        rw [show nI i = whV TK b p f (i + 1) from (whV_t c2).symm]
        exact ih (i + 1) () (by omega) hq
theorem r_wordHere {d : Nat} {h : AHP} {TK : Nat → Tk} {n p f : Nat} (hR : RQ h TK n) (hp : p ≤ n) (hf : f < 100000) {b cnt : Nat} (hb : b + cnt ≤ 23) : MM (d + 1) 177 [.ref 183, .int (nI b), .int (nI cnt)] (AT h p f) (fun v h2 => v = some (.int (whV TK b p f cnt)) ∧ h2 = AT h p f) := by
  refine ⟨Nat.le_of_ble_eq_true rfl, ?_⟩
  have hS := hR.1
  refine t_go (op := o_ci 1 (-1)) (fe_X12_wordHere 0) (fun _ _ => rfl) ?_
  refine t_go (op := o_istore 2 3) (fe_X12_wordHere 1) (fun _ _ => rfl) ?_
  refine t_go (op := o_ci 3 0) (fe_X12_wordHere 2) (fun _ _ => rfl) ?_
  refine t_go (op := o_istore 5 4) (fe_X12_wordHere 3) (fun _ _ => rfl) ?_
  rw [show (-1 : Int32) = whV TK b p f 0 from whV_0.symm]
  exact lr_wh hR hp hf hb cnt 0 () (by omega) ⟨rfl, rfl⟩
def nuP (TK : Nat → Tk) (lo hi i f : Nat) : Prop := f = 0 ∧ (TK i).1 = 2 ∧ lo ≤ (TK i).2.2.1 ∧ (TK i).2.2.1 ≤ hi
theorem le_0 {f : Nat} (hf : f < 100000) : nI f ≤ 0 ↔ f = 0 := by
  rw [show (0 : Int32) = nI 0 from rfl, nI_leI (by omega) (by decide)]
  omega
theorem wrF_p {TK : Nat → Tk} {c i : Nat} (hc : 1 ≤ c) : ¬ wrF TK c i 0 = 0 := by
  unfold wrF
  rw [if_pos rfl]
  omega
theorem cmp_lt {a b : Nat} (ha : a < 2 ^ 31) (hb : b < 2 ^ 31) : lg_cmp (lN a) (lN b) < 0 ↔ a < b := by
  unfold lg_cmp
  by_cases h1 : lN a > lN b
  · rw [if_pos h1]
    have := (lN_lt hb ha).mp h1
    exact ⟨fun q => absurd q (by decide), fun q => by omega⟩
  · rw [if_neg h1]
    have h3 : ¬ b < a := fun q => h1 ((lN_lt hb ha).mpr q)
    by_cases h2 : lN a = lN b
    · rw [if_pos h2]
      have := (lN_eq ha hb).mp h2
      exact ⟨fun q => absurd q (by decide), fun q => by omega⟩
    · rw [if_neg h2]
      have h4 : ¬ a = b := fun q => h2 ((lN_eq ha hb).mpr q)
      exact ⟨fun _ => by omega, fun _ => by decide⟩
theorem cmp_le {a b : Nat} (ha : a < 2 ^ 31) (hb : b < 2 ^ 31) : lg_cmp (lN a) (lN b) ≤ 0 ↔ a ≤ b := by
  unfold lg_cmp
  by_cases h1 : lN a > lN b
  · rw [if_pos h1]
    have := (lN_lt hb ha).mp h1
    exact ⟨fun q => absurd q (by decide), fun q => by omega⟩
  · rw [if_neg h1]
    have h3 : ¬ b < a := fun q => h1 ((lN_lt hb ha).mpr q)
    by_cases h2 : lN a = lN b
    · rw [if_pos h2]
      exact ⟨fun _ => by omega, fun _ => by decide⟩
    · rw [if_neg h2]
      exact ⟨fun _ => by omega, fun _ => by decide⟩
theorem r_takeNumber {d : Nat} {h : AHP} {TK : Nat → Tk} {n i f : Nat} (hR : RQ h TK n) (hi : i ≤ n) (hf : f < 100000) {lo hi2 : Nat} (hl : lo < 10000) (hh : hi2 < 10000) : MM (d + 1) 175 [.ref 183, .int (nI lo), .int (nI hi2)] (AT h i f) (fun v h2 => (nuP TK lo hi2 i f → v = some (.int (nI (TK i).2.2.1)) ∧ h2 = AT h (i + 1) f) ∧ (¬ nuP TK lo hi2 i f → v = some (.int 0) ∧ h2 = AT h i (wrF TK (if (TK i).1 = 2 then 4 else 1) i f))) := by
  refine ⟨Nat.le_of_ble_eq_true rfl, ?_⟩
  have hS := hR.1
  have hn := hR.2.2.1
  have hs : nI (TK i).1 = 2 → (TK i).1 = 2 := fun q => (nI_eq (b := 2) (by have := (hR.2.2.2.1 i).1; omega) (by decide)).mp q
  have hb0 := (hR.2.2.2.1 i).2.2.1
  have hb1 : (TK i).2.2.1 < 2 ^ 31 := by omega
  have hb2 : lo < 2 ^ 31 := by omega
  have hb3 : hi2 < 2 ^ 31 := by omega
  refine t_go (op := o_aload 1 0) (fe_X12_takeNumber 0) (fun _ _ => rfl) ?_
  refine t_go (op := o_getI 4 11 8) (fe_X12_takeNumber 1) (g_getI hS (show (lay 183).1 = 11 by decide) (by decide)) ?_
  rw [AT_8]
  refine t_ite (op := o_if 28 7 (fun x => x = 0) (fun _ => inferInstance)) (fe_X12_takeNumber 4) g_if (fun c1 => ?_) (fun c1 => ?_)
  · refine t_go (op := o_aload 8 0) (fe_X12_takeNumber 7) (fun _ _ => rfl) ?_
    refine t_go (op := o_getR 11 11 4) (fe_X12_takeNumber 8) (g_getR hS (show (lay 183).1 = 11 by decide) (by decide) (fr_11_4 hS) (by decide)) ?_
    refine t_go (op := o_aload 12 0) (fe_X12_takeNumber 11) (fun _ _ => rfl) ?_
    refine t_go (op := o_getI 15 11 7) (fe_X12_takeNumber 12) (g_getI hS (show (lay 183).1 = 11 by decide) (by decide)) ?_
    rw [AT_7]
    refine t_go (op := o_iald 16) (fe_X12_takeNumber 15) (g_ialdN hS (show lay 185 = (20, 1002) by decide) rfl (by omega) (by decide)) ?_
    rw [show (AT h i f).1 185 i = nI (TK i).1 from (congrFun (AT_r (by decide)) i).trans (hR.2.1 i hi).1]
    refine t_go (op := o_ci 17 2) (fe_X12_takeNumber 16) (fun _ _ => rfl) ?_
    refine t_ite (op := o_icmp 20 28 (fun x y => x = y) (fun _ _ => inferInstance)) (fe_X12_takeNumber 17) g_icmp (fun c2 => ?_) (fun c2 => ?_)
    · refine t_go (op := o_aload 29 0) (fe_X12_takeNumber 28) (fun _ _ => rfl) ?_
      refine t_go (op := o_getI 32 11 8) (fe_X12_takeNumber 29) (g_getI hS (show (lay 183).1 = 11 by decide) (by decide)) ?_
      rw [AT_8]
      refine t_ite (op := o_if 70 35 (fun x => x = 0) (fun _ => inferInstance)) (fe_X12_takeNumber 32) g_if (fun c3 => ?_) (fun c3 => ?_)
      · refine t_go (op := o_aload 36 0) (fe_X12_takeNumber 35) (fun _ _ => rfl) ?_
        refine t_go (op := o_getR 39 11 6) (fe_X12_takeNumber 36) (g_getR hS (show (lay 183).1 = 11 by decide) (by decide) (fr_11_6 hS) (by decide)) ?_
        refine t_go (op := o_aload 40 0) (fe_X12_takeNumber 39) (fun _ _ => rfl) ?_
        refine t_go (op := o_getI 43 11 7) (fe_X12_takeNumber 40) (g_getI hS (show (lay 183).1 = 11 by decide) (by decide)) ?_
        rw [AT_7]
        refine t_go (op := o_lald 44) (fe_X12_takeNumber 43) (g_laldN hS (show lay 187 = (21, 1002) by decide) rfl (by omega) (by decide)) ?_
        rw [show (AT h i f).2.1 187 i = lN (TK i).2.2.1 from (hR.2.1 i hi).2.2.2 (Or.inl (hs c2))]
        refine t_go (op := o_iload 45 1) (fe_X12_takeNumber 44) (fun _ _ => rfl) ?_
        refine t_go (op := o_i2l 46) (fe_X12_takeNumber 45) (fun _ _ => rfl) ?_
        rw [show Int32.toInt64 (nI lo) = lN lo from nI_l (by omega)]
        refine t_go (op := o_lcmp 47) (fe_X12_takeNumber 46) (fun _ _ => rfl) ?_
        refine t_ite (op := o_if 50 65 (fun x => x < 0) (fun _ => inferInstance)) (fe_X12_takeNumber 47) g_if (fun c4 => ?_) (fun c4 => ?_)
        · refine t_go (op := o_aload 66 0) (fe_X12_takeNumber 65) (fun _ _ => rfl) ?_
          refine t_go (op := o_ci 67 4) (fe_X12_takeNumber 66) (fun _ _ => rfl) ?_
          refine t_call (op := o_callV 70 166 2 11) (fe_X12_takeNumber 67) (g_callV hS (show (lay 183).1 = 11 by decide) (by decide) rfl rfl rfl (Nat.le_of_ble_eq_true rfl)) ?_
          refine M_eq (r_wrong (c := 4) hR hi hf) ?_
          refine t_go (op := o_aload 71 0) (fe_X12_takeNumber 70) (fun _ _ => rfl) ?_
          refine t_go (op := o_getI 74 11 8) (fe_X12_takeNumber 71) (g_getI hS (show (lay 183).1 = 11 by decide) (by decide)) ?_
          rw [AT_8]
          refine t_ite (op := o_if 77 79 (fun x => x ≤ 0) (fun _ => inferInstance)) (fe_X12_takeNumber 74) g_if (fun c5 => ?_) (fun c5 => ?_)
          · exact absurd ((le_0 (wrF_b hR.2.2.2.1 hf (by decide))).mp c5) (by rw [(f_0 hf).mp c1]; exact wrF_p (by decide))
          · refine t_go (op := o_ci 78 0) (fe_X12_takeNumber 77) (fun _ _ => rfl) ?_
            refine t_ret (op := o_iret) (fe_X12_takeNumber 78) (fun _ _ => rfl) ?_
            exact ⟨fun q => absurd ((cmp_lt hb1 hb2).mp c4) (by have := q.2.2.1; omega), fun _ => ⟨rfl, by rw [if_pos (hs c2)]⟩⟩
        · refine t_go (op := o_aload 51 0) (fe_X12_takeNumber 50) (fun _ _ => rfl) ?_
          refine t_go (op := o_getR 54 11 6) (fe_X12_takeNumber 51) (g_getR hS (show (lay 183).1 = 11 by decide) (by decide) (fr_11_6 hS) (by decide)) ?_
          refine t_go (op := o_aload 55 0) (fe_X12_takeNumber 54) (fun _ _ => rfl) ?_
          refine t_go (op := o_getI 58 11 7) (fe_X12_takeNumber 55) (g_getI hS (show (lay 183).1 = 11 by decide) (by decide)) ?_
          rw [AT_7]
          refine t_go (op := o_lald 59) (fe_X12_takeNumber 58) (g_laldN hS (show lay 187 = (21, 1002) by decide) rfl (by omega) (by decide)) ?_
          rw [show (AT h i f).2.1 187 i = lN (TK i).2.2.1 from (hR.2.1 i hi).2.2.2 (Or.inl (hs c2))]
          refine t_go (op := o_iload 60 2) (fe_X12_takeNumber 59) (fun _ _ => rfl) ?_
          refine t_go (op := o_i2l 61) (fe_X12_takeNumber 60) (fun _ _ => rfl) ?_
          rw [show Int32.toInt64 (nI hi2) = lN hi2 from nI_l (by omega)]
          refine t_go (op := o_lcmp 62) (fe_X12_takeNumber 61) (fun _ _ => rfl) ?_
          refine t_ite (op := o_if 65 70 (fun x => x ≤ 0) (fun _ => inferInstance)) (fe_X12_takeNumber 62) g_if (fun c6 => ?_) (fun c6 => ?_)
          · refine t_go (op := o_aload 71 0) (fe_X12_takeNumber 70) (fun _ _ => rfl) ?_
            refine t_go (op := o_getI 74 11 8) (fe_X12_takeNumber 71) (g_getI hS (show (lay 183).1 = 11 by decide) (by decide)) ?_
            rw [AT_8]
            refine t_ite (op := o_if 77 79 (fun x => x ≤ 0) (fun _ => inferInstance)) (fe_X12_takeNumber 74) g_if (fun c7 => ?_) (fun c7 => ?_)
            · refine t_go (op := o_aload 80 0) (fe_X12_takeNumber 79) (fun _ _ => rfl) ?_
              refine t_go (op := o_dupA 81) (fe_X12_takeNumber 80) (fun _ _ => rfl) ?_
              refine t_go (op := o_getI 84 11 7) (fe_X12_takeNumber 81) (g_getI hS (show (lay 183).1 = 11 by decide) (by decide)) ?_
              rw [AT_7]
              refine t_go (op := o_ci 85 1) (fe_X12_takeNumber 84) (fun _ _ => rfl) ?_
              refine t_go (op := o_i2 86 (fun x y => x + y)) (fe_X12_takeNumber 85) (fun _ _ => rfl) ?_
              refine t_go (op := o_putI 89 11 7) (fe_X12_takeNumber 86) (g_putI hS (show (lay 183).1 = 11 by decide) (by decide)) ?_
              refine T_heap (((congrArg (sI (AT h i f) 183 7) (show (fun x y : Int32 => x + y) (nI i) 1 = nI (i + 1) from nI_1 i)).trans AT_7s)).symm ?_
              refine t_go (op := o_aload 90 0) (fe_X12_takeNumber 89) (fun _ _ => rfl) ?_
              refine t_go (op := o_getR 93 11 6) (fe_X12_takeNumber 90) (g_getR hS (show (lay 183).1 = 11 by decide) (by decide) (fr_11_6 hS) (by decide)) ?_
              refine t_go (op := o_aload 94 0) (fe_X12_takeNumber 93) (fun _ _ => rfl) ?_
              refine t_go (op := o_getI 97 11 7) (fe_X12_takeNumber 94) (g_getI hS (show (lay 183).1 = 11 by decide) (by decide)) ?_
              rw [AT_7]
              refine t_go (op := o_ci 98 1) (fe_X12_takeNumber 97) (fun _ _ => rfl) ?_
              refine t_go (op := o_i2 99 (fun x y => x - y)) (fe_X12_takeNumber 98) (fun _ _ => rfl) ?_
              refine t_go (op := o_lald 100) (fe_X12_takeNumber 99) (g_laldN hS (show lay 187 = (21, 1002) by decide) (nIs rfl (nIl 1) (by omega)) (by omega) (by decide)) ?_
              rw [show (AT h (i + 1) f).2.1 187 (i + 1 - 1) = lN (TK i).2.2.1 from (hR.2.1 i hi).2.2.2 (Or.inl (hs c2))]
              refine t_go (op := o_l2i 101) (fe_X12_takeNumber 100) (fun _ _ => rfl) ?_
              refine t_ret (op := o_iret) (fe_X12_takeNumber 101) (fun _ _ => rfl) ?_
              exact ⟨fun _ => ⟨congrArg (fun z => some (Value.int z)) (lN_i _), rfl⟩, fun q => absurd ⟨(f_0 hf).mp c1, hs c2, Nat.le_of_not_lt fun q2 => c4 ((cmp_lt hb1 hb2).mpr q2), (cmp_le hb1 hb3).mp c6⟩ q⟩
            · exact absurd ((le_0 hf).mpr ((f_0 hf).mp c1)) c7
          · refine t_go (op := o_aload 66 0) (fe_X12_takeNumber 65) (fun _ _ => rfl) ?_
            refine t_go (op := o_ci 67 4) (fe_X12_takeNumber 66) (fun _ _ => rfl) ?_
            refine t_call (op := o_callV 70 166 2 11) (fe_X12_takeNumber 67) (g_callV hS (show (lay 183).1 = 11 by decide) (by decide) rfl rfl rfl (Nat.le_of_ble_eq_true rfl)) ?_
            refine M_eq (r_wrong (c := 4) hR hi hf) ?_
            refine t_go (op := o_aload 71 0) (fe_X12_takeNumber 70) (fun _ _ => rfl) ?_
            refine t_go (op := o_getI 74 11 8) (fe_X12_takeNumber 71) (g_getI hS (show (lay 183).1 = 11 by decide) (by decide)) ?_
            rw [AT_8]
            refine t_ite (op := o_if 77 79 (fun x => x ≤ 0) (fun _ => inferInstance)) (fe_X12_takeNumber 74) g_if (fun c8 => ?_) (fun c8 => ?_)
            · exact absurd ((le_0 (wrF_b hR.2.2.2.1 hf (by decide))).mp c8) (by rw [(f_0 hf).mp c1]; exact wrF_p (by decide))
            · refine t_go (op := o_ci 78 0) (fe_X12_takeNumber 77) (fun _ _ => rfl) ?_
              refine t_ret (op := o_iret) (fe_X12_takeNumber 78) (fun _ _ => rfl) ?_
              exact ⟨fun q => absurd ((cmp_le hb1 hb3).mpr q.2.2.2) c6, fun _ => ⟨rfl, by rw [if_pos (hs c2)]⟩⟩
      · exact absurd c1 c3
    · refine t_go (op := o_aload 21 0) (fe_X12_takeNumber 20) (fun _ _ => rfl) ?_
      refine t_go (op := o_ci 22 1) (fe_X12_takeNumber 21) (fun _ _ => rfl) ?_
      refine t_call (op := o_callV 25 166 2 11) (fe_X12_takeNumber 22) (g_callV hS (show (lay 183).1 = 11 by decide) (by decide) rfl rfl rfl (Nat.le_of_ble_eq_true rfl)) ?_
      refine M_eq (r_wrong (c := 1) hR hi hf) ?_
      refine t_go (op := o_goto 70) (fe_X12_takeNumber 25) (fun _ _ => rfl) ?_
      refine t_go (op := o_aload 71 0) (fe_X12_takeNumber 70) (fun _ _ => rfl) ?_
      refine t_go (op := o_getI 74 11 8) (fe_X12_takeNumber 71) (g_getI hS (show (lay 183).1 = 11 by decide) (by decide)) ?_
      rw [AT_8]
      refine t_ite (op := o_if 77 79 (fun x => x ≤ 0) (fun _ => inferInstance)) (fe_X12_takeNumber 74) g_if (fun c9 => ?_) (fun c9 => ?_)
      · exact absurd ((le_0 (wrF_b hR.2.2.2.1 hf (by decide))).mp c9) (by rw [(f_0 hf).mp c1]; exact wrF_p (by decide))
      · refine t_go (op := o_ci 78 0) (fe_X12_takeNumber 77) (fun _ _ => rfl) ?_
        refine t_ret (op := o_iret) (fe_X12_takeNumber 78) (fun _ _ => rfl) ?_
        exact ⟨fun q => absurd (show nI (TK i).1 = 2 by rw [q.2.1]; rfl) c2, fun _ => ⟨rfl, by rw [if_neg (fun q => c2 (by rw [q]; rfl))]⟩⟩
  · refine t_go (op := o_aload 29 0) (fe_X12_takeNumber 28) (fun _ _ => rfl) ?_
    refine t_go (op := o_getI 32 11 8) (fe_X12_takeNumber 29) (g_getI hS (show (lay 183).1 = 11 by decide) (by decide)) ?_
    rw [AT_8]
    refine t_ite (op := o_if 70 35 (fun x => x = 0) (fun _ => inferInstance)) (fe_X12_takeNumber 32) g_if (fun c10 => ?_) (fun c10 => ?_)
    · exact absurd c10 c1
    · refine t_go (op := o_aload 71 0) (fe_X12_takeNumber 70) (fun _ _ => rfl) ?_
      refine t_go (op := o_getI 74 11 8) (fe_X12_takeNumber 71) (g_getI hS (show (lay 183).1 = 11 by decide) (by decide)) ?_
      rw [AT_8]
      refine t_ite (op := o_if 77 79 (fun x => x ≤ 0) (fun _ => inferInstance)) (fe_X12_takeNumber 74) g_if (fun c11 => ?_) (fun c11 => ?_)
      · exact absurd ((le_0 hf).mp c11) (fun q => c1 ((f_0 hf).mpr q))
      · refine t_go (op := o_ci 78 0) (fe_X12_takeNumber 77) (fun _ _ => rfl) ?_
        refine t_ret (op := o_iret) (fe_X12_takeNumber 78) (fun _ _ => rfl) ?_
        exact ⟨fun q => absurd ((f_0 hf).mpr q.1) c1, fun _ => ⟨rfl, by rw [wrF, if_neg (fun q => c1 ((f_0 hf).mpr q))]⟩⟩
theorem r_emit {d : Nat} {h : AHP} (hS : Std h) {q : Nat} (hc : h.1 183 13 = nI q) (hq : q < 1100) {a b : Int32} : MM d 188 [.ref 183, .int a, .int b] h (fun v h2 => v = none ∧ h2 = sI (sI (sI h 190 (1100 + q) a) 191 (1100 + q) b) 183 13 (nI (q + 1))) := by
  refine ⟨Nat.le_of_ble_eq_true rfl, ?_⟩
  refine t_go (op := o_aload 1 0) (fe_X12_emit 0) (fun _ _ => rfl) ?_
  refine t_go (op := o_getR 4 11 11) (fe_X12_emit 1) (g_getR hS (show (lay 183).1 = 11 by decide) (by decide) (fr_11_11 hS) (by decide)) ?_
  refine t_go (op := o_ci 7 1100) (fe_X12_emit 4) (fun _ _ => rfl) ?_
  refine t_go (op := o_aload 8 0) (fe_X12_emit 7) (fun _ _ => rfl) ?_
  refine t_go (op := o_getI 11 11 13) (fe_X12_emit 8) (g_getI hS (show (lay 183).1 = 11 by decide) (by decide)) ?_
  rw [hc]
  refine t_go (op := o_i2 12 (fun x y => x + y)) (fe_X12_emit 11) (fun _ _ => rfl) ?_
  refine t_go (op := o_iload 13 1) (fe_X12_emit 12) (fun _ _ => rfl) ?_
  refine t_go (op := o_iast 14) (fe_X12_emit 13) (g_iastN hS (show lay 190 = (20, 2200) by decide) (nIa (nIl 1100) rfl) (by omega) (by decide)) ?_
  refine t_go (op := o_aload 15 0) (fe_X12_emit 14) (fun _ _ => rfl) ?_
  refine t_go (op := o_getR 18 11 12) (fe_X12_emit 15) (g_getR hS (show (lay 183).1 = 11 by decide) (by decide) (fr_11_12 hS) (by decide)) ?_
  refine t_go (op := o_ci 21 1100) (fe_X12_emit 18) (fun _ _ => rfl) ?_
  refine t_go (op := o_aload 22 0) (fe_X12_emit 21) (fun _ _ => rfl) ?_
  refine t_go (op := o_getI 25 11 13) (fe_X12_emit 22) (g_getI hS (show (lay 183).1 = 11 by decide) (by decide)) ?_
  rw [show (sI h 190 (1100 + q) a).1 183 13 = nI q from (congrFun (sI_ne (by decide)) 13).trans hc]
  refine t_go (op := o_i2 26 (fun x y => x + y)) (fe_X12_emit 25) (fun _ _ => rfl) ?_
  refine t_go (op := o_iload 27 2) (fe_X12_emit 26) (fun _ _ => rfl) ?_
  refine t_go (op := o_iast 28) (fe_X12_emit 27) (g_iastN hS (show lay 191 = (20, 2200) by decide) (nIa (nIl 1100) rfl) (by omega) (by decide)) ?_
  refine t_go (op := o_aload 29 0) (fe_X12_emit 28) (fun _ _ => rfl) ?_
  refine t_go (op := o_dupA 30) (fe_X12_emit 29) (fun _ _ => rfl) ?_
  refine t_go (op := o_getI 33 11 13) (fe_X12_emit 30) (g_getI hS (show (lay 183).1 = 11 by decide) (by decide)) ?_
  rw [show (sI (sI h 190 (1100 + q) a) 191 (1100 + q) b).1 183 13 = nI q from (congrFun (sI_ne (by decide)) 13).trans ((congrFun (sI_ne (by decide)) 13).trans hc)]
  refine t_go (op := o_ci 34 1) (fe_X12_emit 33) (fun _ _ => rfl) ?_
  refine t_go (op := o_i2 35 (fun x y => x + y)) (fe_X12_emit 34) (fun _ _ => rfl) ?_
  refine t_go (op := o_putI 38 11 13) (fe_X12_emit 35) (g_putI hS (show (lay 183).1 = 11 by decide) (by decide)) ?_
  refine t_ret (op := o_vret) (fe_X12_emit 38) (fun _ _ => rfl) ?_
  exact ⟨rfl, congrArg (sI (sI (sI h 190 (1100 + q) a) 191 (1100 + q) b) 183 13) (nI_1 q)⟩
theorem r_isName {d : Nat} {h : AHP} {TK : Nat → Tk} {n i f : Nat} (hR : RQ h TK n) (hi : i ≤ n) (hf : f < 100000) : MM (d + 2) 179 [.ref 183] (AT h i f) (fun v h2 => v = some (.int (b2i (f = 0 ∧ (TK i).1 = 1 ∧ 19 ≤ (TK i).2.2.1))) ∧ h2 = AT h i f) := by
  refine ⟨Nat.le_of_ble_eq_true rfl, ?_⟩
  have hS := hR.1
  have hn := hR.2.2.1
  have hs : nI (TK i).1 = 1 → (TK i).1 = 1 := fun q => (nI_eq (b := 1) (by have := (hR.2.2.2.1 i).1; omega) (by decide)).mp q
  refine t_go (op := o_aload 1 0) (fe_X12_isName 0) (fun _ _ => rfl) ?_
  refine t_go (op := o_getI 4 11 8) (fe_X12_isName 1) (g_getI hS (show (lay 183).1 = 11 by decide) (by decide)) ?_
  rw [AT_8]
  refine t_ite (op := o_if 34 7 (fun x => x = 0) (fun _ => inferInstance)) (fe_X12_isName 4) g_if (fun c1 => ?_) (fun c1 => ?_)
  · refine t_go (op := o_aload 8 0) (fe_X12_isName 7) (fun _ _ => rfl) ?_
    refine t_go (op := o_getR 11 11 4) (fe_X12_isName 8) (g_getR hS (show (lay 183).1 = 11 by decide) (by decide) (fr_11_4 hS) (by decide)) ?_
    refine t_go (op := o_aload 12 0) (fe_X12_isName 11) (fun _ _ => rfl) ?_
    refine t_go (op := o_getI 15 11 7) (fe_X12_isName 12) (g_getI hS (show (lay 183).1 = 11 by decide) (by decide)) ?_
    rw [AT_7]
    refine t_go (op := o_iald 16) (fe_X12_isName 15) (g_ialdN hS (show lay 185 = (20, 1002) by decide) rfl (by omega) (by decide)) ?_
    rw [show (AT h i f).1 185 i = nI (TK i).1 from (congrFun (AT_r (by decide)) i).trans (hR.2.1 i hi).1]
    refine t_go (op := o_ci 17 1) (fe_X12_isName 16) (fun _ _ => rfl) ?_
    refine t_ite (op := o_icmp 34 20 (fun x y => x = y) (fun _ _ => inferInstance)) (fe_X12_isName 17) g_icmp (fun c2 => ?_) (fun c2 => ?_)
    · refine t_go (op := o_aload 21 0) (fe_X12_isName 20) (fun _ _ => rfl) ?_
      refine t_go (op := o_ci 22 0) (fe_X12_isName 21) (fun _ _ => rfl) ?_
      refine t_go (op := o_ci 24 19) (fe_X12_isName 22) (fun _ _ => rfl) ?_
      refine t_call (op := o_callV 27 177 3 11) (fe_X12_isName 24) (g_callV hS (show (lay 183).1 = 11 by decide) (by decide) rfl rfl rfl (Nat.le_of_ble_eq_true rfl)) ?_
      refine M_eq (r_wordHere (b := 0) (cnt := 19) hR hi hf (by decide)) ?_
      refine t_ite (op := o_if 30 34 (fun x => 0 ≤ x) (fun _ => inferInstance)) (fe_X12_isName 27) g_if (fun c3 => ?_) (fun c3 => ?_)
      · refine t_go (op := o_ci 35 0) (fe_X12_isName 34) (fun _ _ => rfl) ?_
        refine t_ret (op := o_zret) (fe_X12_isName 35) (g_zret (Or.inl rfl)) ?_
        have hw := (whV_n (hR.2.2.2.1 i)).mp c3
        exact ⟨congrArg (fun z => some (Value.int z)) (b2i_f (fun q => by have := hw.2.2; omega)).symm, rfl⟩
      · refine t_go (op := o_ci 31 1) (fe_X12_isName 30) (fun _ _ => rfl) ?_
        refine t_go (op := o_goto 35) (fe_X12_isName 31) (fun _ _ => rfl) ?_
        refine t_ret (op := o_zret) (fe_X12_isName 35) (g_zret (Or.inr rfl)) ?_
        have hw := fun q => c3 ((whV_n (hR.2.2.2.1 i)).mpr q)
        exact ⟨congrArg (fun z => some (Value.int z)) (b2i_t ⟨(f_0 hf).mp c1, hs c2, Nat.le_of_not_lt fun q => hw ⟨(f_0 hf).mp c1, hs c2, Nat.zero_le _, by omega⟩⟩).symm, rfl⟩
    · refine t_go (op := o_ci 35 0) (fe_X12_isName 34) (fun _ _ => rfl) ?_
      refine t_ret (op := o_zret) (fe_X12_isName 35) (g_zret (Or.inl rfl)) ?_
      exact ⟨congrArg (fun z => some (Value.int z)) (b2i_f (fun q => c2 (by rw [q.2.1]; rfl))).symm, rfl⟩
  · refine t_go (op := o_ci 35 0) (fe_X12_isName 34) (fun _ _ => rfl) ?_
    refine t_ret (op := o_zret) (fe_X12_isName 35) (g_zret (Or.inl rfl)) ?_
    exact ⟨congrArg (fun z => some (Value.int z)) (b2i_f (fun q => c1 ((f_0 hf).mpr q.1))).symm, rfl⟩
