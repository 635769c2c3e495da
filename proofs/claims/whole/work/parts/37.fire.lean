/-! ===== halls, copies ===== -/
noncomputable def wideS (F : FS) (hall : Int32) (e : Nat) (s : Int32) : Int32 := @ite _ (bitI hall (nI e)) (Classical.propDecidable _) (s ||| touchB F (nI e)) s
noncomputable def hallS (F : FS) (_ : Nat) (s : Int32) : Int32 := it (wideS F s) 7 0 s
noncomputable def hallB (F : FS) (e : Int32) : Int32 := @ite _ (hasF F e) (Classical.propDecidable _) (it (hallS F) 6 1 (1 <<< (e &&& 31))) 0
theorem l_hang1 {d : Nat} {h : AHP} {f : Nat} {F : FS} {hall y : Int32} {x1 : Option Value} (hS : Std h) (hf : (lay f).1 = 1)  {Q : Option Value → AHP → Prop} : ∀ (j i : Nat) (S : Int32), i + j = 7 → TT (d + 3) 25 62 [some (.ref f), x1, some (.int hall), some (.int y), some (.int (it (wideS F hall) j i S)), some (.int (nI 7))] [] (setF h f F) Q → TT (d + 3) 25 28 [some (.ref f), x1, some (.int hall), some (.int y), some (.int S), some (.int (nI i))] [] (setF h f F) Q := by
  intro j
  induction j with
  | zero =>
    intro i S hi  hq
    have hN : i = 7 := by omega
    refine t_go (op := o_iload 30 5) (fe_X1_hangingWith 28) (fun _ _ => rfl) ?_
    refine t_go (op := o_ci 32 7) (fe_X1_hangingWith 30) (fun _ _ => rfl) ?_
    refine t_ite (op := o_icmp 35 62 (fun x y => y ≤ x) (fun _ _ => inferInstance)) (fe_X1_hangingWith 32) g_icmp (fun c1 => ?_) (fun c1 => ?_)
    · rw [hN]
      exact hq
    · exact absurd (by rw [hN]; exact Int32.le_refl _) c1
  | succ j ih =>
    intro i S hi  hq
    have hb : inb (nI i) 7 := inb_n (by omega) (by decide)
    refine t_go (op := o_iload 30 5) (fe_X1_hangingWith 28) (fun _ _ => rfl) ?_
    refine t_go (op := o_ci 32 7) (fe_X1_hangingWith 30) (fun _ _ => rfl) ?_
    refine t_ite (op := o_icmp 35 62 (fun x y => y ≤ x) (fun _ _ => inferInstance)) (fe_X1_hangingWith 32) g_icmp (fun c1 => ?_) (fun c1 => ?_)
    · exact absurd c1 (nI_ge (show i < 7 by omega) (by decide))
    · refine t_go (op := o_iload 36 2) (fe_X1_hangingWith 35) (fun _ _ => rfl) ?_
      refine t_go (op := o_iload 38 5) (fe_X1_hangingWith 36) (fun _ _ => rfl) ?_
      refine t_go (op := o_i2 39 (fun x y => x >>> (y &&& 31))) (fe_X1_hangingWith 38) (fun _ _ => rfl) ?_
      refine t_go (op := o_ci 40 1) (fe_X1_hangingWith 39) (fun _ _ => rfl) ?_
      refine t_go (op := o_i2 41 (fun x y => x &&& y)) (fe_X1_hangingWith 40) (fun _ _ => rfl) ?_
      refine t_go (op := o_ci 42 1) (fe_X1_hangingWith 41) (fun _ _ => rfl) ?_
      refine t_ite (op := o_icmp 56 45 (fun x y => x = y) (fun _ _ => inferInstance)) (fe_X1_hangingWith 42) g_icmp (fun c2 => ?_) (fun c2 => ?_)
      · refine t_go (op := o_iload 47 4) (fe_X1_hangingWith 45) (fun _ _ => rfl) ?_
        refine t_go (op := o_aload 48 0) (fe_X1_hangingWith 47) (fun _ _ => rfl) ?_
        refine t_go (op := o_iload 50 5) (fe_X1_hangingWith 48) (fun _ _ => rfl) ?_
        refine t_call (op := o_callV 53 24 2 1) (fe_X1_hangingWith 50) (g_callV hS hf (by decide) rfl rfl rfl (Nat.le_of_ble_eq_true rfl)) ?_
        refine M_mono ?_ (m_touching hS hf)
        rintro v h2 ⟨q1, q2⟩
        rw [q1, q2]; clear q1 q2 v h2
        refine t_go (op := o_i2 54 (fun x y => x ||| y)) (fe_X1_hangingWith 53) (fun _ _ => rfl) ?_
        refine t_go (op := o_istore 56 4) (fe_X1_hangingWith 54) (fun _ _ => rfl) ?_
        refine t_go (op := o_iinc 59 5 1) (fe_X1_hangingWith 56) (fun _ _ => rfl) ?_
        refine t_go (op := o_goto 28) (fe_X1_hangingWith 59) (fun _ _ => rfl) ?_
        have hs : wideS F hall i S = _ := if_pos c2
        have hq2 : TT (d + 3) 25 62 [some (.ref f), x1, some (.int hall), some (.int y), some (.int (it (wideS F hall) j (i + 1) (wideS F hall i S))), some (.int (nI 7))] [] (setF h f F) Q := hq
        rw [hs] at hq2
        rw [nI_1]
        exact ih (i + 1) _ (by omega) hq2
      · refine t_go (op := o_iinc 59 5 1) (fe_X1_hangingWith 56) (fun _ _ => rfl) ?_
        refine t_go (op := o_goto 28) (fe_X1_hangingWith 59) (fun _ _ => rfl) ?_
        have hs : wideS F hall i S = _ := if_neg c2
        have hq2 : TT (d + 3) 25 62 [some (.ref f), x1, some (.int hall), some (.int y), some (.int (it (wideS F hall) j (i + 1) (wideS F hall i S))), some (.int (nI 7))] [] (setF h f F) Q := hq
        rw [hs] at hq2
        rw [nI_1]
        exact ih (i + 1) _ (by omega) hq2
theorem l_hang2 {d : Nat} {h : AHP} {f : Nat} {F : FS} {e : Int32} (hS : Std h) (hf : (lay f).1 = 1)  {Q : Option Value → AHP → Prop} : ∀ (j i : Nat) (S : Int32) (x4 x5 : Option Value), i + j = 7 → Q (some (.int (it (hallS F) j i S))) (setF h f F) → TT (d + 3) 25 16 [some (.ref f), some (.int e), some (.int S), some (.int (nI i)), x4, x5] [] (setF h f F) Q := by
  intro j
  induction j with
  | zero =>
    intro i S x4 x5 hi  hq
    have hN : i = 7 := by omega
    refine t_go (op := o_iload 17 3) (fe_X1_hangingWith 16) (fun _ _ => rfl) ?_
    refine t_go (op := o_ci 19 7) (fe_X1_hangingWith 17) (fun _ _ => rfl) ?_
    refine t_ite (op := o_icmp 22 71 (fun x y => y ≤ x) (fun _ _ => inferInstance)) (fe_X1_hangingWith 19) g_icmp (fun c1 => ?_) (fun c1 => ?_)
    · refine t_go (op := o_iload 72 2) (fe_X1_hangingWith 71) (fun _ _ => rfl) ?_
      refine t_ret (op := o_iret) (fe_X1_hangingWith 72) (fun _ _ => rfl) ?_
      exact hq
    · exact absurd (by rw [hN]; exact Int32.le_refl _) c1
  | succ j ih =>
    intro i S x4 x5 hi  hq
    have hb : inb (nI i) 7 := inb_n (by omega) (by decide)
    refine t_go (op := o_iload 17 3) (fe_X1_hangingWith 16) (fun _ _ => rfl) ?_
    refine t_go (op := o_ci 19 7) (fe_X1_hangingWith 17) (fun _ _ => rfl) ?_
    refine t_ite (op := o_icmp 22 71 (fun x y => y ≤ x) (fun _ _ => inferInstance)) (fe_X1_hangingWith 19) g_icmp (fun c1 => ?_) (fun c1 => ?_)
    · exact absurd c1 (nI_ge (show i < 7 by omega) (by decide))
    · refine t_go (op := o_iload 23 2) (fe_X1_hangingWith 22) (fun _ _ => rfl) ?_
      refine t_go (op := o_istore 25 4) (fe_X1_hangingWith 23) (fun _ _ => rfl) ?_
      refine t_go (op := o_ci 26 0) (fe_X1_hangingWith 25) (fun _ _ => rfl) ?_
      refine t_go (op := o_istore 28 5) (fe_X1_hangingWith 26) (fun _ _ => rfl) ?_
      refine l_hang1 hS hf 7 0 S rfl ?_
      refine t_go (op := o_iload 64 4) (fe_X1_hangingWith 62) (fun _ _ => rfl) ?_
      refine t_go (op := o_istore 65 2) (fe_X1_hangingWith 64) (fun _ _ => rfl) ?_
      refine t_go (op := o_iinc 68 3 1) (fe_X1_hangingWith 65) (fun _ _ => rfl) ?_
      refine t_go (op := o_goto 16) (fe_X1_hangingWith 68) (fun _ _ => rfl) ?_
      rw [nI_1]
      exact ih (i + 1) _ _ _ (by omega) hq
theorem m_hangingWith {d : Nat} {h : AHP} {f : Nat} {F : FS} {e : Int32} (hS : Std h) (hf : (lay f).1 = 1)  : MM (d + 3) 25 [.ref f, .int e] (setF h f F) (fun v h2 => v = some (.int (hallB F e)) ∧ h2 = (setF h f F)) := by
  refine ⟨Nat.le_of_ble_eq_true rfl, ?_⟩
  refine t_go (op := o_aload 1 0) (fe_X1_hangingWith 0) (fun _ _ => rfl) ?_
  refine t_go (op := o_iload 2 1) (fe_X1_hangingWith 1) (fun _ _ => rfl) ?_
  refine t_call (op := o_callV 5 8 2 1) (fe_X1_hangingWith 2) (g_callV hS hf (by decide) rfl rfl rfl (Nat.le_of_ble_eq_true rfl)) ?_
  refine M_mono ?_ (n_has hS hf)
  rintro v h2 ⟨q1, q2⟩
  rw [q1, q2]; clear q1 q2 v h2
  refine t_ite (op := o_if 10 8 (fun x => x = 0) (fun _ => inferInstance)) (fe_X1_hangingWith 5) g_if (fun c1 => ?_) (fun c1 => ?_)
  · refine t_go (op := o_ci 9 0) (fe_X1_hangingWith 8) (fun _ _ => rfl) ?_
    refine t_ret (op := o_iret) (fe_X1_hangingWith 9) (fun _ _ => rfl) ?_
    exact ⟨by unfold hallB; rw [if_neg (b2i_ne.mp c1)], rfl⟩
  · refine t_go (op := o_ci 11 1) (fe_X1_hangingWith 10) (fun _ _ => rfl) ?_
    refine t_go (op := o_iload 12 1) (fe_X1_hangingWith 11) (fun _ _ => rfl) ?_
    refine t_go (op := o_i2 13 (fun x y => x <<< (y &&& 31))) (fe_X1_hangingWith 12) (fun _ _ => rfl) ?_
    refine t_go (op := o_istore 14 2) (fe_X1_hangingWith 13) (fun _ _ => rfl) ?_
    refine t_go (op := o_ci 15 1) (fe_X1_hangingWith 14) (fun _ _ => rfl) ?_
    refine t_go (op := o_istore 16 3) (fe_X1_hangingWith 15) (fun _ _ => rfl) ?_
    exact l_hang2 hS hf 6 1 _ _ _ rfl ⟨by unfold hallB; rw [if_pos (Classical.not_not.mp (fun q => c1 (b2i_f q)))], rfl⟩
theorem ash_rest {F : FS} {m : Int32} : ∀ (j i : Nat) (s : Int32), i + j ≤ 7 → m ≤ nI i → it (ashS F m) j i s = s := by
  intro j
  induction j with
  | zero => intro i s _ _; rfl
  | succ j ih =>
    intro i s hi hm
    have h1 : ashS F m i s = s := if_neg (fun q => q.1 hm)
    show it (ashS F m) j (i + 1) (ashS F m i s) = s
    rw [h1]
    exact ih (i + 1) s (by omega) (Int32.le_trans hm (nI_le (by omega) (by omega)))
theorem l_ashBits {d : Nat} {h : AHP} {f g : Nat} {F : FS} (hS : Std h) (hf : (lay f).1 = 1) (hg : (lay g).1 = 3)  {Q : Option Value → AHP → Prop} : ∀ (j i : Nat) (S : Int32), i + j = 7 → Q (some (.int (it (ashS F (h.1 g 4)) j i S))) (setF h f F) → TT (d + 1) 19 4 [some (.ref f), some (.ref g), some (.int S), some (.int (nI i))] [] (setF h f F) Q := by
  intro j
  induction j with
  | zero =>
    intro i S hi  hq
    have hN : i = 7 := by omega
    refine t_go (op := o_iload 5 3) (fe_X1_ashBits 4) (fun _ _ => rfl) ?_
    refine t_go (op := o_ci 7 7) (fe_X1_ashBits 5) (fun _ _ => rfl) ?_
    refine t_ite (op := o_icmp 10 38 (fun x y => y ≤ x) (fun _ _ => inferInstance)) (fe_X1_ashBits 7) g_icmp (fun c1 => ?_) (fun c1 => ?_)
    · refine t_go (op := o_iload 39 2) (fe_X1_ashBits 38) (fun _ _ => rfl) ?_
      refine t_ret (op := o_iret) (fe_X1_ashBits 39) (fun _ _ => rfl) ?_
      exact hq
    · exact absurd (by rw [hN]; exact Int32.le_refl _) c1
  | succ j ih =>
    intro i S hi  hq
    have hb : inb (nI i) 7 := inb_n (by omega) (by decide)
    refine t_go (op := o_iload 5 3) (fe_X1_ashBits 4) (fun _ _ => rfl) ?_
    refine t_go (op := o_ci 7 7) (fe_X1_ashBits 5) (fun _ _ => rfl) ?_
    refine t_ite (op := o_icmp 10 38 (fun x y => y ≤ x) (fun _ _ => inferInstance)) (fe_X1_ashBits 7) g_icmp (fun c1 => ?_) (fun c1 => ?_)
    · exact absurd c1 (nI_ge (show i < 7 by omega) (by decide))
    · refine t_go (op := o_iload 11 3) (fe_X1_ashBits 10) (fun _ _ => rfl) ?_
      refine t_go (op := o_aload 12 1) (fe_X1_ashBits 11) (fun _ _ => rfl) ?_
      refine t_go (op := o_getI 15 3 4) (fe_X1_ashBits 12) (g_getI hS hg (by decide)) ?_
      rw [setF_at (a := g) (by have := fire_grate2 hf hg; omega)]
      refine t_ite (op := o_icmp 18 38 (fun x y => y ≤ x) (fun _ _ => inferInstance)) (fe_X1_ashBits 15) g_icmp (fun c2 => ?_) (fun c2 => ?_)
      · refine t_go (op := o_iload 39 2) (fe_X1_ashBits 38) (fun _ _ => rfl) ?_
        refine t_ret (op := o_iret) (fe_X1_ashBits 39) (fun _ _ => rfl) ?_
        rw [ash_rest (j + 1) i S (by omega) c2] at hq
        exact hq
      · refine t_go (op := o_aload 19 0) (fe_X1_ashBits 18) (fun _ _ => rfl) ?_
        refine t_go (op := o_iload 20 3) (fe_X1_ashBits 19) (fun _ _ => rfl) ?_
        refine t_call (op := o_callV 23 8 2 1) (fe_X1_ashBits 20) (g_callV hS hf (by decide) rfl rfl rfl (Nat.le_of_ble_eq_true rfl)) ?_
        refine M_mono ?_ (n_has hS hf)
        rintro v h2 ⟨q1, q2⟩
        rw [q1, q2]; clear q1 q2 v h2
        refine t_ite (op := o_if 32 26 (fun x => x = 0) (fun _ => inferInstance)) (fe_X1_ashBits 23) g_if (fun c3 => ?_) (fun c3 => ?_)
        · refine t_go (op := o_iload 27 2) (fe_X1_ashBits 26) (fun _ _ => rfl) ?_
          refine t_go (op := o_ci 28 1) (fe_X1_ashBits 27) (fun _ _ => rfl) ?_
          refine t_go (op := o_iload 29 3) (fe_X1_ashBits 28) (fun _ _ => rfl) ?_
          refine t_go (op := o_i2 30 (fun x y => x <<< (y &&& 31))) (fe_X1_ashBits 29) (fun _ _ => rfl) ?_
          refine t_go (op := o_i2 31 (fun x y => x ||| y)) (fe_X1_ashBits 30) (fun _ _ => rfl) ?_
          refine t_go (op := o_istore 32 2) (fe_X1_ashBits 31) (fun _ _ => rfl) ?_
          refine t_go (op := o_iinc 35 3 1) (fe_X1_ashBits 32) (fun _ _ => rfl) ?_
          refine t_go (op := o_goto 4) (fe_X1_ashBits 35) (fun _ _ => rfl) ?_
          have hs : ashS F (h.1 g 4) i S = _ := if_pos ⟨c2, b2i_ne.mp c3⟩
          have hq2 : Q (some (.int (it (ashS F (h.1 g 4)) j (i + 1) (ashS F (h.1 g 4) i S)))) (setF h f F) := hq
          rw [hs] at hq2
          rw [nI_1]
          exact ih (i + 1) _ (by omega) hq2
        · refine t_go (op := o_iinc 35 3 1) (fe_X1_ashBits 32) (fun _ _ => rfl) ?_
          refine t_go (op := o_goto 4) (fe_X1_ashBits 35) (fun _ _ => rfl) ?_
          have hs : ashS F (h.1 g 4) i S = _ := if_neg (fun q => q.2 (Classical.not_not.mp (fun q => c3 (b2i_f q))))
          have hq2 : Q (some (.int (it (ashS F (h.1 g 4)) j (i + 1) (ashS F (h.1 g 4) i S)))) (setF h f F) := hq
          rw [hs] at hq2
          rw [nI_1]
          exact ih (i + 1) _ (by omega) hq2
theorem m_ashBits {d : Nat} {h : AHP} {f g : Nat} {F : FS} (hS : Std h) (hf : (lay f).1 = 1) (hg : (lay g).1 = 3)  : MM (d + 1) 19 [.ref f, .ref g] (setF h f F) (fun v h2 => v = some (.int (it (ashS F (h.1 g 4)) 7 0 0)) ∧ h2 = (setF h f F)) := by
  refine ⟨Nat.le_of_ble_eq_true rfl, ?_⟩
  refine t_go (op := o_ci 1 0) (fe_X1_ashBits 0) (fun _ _ => rfl) ?_
  refine t_go (op := o_istore 2 2) (fe_X1_ashBits 1) (fun _ _ => rfl) ?_
  refine t_go (op := o_ci 3 0) (fe_X1_ashBits 2) (fun _ _ => rfl) ?_
  refine t_go (op := o_istore 4 3) (fe_X1_ashBits 3) (fun _ _ => rfl) ?_
  exact l_ashBits hS hf hg 7 0 0 rfl ⟨rfl, rfl⟩
theorem setF_r1 {h : AHP} {f : Nat} {r : Nat → Int32} {F : FS} : rowI (setF h f F) (f + 1) r = setF h f (r, F.2) := by
  refine AHP_ext (fun a j => ?_) rfl
  simp only [rowI, row2, setF]
  by_cases e : a = f + 1
  · simp [e]
  · simp [e]
theorem setF_r2 {h : AHP} {f : Nat} {r : Nat → Int32} {F : FS} : rowI (setF h f F) (f + 2) r = setF h f (F.1, r, F.2.2) := by
  refine AHP_ext (fun a j => ?_) rfl
  simp only [rowI, row2, setF]
  by_cases e : a = f + 2
  · simp [e]
  · simp [e]
theorem setF_r3 {h : AHP} {f : Nat} {r : Nat → Int32} {F : FS} : rowI (setF h f F) (f + 3) r = setF h f (F.1, F.2.1, r, F.2.2.2) := by
  refine AHP_ext (fun a j => ?_) rfl
  simp only [rowI, row2, setF]
  by_cases e : a = f + 3
  · simp [e]
  · simp [e]
theorem setF_r4 {h : AHP} {f : Nat} {r : Nat → Int32} {F : FS} : rowI (setF h f F) (f + 4) r = setF h f (F.1, F.2.1, F.2.2.1, r, F.2.2.2.2) := by
  refine AHP_ext (fun a j => ?_) rfl
  simp only [rowI, row2, setF]
  by_cases e : a = f + 4
  · simp [e]
  · simp [e]
def becF (F G : FS) : FS := (va_cpy G.1 F.1 0 0 7, va_cpy G.2.1 F.2.1 0 0 7, va_cpy G.2.2.1 F.2.2.1 0 0 7, va_cpy G.2.2.2.1 F.2.2.2.1 0 0 12, G.2.2.2.2)
theorem m_become {d : Nat} {h : AHP} {f f2 : Nat} {F : FS} (hS : Std h) (hf : (lay f).1 = 1) (hf2 : (lay f2).1 = 1) (hd : f2 + 5 ≤ f ∨ f + 5 ≤ f2) (hz : h.1 f2 5 = 0 ∨ h.1 f2 5 = 1) : MM d 7 [.ref f, .ref f2] (setF h f F) (fun v h2 => v = none ∧ h2 = setF h f (becF F (fs h f2))) := by
  refine ⟨Nat.le_of_ble_eq_true rfl, ?_⟩
  refine t_go (op := o_aload 1 1) (fe_X1_become 0) (fun _ _ => rfl) ?_
  refine t_go (op := o_getR 4 1 0) (fe_X1_become 1) (g_getR hS hf2 (by decide) (fr_1_0 hS hf2) (Nat.succ_pos _)) ?_
  refine t_go (op := o_ci 5 0) (fe_X1_become 4) (fun _ _ => rfl) ?_
  refine t_go (op := o_aload 6 0) (fe_X1_become 5) (fun _ _ => rfl) ?_
  refine t_go (op := o_getR 9 1 0) (fe_X1_become 6) (g_getR hS hf (by decide) (fr_1_0 hS hf) (Nat.succ_pos _)) ?_
  refine t_go (op := o_ci 10 0) (fe_X1_become 9) (fun _ _ => rfl) ?_
  refine t_go (op := o_ci 12 7) (fe_X1_become 10) (fun _ _ => rfl) ?_
  refine t_go (op := o_acopy 15) (fe_X1_become 12) (g_acopy hS (ly_1_1 hf2) (ly_1_1 hf) ⟨by decide, by decide, by decide, by decide, by decide, Nat.le_of_ble_eq_true rfl⟩) ?_
  rw [setF_row (a := f2 + 1) (by omega), rd_1, setF_r1]
  refine t_go (op := o_aload 16 1) (fe_X1_become 15) (fun _ _ => rfl) ?_
  refine t_go (op := o_getR 19 1 1) (fe_X1_become 16) (g_getR hS hf2 (by decide) (fr_1_1 hS hf2) (Nat.succ_pos _)) ?_
  refine t_go (op := o_ci 20 0) (fe_X1_become 19) (fun _ _ => rfl) ?_
  refine t_go (op := o_aload 21 0) (fe_X1_become 20) (fun _ _ => rfl) ?_
  refine t_go (op := o_getR 24 1 1) (fe_X1_become 21) (g_getR hS hf (by decide) (fr_1_1 hS hf) (Nat.succ_pos _)) ?_
  refine t_go (op := o_ci 25 0) (fe_X1_become 24) (fun _ _ => rfl) ?_
  refine t_go (op := o_ci 27 7) (fe_X1_become 25) (fun _ _ => rfl) ?_
  refine t_go (op := o_acopy 30) (fe_X1_become 27) (g_acopy hS (ly_1_2 hf2) (ly_1_2 hf) ⟨by decide, by decide, by decide, by decide, by decide, Nat.le_of_ble_eq_true rfl⟩) ?_
  rw [setF_row (a := f2 + 2) (by omega), rd_2, setF_r2]
  refine t_go (op := o_aload 31 1) (fe_X1_become 30) (fun _ _ => rfl) ?_
  refine t_go (op := o_getR 34 1 2) (fe_X1_become 31) (g_getR hS hf2 (by decide) (fr_1_2 hS hf2) (Nat.succ_pos _)) ?_
  refine t_go (op := o_ci 35 0) (fe_X1_become 34) (fun _ _ => rfl) ?_
  refine t_go (op := o_aload 36 0) (fe_X1_become 35) (fun _ _ => rfl) ?_
  refine t_go (op := o_getR 39 1 2) (fe_X1_become 36) (g_getR hS hf (by decide) (fr_1_2 hS hf) (Nat.succ_pos _)) ?_
  refine t_go (op := o_ci 40 0) (fe_X1_become 39) (fun _ _ => rfl) ?_
  refine t_go (op := o_ci 42 7) (fe_X1_become 40) (fun _ _ => rfl) ?_
  refine t_go (op := o_acopy 45) (fe_X1_become 42) (g_acopy hS (ly_1_3 hf2) (ly_1_3 hf) ⟨by decide, by decide, by decide, by decide, by decide, Nat.le_of_ble_eq_true rfl⟩) ?_
  rw [setF_row (a := f2 + 3) (by omega), rd_3, setF_r3]
  refine t_go (op := o_aload 46 1) (fe_X1_become 45) (fun _ _ => rfl) ?_
  refine t_go (op := o_getR 49 1 3) (fe_X1_become 46) (g_getR hS hf2 (by decide) (fr_1_3 hS hf2) (Nat.succ_pos _)) ?_
  refine t_go (op := o_ci 50 0) (fe_X1_become 49) (fun _ _ => rfl) ?_
  refine t_go (op := o_aload 51 0) (fe_X1_become 50) (fun _ _ => rfl) ?_
  refine t_go (op := o_getR 54 1 3) (fe_X1_become 51) (g_getR hS hf (by decide) (fr_1_3 hS hf) (Nat.succ_pos _)) ?_
  refine t_go (op := o_ci 55 0) (fe_X1_become 54) (fun _ _ => rfl) ?_
  refine t_go (op := o_ci 57 12) (fe_X1_become 55) (fun _ _ => rfl) ?_
  refine t_go (op := o_acopy 60) (fe_X1_become 57) (g_acopy hS (ly_1_4 hf2) (ly_1_4 hf) ⟨by decide, by decide, by decide, by decide, by decide, Nat.le_of_ble_eq_true rfl⟩) ?_
  rw [setF_row (a := f2 + 4) (by omega), rd_4, setF_r4]
  refine t_go (op := o_aload 61 0) (fe_X1_become 60) (fun _ _ => rfl) ?_
  refine t_go (op := o_aload 62 1) (fe_X1_become 61) (fun _ _ => rfl) ?_
  refine t_go (op := o_getI 65 1 4) (fe_X1_become 62) (g_getI hS hf2 (by decide)) ?_
  rw [setF_at (a := f2) (by omega)]
  refine t_go (op := o_putI 68 1 4) (fe_X1_become 65) (g_putI hS hf (by decide)) ?_
  rw [setF_h]
  refine t_go (op := o_aload 69 0) (fe_X1_become 68) (fun _ _ => rfl) ?_
  refine t_go (op := o_aload 70 1) (fe_X1_become 69) (fun _ _ => rfl) ?_
  refine t_go (op := o_getI 73 1 5) (fe_X1_become 70) (g_getI hS hf2 (by decide)) ?_
  refine t_go (op := o_putZ 76 1 5) (fe_X1_become 73) (g_putZ hS hf (by decide) (by rw [setF_at (a := f2) (by omega)]; exact hz)) ?_
  refine t_ret (op := o_vret) (fe_X1_become 76) (fun _ _ => rfl) ?_
  rw [setF_at (a := f2) (by omega), setF_b]
  exact ⟨rfl, rfl⟩
noncomputable def layF (F : FS) (e c x y : Int32) : FS := @ite _ (¬ e < 0 ∧ ¬ 7 ≤ e ∧ freeF F c) (Classical.propDecidable _) (fup F.1 e.toNatClampNeg c, fup F.2.1 e.toNatClampNeg x, fup F.2.2.1 e.toNatClampNeg y, fup F.2.2.2.1 c.toNatClampNeg e, F.2.2.2.2) F
theorem m_lay {d : Nat} {h : AHP} {f : Nat} {F : FS} {e c x y : Int32} (hS : Std h) (hf : (lay f).1 = 1)  : MM (d + 1) 10 [.ref f, .int e, .int c, .int x, .int y] (setF h f F) (fun v h2 => v = none ∧ h2 = setF h f (layF F e c x y)) := by
  refine ⟨Nat.le_of_ble_eq_true rfl, ?_⟩
  refine t_go (op := o_iload 1 1) (fe_X1_lay 0) (fun _ _ => rfl) ?_
  refine t_ite (op := o_if 4 47 (fun x => x < 0) (fun _ => inferInstance)) (fe_X1_lay 1) g_if (fun c1 => ?_) (fun c1 => ?_)
  · refine t_ret (op := o_vret) (fe_X1_lay 47) (fun _ _ => rfl) ?_
    exact ⟨rfl, by unfold layF; rw [if_neg (fun q => q.1 c1)]⟩
  · refine t_go (op := o_iload 5 1) (fe_X1_lay 4) (fun _ _ => rfl) ?_
    refine t_go (op := o_ci 7 7) (fe_X1_lay 5) (fun _ _ => rfl) ?_
    refine t_ite (op := o_icmp 10 47 (fun x y => y ≤ x) (fun _ _ => inferInstance)) (fe_X1_lay 7) g_icmp (fun c2 => ?_) (fun c2 => ?_)
    · refine t_ret (op := o_vret) (fe_X1_lay 47) (fun _ _ => rfl) ?_
      exact ⟨rfl, by unfold layF; rw [if_neg (fun q => q.2.1 c2)]⟩
    · refine t_go (op := o_aload 11 0) (fe_X1_lay 10) (fun _ _ => rfl) ?_
      refine t_go (op := o_iload 12 2) (fe_X1_lay 11) (fun _ _ => rfl) ?_
      refine t_call (op := o_callV 15 9 2 1) (fe_X1_lay 12) (g_callV hS hf (by decide) rfl rfl rfl (Nat.le_of_ble_eq_true rfl)) ?_
      refine M_mono ?_ (n_isFree hS hf)
      rintro v h2 ⟨q1, q2⟩
      rw [q1, q2]; clear q1 q2 v h2
      refine t_ite (op := o_if 18 47 (fun x => x = 0) (fun _ => inferInstance)) (fe_X1_lay 15) g_if (fun c3 => ?_) (fun c3 => ?_)
      · refine t_ret (op := o_vret) (fe_X1_lay 47) (fun _ _ => rfl) ?_
        exact ⟨rfl, by unfold layF; rw [if_neg (fun q => b2i_ne.mp c3 q.2.2)]⟩
      · have hq := Classical.not_not.mp (fun q => c3 (b2i_f q))
        have hd := inb_1 hq.1 hq.2.1 (show (12 : Int32).toInt = (12 : Nat) by decide)
        refine t_go (op := o_aload 19 0) (fe_X1_lay 18) (fun _ _ => rfl) ?_
        refine t_go (op := o_getR 22 1 0) (fe_X1_lay 19) (g_getR hS hf (by decide) (fr_1_0 hS hf) (Nat.succ_pos _)) ?_
        refine t_go (op := o_iload 23 1) (fe_X1_lay 22) (fun _ _ => rfl) ?_
        refine t_go (op := o_iload 24 2) (fe_X1_lay 23) (fun _ _ => rfl) ?_
        refine t_go (op := o_iast 25) (fe_X1_lay 24) (g_iast hS (ly_1_1 hf) (by first | assumption | exact inb_1 ‹_› ‹_› (by decide))) ?_
        refine t_go (op := o_aload 26 0) (fe_X1_lay 25) (fun _ _ => rfl) ?_
        refine t_go (op := o_getR 29 1 3) (fe_X1_lay 26) (g_getR hS hf (by decide) (fr_1_3 hS hf) (Nat.succ_pos _)) ?_
        refine t_go (op := o_iload 30 2) (fe_X1_lay 29) (fun _ _ => rfl) ?_
        refine t_go (op := o_iload 31 1) (fe_X1_lay 30) (fun _ _ => rfl) ?_
        refine t_go (op := o_iast 32) (fe_X1_lay 31) (g_iast hS (ly_1_4 hf) hd) ?_
        refine t_go (op := o_aload 33 0) (fe_X1_lay 32) (fun _ _ => rfl) ?_
        refine t_go (op := o_getR 36 1 1) (fe_X1_lay 33) (g_getR hS hf (by decide) (fr_1_1 hS hf) (Nat.succ_pos _)) ?_
        refine t_go (op := o_iload 37 1) (fe_X1_lay 36) (fun _ _ => rfl) ?_
        refine t_go (op := o_iload 38 3) (fe_X1_lay 37) (fun _ _ => rfl) ?_
        refine t_go (op := o_iast 39) (fe_X1_lay 38) (g_iast hS (ly_1_2 hf) (by first | assumption | exact inb_1 ‹_› ‹_› (by decide))) ?_
        refine t_go (op := o_aload 40 0) (fe_X1_lay 39) (fun _ _ => rfl) ?_
        refine t_go (op := o_getR 43 1 2) (fe_X1_lay 40) (g_getR hS hf (by decide) (fr_1_2 hS hf) (Nat.succ_pos _)) ?_
        refine t_go (op := o_iload 44 1) (fe_X1_lay 43) (fun _ _ => rfl) ?_
        refine t_go (op := o_iload 46 4) (fe_X1_lay 44) (fun _ _ => rfl) ?_
        refine t_go (op := o_iast 47) (fe_X1_lay 46) (g_iast hS (ly_1_3 hf) (by first | assumption | exact inb_1 ‹_› ‹_› (by decide))) ?_
        refine t_ret (op := o_vret) (fe_X1_lay 47) (fun _ _ => rfl) ?_
        rw [setF_1, setF_4, setF_2, setF_3]
        exact ⟨rfl, by unfold layF; rw [if_pos ⟨c1, c2, hq⟩]⟩
