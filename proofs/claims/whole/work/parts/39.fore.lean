/-! ===== rows stay 0 beyond their lengths ===== -/
theorem inb_lt {i : Int32} {n : Nat} (h : inb i n) : i.toNatClampNeg < n := Nat.not_le.mp fun q => h (Or.inr q)
theorem NF_take {F : FS} {e : Int32} (hN : NF F) : NF (takeOutF F e) := by
  unfold takeOutF
  by_cases hp : hasF F e
  · rw [if_pos hp]
    have h1 := inb_lt (inb_1 hp.1 hp.2.1 (show (7 : Int32).toInt = (7 : Nat) by decide))
    have h2 := inb_lt (inb_1 hp.2.2.1 hp.2.2.2 (show (12 : Int32).toInt = (12 : Nat) by decide))
    refine ⟨fun i hi => ?_, fun i hi => ?_⟩
    · have a : i ≠ e.toNatClampNeg := by omega
      simp only [fup, if_neg a]
      exact hN.1 i hi
    · have a : i ≠ (F.1 e.toNatClampNeg).toNatClampNeg := by omega
      simp only [fup, if_neg a]
      exact hN.2 i hi
  · rw [if_neg hp]; exact hN
theorem NF_carry {F : FS} {e c : Int32} (hN : NF F) : NF (carryF F e c) := by
  unfold carryF
  by_cases hp : hasF F e ∧ freeF F c
  · rw [if_pos hp]
    have h1 := inb_lt (inb_1 hp.1.1 hp.1.2.1 (show (7 : Int32).toInt = (7 : Nat) by decide))
    have h2 := inb_lt (inb_1 hp.1.2.2.1 hp.1.2.2.2 (show (12 : Int32).toInt = (12 : Nat) by decide))
    have h3 := inb_lt (inb_1 hp.2.1 hp.2.2.1 (show (12 : Int32).toInt = (12 : Nat) by decide))
    refine ⟨fun i hi => ?_, fun i hi => ?_⟩
    · have a : i ≠ e.toNatClampNeg := by omega
      simp only [fup, if_neg a]
      exact hN.1 i hi
    · have a : i ≠ (F.1 e.toNatClampNeg).toNatClampNeg := by omega
      have b : i ≠ c.toNatClampNeg := by omega
      simp only [fup, if_neg a, if_neg b]
      exact hN.2 i hi
  · rw [if_neg hp]; exact hN
theorem NF_2 {F : FS} {i : Nat} {v : Int32} (hN : NF F) (hi : i < 7) : NF (F.1, fup F.2.1 i v, F.2.2) := ⟨fun j hj => ⟨(hN.1 j hj).1, by show fup _ _ _ j = 0; rw [fup, if_neg (by omega)]; exact (hN.1 j hj).2.1, (hN.1 j hj).2.2⟩, hN.2⟩
theorem NF_3 {F : FS} {i : Nat} {v : Int32} (hN : NF F) (hi : i < 7) : NF (F.1, F.2.1, fup F.2.2.1 i v, F.2.2.2) := ⟨fun j hj => ⟨(hN.1 j hj).1, (hN.1 j hj).2.1, by show fup _ _ _ j = 0; rw [fup, if_neg (by omega)]; exact (hN.1 j hj).2.2⟩, hN.2⟩
theorem NF_h {F : FS} {a b : Int32} (hN : NF F) : NF (F.1, F.2.1, F.2.2.1, F.2.2.2.1, a, b) := hN
theorem NF_stoke {F : FS} {e : Int32} (hN : NF F) : NF (stokeF F e) := by
  unfold stokeF
  by_cases hp : hasF F e
  · rw [if_pos hp]
    exact NF_carry (NF_2 hN (inb_lt (inb_1 hp.1 hp.2.1 (show (7 : Int32).toInt = (7 : Nat) by decide))))
  · rw [if_neg hp]; exact hN
theorem NF_fuel {F : FS} {e x : Int32} (hN : NF F) : NF (addFuelF F e x) := by
  unfold addFuelF
  by_cases hp : hasF F e
  · rw [if_pos hp]
    exact NF_3 hN (inb_lt (inb_1 hp.1 hp.2.1 (show (7 : Int32).toInt = (7 : Nat) by decide)))
  · rw [if_neg hp]; exact hN
theorem it_inv {α : Type} {g : Nat → α → α} {P : α → Prop} (hs : ∀ i s, P s → P (g i s)) : ∀ (j i : Nat) (s : α), P s → P (it g j i s) := by
  intro j
  induction j with
  | zero => intro i s h; exact h
  | succ j ih => intro i s h; exact ih (i + 1) _ (hs i s h)
theorem it_inv7 {α : Type} {g : Nat → α → α} {P : α → Prop} {n : Nat} (hs : ∀ i s, i < n → P s → P (g i s)) : ∀ (j i : Nat) (s : α), i + j ≤ n → P s → P (it g j i s) := by
  intro j
  induction j with
  | zero => intro i s _ h; exact h
  | succ j ih => intro i s hi h; exact ih (i + 1) _ (by omega) (hs i s (by omega) h)
theorem NF_pass {L : Int32 → Int32 → Int32 → Int32 → Int32} {k : Nat → Int32} {c air : Int32} {F : FS} (hN : NF F) : NF (passF L k c air F).1 := by
  have h1 : NF (warmF L k (litB F k c) air F) := by
    unfold warmF
    refine it_inv7 (n := 7) (P := NF) (fun i s hi hs => ?_) 7 0 F (by omega) hN
    unfold warmS
    by_cases hp : hasF s (nI i)
    · rw [if_pos hp]; exact NF_2 hs (by rw [nI_clamp (by omega)]; exact hi)
    · rw [if_neg hp]; exact hs
  have h2 : NF (it (burnS k (litB F k c)) 7 0 (warmF L k (litB F k c) air F, 0)).1 := by
    refine it_inv7 (n := 7) (P := fun s : FS × Int32 => NF s.1) (fun i s hi hs => ?_) 7 0 _ (by omega) h1
    unfold burnS
    by_cases hp : bitI (litB F k c) (nI i)
    · rw [if_pos hp]
      have h3 : NF (burnF1 k i s.1) := NF_3 hs (by rw [nI_clamp (by omega)]; exact hi)
      split
      · exact h3
      · exact NF_take h3
    · rw [if_neg hp]; exact hs
  have h3 : NF (it fallS 8 4 (it (burnS k (litB F k c)) 7 0 (warmF L k (litB F k c) air F, 0)).1) := it_inv (P := NF) (fun i s hs => NF_carry hs) 8 4 _ h2
  exact h3
theorem NF_HF {h : AHP} {g n : Nat} {F : FS} (hN : NF F) : NF (HF h g n F) := NF_pass hN
theorem NF_HB {h : AHP} {g n : Nat} {b : Int32} {F : FS} (hN : NF F) : NF (HB h g n b F).1 := NF_pass hN
/-- hours, one behind another -/
noncomputable def HN (h : AHP) (g n : Nat) (j : Nat) (F : FS) : FS := it (fun _ => HF h g n) j 0 F
theorem it_const {α : Type} {f : α → α} : ∀ (j i i2 : Nat) (s : α), it (fun _ => f) j i s = it (fun _ => f) j i2 s := by
  intro j
  induction j with
  | zero => intro i i2 s; rfl
  | succ j ih => intro i i2 s; exact ih (i + 1) (i2 + 1) (f s)
theorem it_last {α : Type} {f : α → α} : ∀ (j i : Nat) (s : α), it (fun _ => f) (j + 1) i s = f (it (fun _ => f) j i s) := by
  intro j
  induction j with
  | zero => intro i s; rfl
  | succ j ih => intro i s; exact ih (i + 1) (f s)
theorem HN_succ {h : AHP} {g n j : Nat} {F : FS} : HN h g n (j + 1) F = HF h g n (HN h g n j F) := it_last j 0 F
theorem HN_front {h : AHP} {g n j : Nat} {F : FS} : HN h g n (j + 1) F = HN h g n j (HF h g n F) := it_const j 1 0 (HF h g n F)
theorem NF_HN {h : AHP} {g n : Nat} (j : Nat) {F : FS} (hN : NF F) : NF (HN h g n j F) := it_inv (P := NF) (fun _ _ hs => NF_HF hs) j 0 F hN
noncomputable def litH (h : AHP) (g n : Nat) (F : FS) : Int32 := litB F (h.1 (g + 2)) (h.1 g 5)
theorem l_behind {d : Nat} {h : AHP} {g n : Nat} (hS0 : Std h) (hg : (lay g).1 = 3) (hL : LawOK h g n) {m : Nat} (hm : m ≤ 99)  {Q : Option Value → AHP → Prop} : ∀ (j i : Nat) (S : FS) (k : AHP), i + j = m → X h k → fs k 136 = S → (∀ k2, X h k2 → fs k2 136 = it (fun _ => HF h g n) j i S → Q (some (.ref 136)) k2) → TT (d + 5) 31 11 [some (.ref 135), some (.ref g), some (.ref 5), some (.int (nI m)), some (.int (nI i))] [] k Q := by
  intro j
  induction j with
  | zero =>
    intro i S k hi hX hF hq
    have hN : i = m := by omega
    have hS := hX.std hS0
    refine t_go (op := o_iload 13 4) (fe_X2_behind 11) (fun _ _ => rfl) ?_
    refine t_go (op := o_iload 14 3) (fe_X2_behind 13) (fun _ _ => rfl) ?_
    refine t_ite (op := o_icmp 17 33 (fun x y => y ≤ x) (fun _ _ => inferInstance)) (fe_X2_behind 14) g_icmp (fun c1 => ?_) (fun c1 => ?_)
    · refine t_go (op := o_aload 34 0) (fe_X2_behind 33) (fun _ _ => rfl) ?_
      refine t_go (op := o_getR 37 2 0) (fe_X2_behind 34) (g_getR hS (by decide) (by decide) (fr_2_0 hS) (by decide)) ?_
      refine t_ret (op := o_aret) (fe_X2_behind 37) (fun _ _ => rfl) ?_
      exact hq k hX hF
    · exact absurd (by rw [hN]; exact Int32.le_refl _) c1
  | succ j ih =>
    intro i S k hi hX hF hq
    have hi2 : i < m := by omega
    have hS := hX.std hS0
    refine t_go (op := o_iload 13 4) (fe_X2_behind 11) (fun _ _ => rfl) ?_
    refine t_go (op := o_iload 14 3) (fe_X2_behind 13) (fun _ _ => rfl) ?_
    refine t_ite (op := o_icmp 17 33 (fun x y => y ≤ x) (fun _ _ => inferInstance)) (fe_X2_behind 14) g_icmp (fun c1 => ?_) (fun c1 => ?_)
    · exact absurd c1 (nI_ge hi2 (by omega))
    · refine t_go (op := o_aload 18 0) (fe_X2_behind 17) (fun _ _ => rfl) ?_
      refine t_go (op := o_getR 21 2 0) (fe_X2_behind 18) (g_getR hS (by decide) (by decide) (fr_2_0 hS) (by decide)) ?_
      refine t_go (op := o_aload 22 1) (fe_X2_behind 21) (fun _ _ => rfl) ?_
      refine t_go (op := o_ci 23 1) (fe_X2_behind 22) (fun _ _ => rfl) ?_
      refine t_call (op := o_callV 26 17 3 1) (fe_X2_behind 23) (g_callV hS (by decide) (by decide) rfl rfl rfl (Nat.le_of_ble_eq_true rfl)) ?_
      refine M_mono ?_ (a_pass hS0 hg hL hX (Or.inl rfl) hF)
      rintro v h2 ⟨q1, hX2, hF2, hK2⟩
      rw [q1]; clear q1 v
      replace hS := hX2.std hS0
      refine t_go (op := o_popI 27) (fe_X2_behind 26) (fun _ _ => rfl) ?_
      refine t_go (op := o_iinc 30 4 1) (fe_X2_behind 27) (fun _ _ => rfl) ?_
      refine t_go (op := o_goto 11) (fe_X2_behind 30) (fun _ _ => rfl) ?_
      rw [nI_1]
      exact ih (i + 1) _ _ (by omega) hX2 hF2 hq
theorem m_behind {d : Nat} {h k : AHP} {g n : Nat} (hS0 : Std h) (hg : (lay g).1 = 3) (hL : LawOK h g n) (hX : X h k) (hN : NF (fs k 136)) (hz : h.1 5 5 = 0 ∨ h.1 5 5 = 1) (hN2 : NF (fs h 5)) {m : Nat} (hm : m ≤ 99) : MM (d + 5) 31 [.ref 135, .ref g, .ref 5, .int (nI m)] k (fun v h2 => v = some (.ref 136) ∧ X h h2 ∧ fs h2 136 = HN h g n m (fs h 5)) := by
  refine ⟨Nat.le_of_ble_eq_true rfl, ?_⟩
  have hS := hX.std hS0
  refine t_go (op := o_aload 1 0) (fe_X2_behind 0) (fun _ _ => rfl) ?_
  refine t_go (op := o_getR 4 2 0) (fe_X2_behind 1) (g_getR hS (by decide) (by decide) (fr_2_0 hS) (by decide)) ?_
  refine t_go (op := o_aload 5 2) (fe_X2_behind 4) (fun _ _ => rfl) ?_
  refine t_call (op := o_callV 8 7 2 1) (fe_X2_behind 5) (g_callV hS (by decide) (by decide) rfl rfl rfl (Nat.le_of_ble_eq_true rfl)) ?_
  refine M_mono ?_ (a_become hS0 hX (Or.inl rfl) (by decide) (Or.inl (by decide)) hz hN hN2)
  rintro v h2 ⟨q1, hX2, hF2, hK2⟩
  rw [q1]; clear q1 v
  replace hS := hX2.std hS0
  refine t_go (op := o_ci 9 0) (fe_X2_behind 8) (fun _ _ => rfl) ?_
  refine t_go (op := o_istore 11 4) (fe_X2_behind 9) (fun _ _ => rfl) ?_
  exact l_behind hS0 hg hL hm m 0 _ _ (by omega) hX2 hF2 (fun k2 x1 x2 => ⟨rfl, x1, x2⟩)
/-- how long a fire lasts, banked (or no more) at the hour b: from hour i on, j hours more -/
noncomputable def lastsV (h : AHP) (g n : Nat) (b : Int32) : Nat → Nat → FS → Int32
  | 0, _, _ => 41
  | j + 1, i, F => if litH h g n F = 0 then nI i else lastsV h g n b j (i + 1) (HF h g n (if nI i = b then (F.1, F.2.1, F.2.2.1, F.2.2.2.1, F.2.2.2.2.1, if F.2.2.2.2.2 = 0 then 1 else 0) else F))
theorem fs_b {k : AHP} {f : Nat} {v : Int32} : fs (sI k f 5 v) f = ((fs k f).1, (fs k f).2.1, (fs k f).2.2.1, (fs k f).2.2.2.1, (fs k f).2.2.2.2.1, v) := by
  have e : ∀ m, 0 < m → (sI k f 5 v).1 (f + m) = k.1 (f + m) := fun m hm => up2_ne (by omega)
  unfold fs
  rw [e 1 (by decide), e 2 (by decide), e 3 (by decide), e 4 (by decide)]
  simp [sI, up2]
theorem l_lasts {d : Nat} {h : AHP} {g n : Nat} (hS0 : Std h) (hg : (lay g).1 = 3) (hL : LawOK h g n) {b : Int32}  {Q : Option Value → AHP → Prop} : ∀ (j i : Nat) (S : FS) (k : AHP), i + j = 41 → X h k → fs k 136 = S → NF S → (∀ k2, X h k2 → NF (fs k2 136) → Q (some (.int (lastsV h g n b j i S))) k2) → TT (d + 5) 48 2 [some (.ref 135), some (.ref g), some (.int b), some (.int (nI i))] [] k Q := by
  intro j
  induction j with
  | zero =>
    intro i S k hi hX hF hNS hq
    have hN : i = 41 := by omega
    have hS := hX.std hS0
    refine t_go (op := o_iload 3 3) (fe_X2_trialLasts 2) (fun _ _ => rfl) ?_
    refine t_go (op := o_ci 5 40) (fe_X2_trialLasts 3) (fun _ _ => rfl) ?_
    refine t_ite (op := o_icmp 8 64 (fun x y => y < x) (fun _ _ => inferInstance)) (fe_X2_trialLasts 5) g_icmp (fun c1 => ?_) (fun c1 => ?_)
    · refine t_go (op := o_ci 66 41) (fe_X2_trialLasts 64) (fun _ _ => rfl) ?_
      refine t_ret (op := o_iret) (fe_X2_trialLasts 66) (fun _ _ => rfl) ?_
      exact hq k hX (by rw [hF]; exact hNS)
    · exact absurd (by rw [hN]; decide) c1
  | succ j ih =>
    intro i S k hi hX hF hNS hq
    have hb : inb (nI i) 41 := inb_n (by omega) (by decide)
    have hS := hX.std hS0
    refine t_go (op := o_iload 3 3) (fe_X2_trialLasts 2) (fun _ _ => rfl) ?_
    refine t_go (op := o_ci 5 40) (fe_X2_trialLasts 3) (fun _ _ => rfl) ?_
    refine t_ite (op := o_icmp 8 64 (fun x y => y < x) (fun _ _ => inferInstance)) (fe_X2_trialLasts 5) g_icmp (fun c1 => ?_) (fun c1 => ?_)
    · exact absurd c1 (nI_nlt (show i ≤ 40 by omega) (by decide))
    · refine t_go (op := o_aload 9 0) (fe_X2_trialLasts 8) (fun _ _ => rfl) ?_
      refine t_go (op := o_getR 12 2 0) (fe_X2_trialLasts 9) (g_getR hS (by decide) (by decide) (fr_2_0 hS) (by decide)) ?_
      refine t_go (op := o_aload 13 1) (fe_X2_trialLasts 12) (fun _ _ => rfl) ?_
      refine t_call (op := o_callV 16 18 2 1) (fe_X2_trialLasts 13) (g_callV hS (by decide) (by decide) rfl rfl rfl (Nat.le_of_ble_eq_true rfl)) ?_
      refine M_mono ?_ (a_litBits hS0 hg hX (by decide) hF)
      rintro v h2 ⟨q1, q2⟩
      rw [q1, q2]; clear q1 q2 v h2
      refine t_ite (op := o_if 21 19 (fun x => x = 0) (fun _ => inferInstance)) (fe_X2_trialLasts 16) g_if (fun c2 => ?_) (fun c2 => ?_)
      · refine t_go (op := o_iload 20 3) (fe_X2_trialLasts 19) (fun _ _ => rfl) ?_
        refine t_ret (op := o_iret) (fe_X2_trialLasts 20) (fun _ _ => rfl) ?_
        have hs : lastsV h g n b (j + 1) i S = nI i := by rw [lastsV, if_pos (show litH h g n S = 0 from c2)]
        rw [hs] at hq
        exact hq k hX (by rw [hF]; exact hNS)
      · refine t_go (op := o_iload 22 3) (fe_X2_trialLasts 21) (fun _ _ => rfl) ?_
        refine t_go (op := o_iload 23 2) (fe_X2_trialLasts 22) (fun _ _ => rfl) ?_
        refine t_ite (op := o_icmp 48 26 (fun x y => x = y) (fun _ _ => inferInstance)) (fe_X2_trialLasts 23) g_icmp (fun c3 => ?_) (fun c3 => ?_)
        · refine t_go (op := o_aload 27 0) (fe_X2_trialLasts 26) (fun _ _ => rfl) ?_
          refine t_go (op := o_getR 30 2 0) (fe_X2_trialLasts 27) (g_getR hS (by decide) (by decide) (fr_2_0 hS) (by decide)) ?_
          refine t_go (op := o_aload 31 0) (fe_X2_trialLasts 30) (fun _ _ => rfl) ?_
          refine t_go (op := o_getR 34 2 0) (fe_X2_trialLasts 31) (g_getR hS (by decide) (by decide) (fr_2_0 hS) (by decide)) ?_
          refine t_go (op := o_getI 37 1 5) (fe_X2_trialLasts 34) (g_getI hS (by decide) (by decide)) ?_
          rw [show k.1 136 5 = S.2.2.2.2.2 by rw [← hF]; rfl]
          refine t_ite (op := o_if 44 40 (fun x => x = 0) (fun _ => inferInstance)) (fe_X2_trialLasts 37) g_if (fun c4 => ?_) (fun c4 => ?_)
          · refine t_go (op := o_ci 41 1) (fe_X2_trialLasts 40) (fun _ _ => rfl) ?_
            refine t_go (op := o_goto 45) (fe_X2_trialLasts 41) (fun _ _ => rfl) ?_
            refine t_go (op := o_putZ 48 1 5) (fe_X2_trialLasts 45) (g_putZ hS (by decide) (by decide) (by decide)) ?_
            refine t_go (op := o_aload 49 0) (fe_X2_trialLasts 48) (fun _ _ => rfl) ?_
            refine t_go (op := o_getR 52 2 0) (fe_X2_trialLasts 49) (g_getR hS (by decide) (by decide) (fr_2_0 hS) (by decide)) ?_
            refine t_go (op := o_aload 53 1) (fe_X2_trialLasts 52) (fun _ _ => rfl) ?_
            refine t_go (op := o_ci 54 1) (fe_X2_trialLasts 53) (fun _ _ => rfl) ?_
            refine t_call (op := o_callV 57 17 3 1) (fe_X2_trialLasts 54) (g_callV hS (by decide) (by decide) rfl rfl rfl (Nat.le_of_ble_eq_true rfl)) ?_
            have hX1 := X_sI (a := 136) (i := 5) (v := 1) hX (Or.inl ⟨by decide, by decide⟩)
            have hF1 := fs_b (k := k) (f := 136) (v := 1)
            rw [hF] at hF1
            refine M_mono ?_ (a_pass hS0 hg hL hX1 (Or.inl rfl) hF1)
            rintro v h2 ⟨q1, hX2, hF2, hK2⟩
            rw [q1]; clear q1 v
            replace hS := hX2.std hS0
            refine t_go (op := o_popI 58) (fe_X2_trialLasts 57) (fun _ _ => rfl) ?_
            refine t_go (op := o_iinc 61 3 1) (fe_X2_trialLasts 58) (fun _ _ => rfl) ?_
            refine t_go (op := o_goto 2) (fe_X2_trialLasts 61) (fun _ _ => rfl) ?_
            have hs : lastsV h g n b (j + 1) i S = lastsV h g n b j (i + 1) (HF h g n (S.1, S.2.1, S.2.2.1, S.2.2.2.1, S.2.2.2.2.1, 1)) := by rw [lastsV, if_neg (show ¬ litH h g n S = 0 from c2), if_pos c3, if_pos c4]
            rw [hs] at hq
            rw [nI_1]
            exact ih (i + 1) _ _ (by omega) hX2 hF2 (NF_HF (NF_h hNS)) hq
          · refine t_go (op := o_ci 45 0) (fe_X2_trialLasts 44) (fun _ _ => rfl) ?_
            refine t_go (op := o_putZ 48 1 5) (fe_X2_trialLasts 45) (g_putZ hS (by decide) (by decide) (by decide)) ?_
            refine t_go (op := o_aload 49 0) (fe_X2_trialLasts 48) (fun _ _ => rfl) ?_
            refine t_go (op := o_getR 52 2 0) (fe_X2_trialLasts 49) (g_getR hS (by decide) (by decide) (fr_2_0 hS) (by decide)) ?_
            refine t_go (op := o_aload 53 1) (fe_X2_trialLasts 52) (fun _ _ => rfl) ?_
            refine t_go (op := o_ci 54 1) (fe_X2_trialLasts 53) (fun _ _ => rfl) ?_
            refine t_call (op := o_callV 57 17 3 1) (fe_X2_trialLasts 54) (g_callV hS (by decide) (by decide) rfl rfl rfl (Nat.le_of_ble_eq_true rfl)) ?_
            have hX1 := X_sI (a := 136) (i := 5) (v := 0) hX (Or.inl ⟨by decide, by decide⟩)
            have hF1 := fs_b (k := k) (f := 136) (v := 0)
            rw [hF] at hF1
            refine M_mono ?_ (a_pass hS0 hg hL hX1 (Or.inl rfl) hF1)
            rintro v h2 ⟨q1, hX2, hF2, hK2⟩
            rw [q1]; clear q1 v
            replace hS := hX2.std hS0
            refine t_go (op := o_popI 58) (fe_X2_trialLasts 57) (fun _ _ => rfl) ?_
            refine t_go (op := o_iinc 61 3 1) (fe_X2_trialLasts 58) (fun _ _ => rfl) ?_
            refine t_go (op := o_goto 2) (fe_X2_trialLasts 61) (fun _ _ => rfl) ?_
            have hs : lastsV h g n b (j + 1) i S = lastsV h g n b j (i + 1) (HF h g n (S.1, S.2.1, S.2.2.1, S.2.2.2.1, S.2.2.2.2.1, 0)) := by rw [lastsV, if_neg (show ¬ litH h g n S = 0 from c2), if_pos c3, if_neg c4]
            rw [hs] at hq
            rw [nI_1]
            exact ih (i + 1) _ _ (by omega) hX2 hF2 (NF_HF (NF_h hNS)) hq
        · refine t_go (op := o_aload 49 0) (fe_X2_trialLasts 48) (fun _ _ => rfl) ?_
          refine t_go (op := o_getR 52 2 0) (fe_X2_trialLasts 49) (g_getR hS (by decide) (by decide) (fr_2_0 hS) (by decide)) ?_
          refine t_go (op := o_aload 53 1) (fe_X2_trialLasts 52) (fun _ _ => rfl) ?_
          refine t_go (op := o_ci 54 1) (fe_X2_trialLasts 53) (fun _ _ => rfl) ?_
          refine t_call (op := o_callV 57 17 3 1) (fe_X2_trialLasts 54) (g_callV hS (by decide) (by decide) rfl rfl rfl (Nat.le_of_ble_eq_true rfl)) ?_
          refine M_mono ?_ (a_pass hS0 hg hL hX (Or.inl rfl) hF)
          rintro v h2 ⟨q1, hX2, hF2, hK2⟩
          rw [q1]; clear q1 v
          replace hS := hX2.std hS0
          refine t_go (op := o_popI 58) (fe_X2_trialLasts 57) (fun _ _ => rfl) ?_
          refine t_go (op := o_iinc 61 3 1) (fe_X2_trialLasts 58) (fun _ _ => rfl) ?_
          refine t_go (op := o_goto 2) (fe_X2_trialLasts 61) (fun _ _ => rfl) ?_
          have hs : lastsV h g n b (j + 1) i S = lastsV h g n b j (i + 1) (HF h g n S) := by rw [lastsV, if_neg (show ¬ litH h g n S = 0 from c2), if_neg c3]
          rw [hs] at hq
          rw [nI_1]
          exact ih (i + 1) _ _ (by omega) hX2 hF2 (NF_HF hNS) hq
theorem m_trialLasts {d : Nat} {h k : AHP} {g n : Nat} (hS0 : Std h) (hg : (lay g).1 = 3) (hL : LawOK h g n) {b : Int32} {F : FS} (hX : X h k) (hF : fs k 136 = F) (hN : NF F) : MM (d + 5) 48 [.ref 135, .ref g, .int b] k (fun v h2 => v = some (.int (lastsV h g n b 41 0 F)) ∧ X h h2 ∧ NF (fs h2 136)) := by
  refine ⟨Nat.le_of_ble_eq_true rfl, ?_⟩
  have hS := hX.std hS0
  refine t_go (op := o_ci 1 0) (fe_X2_trialLasts 0) (fun _ _ => rfl) ?_
  refine t_go (op := o_istore 2 3) (fe_X2_trialLasts 1) (fun _ _ => rfl) ?_
  exact l_lasts hS0 hg hL 41 0 F k rfl hX hF hN (fun k2 x1 x2 => ⟨rfl, x1, x2⟩)
theorem m_lastsNow {d : Nat} {h k : AHP} {g n : Nat} (hS0 : Std h) (hg : (lay g).1 = 3) (hL : LawOK h g n) (hX : X h k) (hN : NF (fs k 136)) (hz : h.1 5 5 = 0 ∨ h.1 5 5 = 1) (hN2 : NF (fs h 5)) : MM (d + 6) 37 [.ref 135, .ref g, .ref 5] k (fun v h2 => v = some (.int (lastsV h g n (-1) 41 0 (fs h 5))) ∧ X h h2 ∧ NF (fs h2 136)) := by
  refine ⟨Nat.le_of_ble_eq_true rfl, ?_⟩
  have hS := hX.std hS0
  refine t_go (op := o_aload 1 0) (fe_X2_lastsNow 0) (fun _ _ => rfl) ?_
  refine t_go (op := o_getR 4 2 0) (fe_X2_lastsNow 1) (g_getR hS (by decide) (by decide) (fr_2_0 hS) (by decide)) ?_
  refine t_go (op := o_aload 5 2) (fe_X2_lastsNow 4) (fun _ _ => rfl) ?_
  refine t_call (op := o_callV 8 7 2 1) (fe_X2_lastsNow 5) (g_callV hS (by decide) (by decide) rfl rfl rfl (Nat.le_of_ble_eq_true rfl)) ?_
  refine M_mono ?_ (a_become hS0 hX (Or.inl rfl) (by decide) (Or.inl (by decide)) hz hN hN2)
  rintro v h2 ⟨q1, hX2, hF2, hK2⟩
  rw [q1]; clear q1 v
  replace hS := hX2.std hS0
  refine t_go (op := o_aload 9 0) (fe_X2_lastsNow 8) (fun _ _ => rfl) ?_
  refine t_go (op := o_aload 10 1) (fe_X2_lastsNow 9) (fun _ _ => rfl) ?_
  refine t_go (op := o_ci 11 (-1)) (fe_X2_lastsNow 10) (fun _ _ => rfl) ?_
  refine t_call (op := o_callV 14 48 3 2) (fe_X2_lastsNow 11) (g_callV hS (by decide) (by decide) rfl rfl rfl (Nat.le_of_ble_eq_true rfl)) ?_
  refine M_mono ?_ (m_trialLasts hS0 hg hL hX2 hF2 hN2)
  rintro v h2 ⟨q1, hX3, hN3⟩
  rw [q1]; clear q1 v
  refine t_ret (op := o_iret) (fe_X2_lastsNow 14) (fun _ _ => rfl) ?_
  exact ⟨rfl, hX3, hN3⟩
theorem fs_141 {k : AHP} {i f : Nat} {v : Int32} (hf : f = 136 ∨ f = 143) : fs (sI k 141 i v) f = fs k f := by
  have e : ∀ m, m ≠ 141 → (sI k 141 i v).1 m = k.1 m := fun m hm => up2_ne hm
  unfold fs
  rw [e (f + 1) (by omega), e (f + 2) (by omega), e (f + 3) (by omega), e (f + 4) (by omega), e f (by omega)]
theorem row_141 {k : AHP} {i : Nat} {v : Int32} : (sI k 141 i v).1 141 = fup (k.1 141) i v := by funext j; simp [sI, up2, fup]
theorem l_watch {d : Nat} {h : AHP} {g n : Nat} (hS0 : Std h) (hg : (lay g).1 = 3) (hL : LawOK h g n) {F0 : FS}  {Q : Option Value → AHP → Prop} : ∀ (j i : Nat) (S : FS) (k : AHP), i + j = 41 → X h k → fs k 136 = S → NF S → (∀ t, t < i → k.1 141 t = litH h g n (HN h g n t F0)) → S = HN h g n i F0 → (∀ k2, X h k2 → NF (fs k2 136) → (∀ t, t < 41 → k2.1 141 t = litH h g n (HN h g n t F0)) → Q none k2) → TT (d + 5) 32 10 [some (.ref 135), some (.ref g), some (.ref 5), some (.int (nI i))] [] k Q := by
  intro j
  induction j with
  | zero =>
    intro i S k hi hX hF hNS hW hi0 hq
    have hN : i = 41 := by omega
    have hS := hX.std hS0
    have hW0 : litH h g n (HN h g n i F0) = litB S (h.1 (g + 2)) (h.1 g 5) := by rw [← hi0]; rfl
    refine t_go (op := o_iload 11 3) (fe_X2_watch 10) (fun _ _ => rfl) ?_
    refine t_go (op := o_ci 13 40) (fe_X2_watch 11) (fun _ _ => rfl) ?_
    refine t_ite (op := o_icmp 16 46 (fun x y => y < x) (fun _ _ => inferInstance)) (fe_X2_watch 13) g_icmp (fun c1 => ?_) (fun c1 => ?_)
    · refine t_ret (op := o_vret) (fe_X2_watch 46) (fun _ _ => rfl) ?_
      exact hq k hX (by rw [hF]; exact hNS) (fun t ht => hW t (by omega))
    · exact absurd (by rw [hN]; decide) c1
  | succ j ih =>
    intro i S k hi hX hF hNS hW hi0 hq
    have hb : inb (nI i) 41 := inb_n (by omega) (by decide)
    have hS := hX.std hS0
    have hW0 : litH h g n (HN h g n i F0) = litB S (h.1 (g + 2)) (h.1 g 5) := by rw [← hi0]; rfl
    refine t_go (op := o_iload 11 3) (fe_X2_watch 10) (fun _ _ => rfl) ?_
    refine t_go (op := o_ci 13 40) (fe_X2_watch 11) (fun _ _ => rfl) ?_
    refine t_ite (op := o_icmp 16 46 (fun x y => y < x) (fun _ _ => inferInstance)) (fe_X2_watch 13) g_icmp (fun c1 => ?_) (fun c1 => ?_)
    · exact absurd c1 (nI_nlt (show i ≤ 40 by omega) (by decide))
    · refine t_go (op := o_aload 17 0) (fe_X2_watch 16) (fun _ _ => rfl) ?_
      refine t_go (op := o_getR 20 2 1) (fe_X2_watch 17) (g_getR hS (by decide) (by decide) (fr_2_1 hS) (by decide)) ?_
      refine t_go (op := o_iload 21 3) (fe_X2_watch 20) (fun _ _ => rfl) ?_
      refine t_go (op := o_aload 22 0) (fe_X2_watch 21) (fun _ _ => rfl) ?_
      refine t_go (op := o_getR 25 2 0) (fe_X2_watch 22) (g_getR hS (by decide) (by decide) (fr_2_0 hS) (by decide)) ?_
      refine t_go (op := o_aload 26 1) (fe_X2_watch 25) (fun _ _ => rfl) ?_
      refine t_call (op := o_callV 29 18 2 1) (fe_X2_watch 26) (g_callV hS (by decide) (by decide) rfl rfl rfl (Nat.le_of_ble_eq_true rfl)) ?_
      refine M_mono ?_ (a_litBits hS0 hg hX (by decide) hF)
      rintro v h2 ⟨q1, q2⟩
      rw [q1, q2]; clear q1 q2 v h2
      refine t_go (op := o_iast 30) (fe_X2_watch 29) (g_iast hS (by decide) hb) ?_
      refine t_go (op := o_aload 31 0) (fe_X2_watch 30) (fun _ _ => rfl) ?_
      refine t_go (op := o_getR 34 2 0) (fe_X2_watch 31) (g_getR hS (by decide) (by decide) (fr_2_0 hS) (by decide)) ?_
      refine t_go (op := o_aload 35 1) (fe_X2_watch 34) (fun _ _ => rfl) ?_
      refine t_go (op := o_ci 36 1) (fe_X2_watch 35) (fun _ _ => rfl) ?_
      refine t_call (op := o_callV 39 17 3 1) (fe_X2_watch 36) (g_callV hS (by decide) (by decide) rfl rfl rfl (Nat.le_of_ble_eq_true rfl)) ?_
      have hX1 := X_sI (a := 141) (i := (nI i).toNatClampNeg) (v := litB S (h.1 (g + 2)) (h.1 g 5)) hX (Or.inl ⟨by decide, by decide⟩)
      have hF1 := (fs_141 (k := k) (i := (nI i).toNatClampNeg) (v := litB S (h.1 (g + 2)) (h.1 g 5)) (Or.inl rfl : (136 : Nat) = 136 ∨ (136 : Nat) = 143)).trans hF
      refine M_mono ?_ (a_pass hS0 hg hL hX1 (Or.inl rfl) hF1)
      rintro v h2 ⟨q1, hX2, hF2, hK2⟩
      rw [q1]; clear q1 v
      replace hS := hX2.std hS0
      refine t_go (op := o_popI 40) (fe_X2_watch 39) (fun _ _ => rfl) ?_
      refine t_go (op := o_iinc 43 3 1) (fe_X2_watch 40) (fun _ _ => rfl) ?_
      refine t_go (op := o_goto 10) (fe_X2_watch 43) (fun _ _ => rfl) ?_
      rw [nI_1]
      exact ih (i + 1) _ _ (by omega) hX2 hF2 (NF_HF hNS) (fun t ht => by
        rw [hK2.1, row_141, fup]
        by_cases e : t = (nI i).toNatClampNeg
        · rw [nI_clamp (by omega)] at e
          rw [if_pos (by rw [nI_clamp (by omega)]; exact e), e]
          exact hW0.symm
        · rw [if_neg e]
          rw [nI_clamp (by omega)] at e
          exact hW t (by omega)) (by rw [HN_succ, ← hi0]; rfl) hq
theorem m_watch {d : Nat} {h k : AHP} {g n : Nat} (hS0 : Std h) (hg : (lay g).1 = 3) (hL : LawOK h g n) (hX : X h k) (hN : NF (fs k 136)) (hz : h.1 5 5 = 0 ∨ h.1 5 5 = 1) (hN2 : NF (fs h 5)) : MM (d + 5) 32 [.ref 135, .ref g, .ref 5] k (fun v h2 => v = none ∧ X h h2 ∧ NF (fs h2 136) ∧ ∀ t, t < 41 → h2.1 141 t = litH h g n (HN h g n t (fs h 5))) := by
  refine ⟨Nat.le_of_ble_eq_true rfl, ?_⟩
  have hS := hX.std hS0
  refine t_go (op := o_aload 1 0) (fe_X2_watch 0) (fun _ _ => rfl) ?_
  refine t_go (op := o_getR 4 2 0) (fe_X2_watch 1) (g_getR hS (by decide) (by decide) (fr_2_0 hS) (by decide)) ?_
  refine t_go (op := o_aload 5 2) (fe_X2_watch 4) (fun _ _ => rfl) ?_
  refine t_call (op := o_callV 8 7 2 1) (fe_X2_watch 5) (g_callV hS (by decide) (by decide) rfl rfl rfl (Nat.le_of_ble_eq_true rfl)) ?_
  refine M_mono ?_ (a_become hS0 hX (Or.inl rfl) (by decide) (Or.inl (by decide)) hz hN hN2)
  rintro v h2 ⟨q1, hX2, hF2, hK2⟩
  rw [q1]; clear q1 v
  replace hS := hX2.std hS0
  refine t_go (op := o_ci 9 0) (fe_X2_watch 8) (fun _ _ => rfl) ?_
  refine t_go (op := o_istore 10 3) (fe_X2_watch 9) (fun _ _ => rfl) ?_
  exact l_watch hS0 hg hL 41 0 _ _ rfl hX2 hF2 hN2 (fun t ht => absurd ht (Nat.not_lt_zero t)) rfl (fun k2 x1 x2 x3 => ⟨rfl, x1, x2, x3⟩)
