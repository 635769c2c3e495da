abbrev bitI (x i : Int32) : Prop := (x >>> (i &&& 31)) &&& 1 = 1
def besV (c : Int32) : Int32 := if c < 0 then 0 else if 12 ≤ c then 0 else bes c.toNatClampNeg
theorem m_isCell {d : Nat} {h : AHP} {c : Int32} : MM d 151 [.int c] h (fun v h2 => v = some (.int (b2i (¬ c < 0 ∧ ¬ 12 ≤ c))) ∧ h2 = h) := by
  refine ⟨Nat.le_of_ble_eq_true rfl, ?_⟩
  refine t_go (op := o_iload 1 0) (fe_X11_isCell 0) (fun _ _ => rfl) ?_
  refine t_ite (op := o_if 4 14 (fun x => x < 0) (fun _ => inferInstance)) (fe_X11_isCell 1) g_if (fun c1 => ?_) (fun c1 => ?_)
  · refine t_go (op := o_ci 15 0) (fe_X11_isCell 14) (fun _ _ => rfl) ?_
    refine t_ret (op := o_zret) (fe_X11_isCell 15) (g_zret (Or.inl rfl)) ?_
    exact ⟨by rw [b2i_f (fun q => q.1 c1)], rfl⟩
  · refine t_go (op := o_iload 5 0) (fe_X11_isCell 4) (fun _ _ => rfl) ?_
    refine t_go (op := o_ci 7 12) (fe_X11_isCell 5) (fun _ _ => rfl) ?_
    refine t_ite (op := o_icmp 10 14 (fun x y => y ≤ x) (fun _ _ => inferInstance)) (fe_X11_isCell 7) g_icmp (fun c2 => ?_) (fun c2 => ?_)
    · refine t_go (op := o_ci 15 0) (fe_X11_isCell 14) (fun _ _ => rfl) ?_
      refine t_ret (op := o_zret) (fe_X11_isCell 15) (g_zret (Or.inl rfl)) ?_
      exact ⟨by rw [b2i_f (fun q => q.2 c2)], rfl⟩
    · refine t_go (op := o_ci 11 1) (fe_X11_isCell 10) (fun _ _ => rfl) ?_
      refine t_go (op := o_goto 15) (fe_X11_isCell 11) (fun _ _ => rfl) ?_
      refine t_ret (op := o_zret) (fe_X11_isCell 15) (g_zret (Or.inr rfl)) ?_
      exact ⟨by rw [b2i_t ⟨c1, c2⟩], rfl⟩
theorem m_besideOf {d : Nat} {h : AHP} {c : Int32} : MM (d + 1) 29 [.int c] h (fun v h2 => v = some (.int (besV c)) ∧ h2 = h) := by
  refine ⟨Nat.le_of_ble_eq_true rfl, ?_⟩
  refine t_go (op := o_iload 1 0) (fe_X1_besideOf 0) (fun _ _ => rfl) ?_
  refine t_call (op := o_callS 4 151 1) (fe_X1_besideOf 1) (g_callS rfl rfl rfl (Nat.le_of_ble_eq_true rfl)) ?_
  refine M_mono ?_ (m_isCell)
  rintro v h2 ⟨q1, q2⟩
  rw [q1, q2]; clear q1 q2 v h2
  refine t_ite (op := o_if 7 15 (fun x => x = 0) (fun _ => inferInstance)) (fe_X1_besideOf 4) g_if (fun c1 => ?_) (fun c1 => ?_)
  · refine t_go (op := o_ci 16 0) (fe_X1_besideOf 15) (fun _ _ => rfl) ?_
    refine t_ret (op := o_iret) (fe_X1_besideOf 16) (fun _ _ => rfl) ?_
    refine ⟨?_, rfl⟩
    unfold besV
    by_cases k1 : c < 0
    · rw [if_pos k1]
    · by_cases k2 : 12 ≤ c
      · rw [if_neg k1, if_pos k2]
      · exact absurd (b2i_t (p := ¬ c < 0 ∧ ¬ 12 ≤ c) ⟨k1, k2⟩) (by rw [c1]; decide)
  · have hc := Classical.not_not.mp (fun q => c1 (b2i_f q))
    refine t_go (op := o_gets 10 200200) (fe_X1_besideOf 7) (fun _ _ => rfl) ?_
    refine t_go (op := o_iload 11 0) (fe_X1_besideOf 10) (fun _ _ => rfl) ?_
    refine t_go (op := o_ialdB 12) (fe_X1_besideOf 11) (g_ialdB (inb_1 hc.1 hc.2 (by decide))) ?_
    refine t_go (op := o_goto 16) (fe_X1_besideOf 12) (fun _ _ => rfl) ?_
    refine t_ret (op := o_iret) (fe_X1_besideOf 16) (fun _ _ => rfl) ?_
    refine ⟨?_, rfl⟩
    unfold besV
    rw [if_neg hc.1, if_neg hc.2]
noncomputable def hereS (F : FS) (e : Nat) (s : Int32) : Int32 := @ite _ (hasF F (nI e)) (Classical.propDecidable _) (s ||| (1 <<< (nI e &&& 31))) s
noncomputable def touchS (F : FS) (b : Int32) (e : Nat) (s : Int32) : Int32 := @ite _ (hasF F (nI e) ∧ bitI b (F.1 (nI e).toNatClampNeg)) (Classical.propDecidable _) (s ||| (1 <<< (nI e &&& 31))) s
noncomputable def besideS (F : FS) (b : Int32) (e : Nat) (s : Int32) : Int32 := @ite _ (hasF F (nI e) ∧ bitI b (F.1 (nI e).toNatClampNeg)) (Classical.propDecidable _) (s + F.2.1 (nI e).toNatClampNeg) s
noncomputable def ashS (F : FS) (m : Int32) (e : Nat) (s : Int32) : Int32 := @ite _ (¬ m ≤ nI e ∧ ¬ hasF F (nI e)) (Classical.propDecidable _) (s ||| (1 <<< (nI e &&& 31))) s
noncomputable def touchB (F : FS) (e : Int32) : Int32 := @ite _ (hasF F e) (Classical.propDecidable _) (it (touchS F (besV (F.1 e.toNatClampNeg))) 7 0 0) 0
noncomputable def takeS (b : Int32) (e : Nat) (F : FS) : FS := @ite _ (bitI b (nI e)) (Classical.propDecidable _) (takeOutF F (nI e)) F
noncomputable def fullS (b : Int32) (e : Nat) (F : FS) : FS := @ite _ (bitI b (nI e) ∧ hasF F (nI e)) (Classical.propDecidable _) (F.1, fup F.2.1 (nI e).toNatClampNeg 20, F.2.2) F
noncomputable def clearS (e : Nat) (F : FS) : FS := takeOutF F (nI e)
noncomputable def clearF (F : FS) : FS := ((it clearS 7 0 F).1, (it clearS 7 0 F).2.1, (it clearS 7 0 F).2.2.1, (it clearS 7 0 F).2.2.2.1, 0, 0)
def burnF1 (k : Nat → Int32) (e : Nat) (F : FS) : FS := (F.1, F.2.1, fup F.2.2.1 (nI e).toNatClampNeg (F.2.2.1 (nI e).toNatClampNeg - (if k (nI e).toNatClampNeg = 1 then 2 else 1)), F.2.2.2)
noncomputable def burnS (k : Nat → Int32) (b : Int32) (e : Nat) (s : FS × Int32) : FS × Int32 := @ite _ (bitI b (nI e)) (Classical.propDecidable _) (if 0 < (burnF1 k e s.1).2.2.1 (nI e).toNatClampNeg then (burnF1 k e s.1, s.2) else (takeOutF (burnF1 k e s.1) (nI e), s.2 ||| (1 <<< (nI e &&& 31)))) s
theorem l_hereBits {d : Nat} {h : AHP} {f : Nat} {F : FS} (hS : Std h) (hf : (lay f).1 = 1)  {Q : Option Value → AHP → Prop} : ∀ (j i : Nat) (S : Int32), i + j = 7 → Q (some (.int (it (hereS F) j i S))) (setF h f F) → TT (d + 1) 20 4 [some (.ref f), some (.int S), some (.int (nI i))] [] (setF h f F) Q := by
  intro j
  induction j with
  | zero =>
    intro i S hi hq
    have hN : i = 7 := by omega
    refine t_go (op := o_iload 5 2) (fe_X1_hereBits 4) (fun _ _ => rfl) ?_
    refine t_go (op := o_ci 7 7) (fe_X1_hereBits 5) (fun _ _ => rfl) ?_
    refine t_ite (op := o_icmp 10 30 (fun x y => y ≤ x) (fun _ _ => inferInstance)) (fe_X1_hereBits 7) g_icmp (fun c1 => ?_) (fun c1 => ?_)
    · refine t_go (op := o_iload 31 1) (fe_X1_hereBits 30) (fun _ _ => rfl) ?_
      refine t_ret (op := o_iret) (fe_X1_hereBits 31) (fun _ _ => rfl) ?_
      exact hq
    · exact absurd (by rw [hN]; exact Int32.le_refl _) c1
  | succ j ih =>
    intro i S hi hq
    have hb : inb (nI i) 7 := inb_n (by omega) (by decide)
    refine t_go (op := o_iload 5 2) (fe_X1_hereBits 4) (fun _ _ => rfl) ?_
    refine t_go (op := o_ci 7 7) (fe_X1_hereBits 5) (fun _ _ => rfl) ?_
    refine t_ite (op := o_icmp 10 30 (fun x y => y ≤ x) (fun _ _ => inferInstance)) (fe_X1_hereBits 7) g_icmp (fun c1 => ?_) (fun c1 => ?_)
    · exact absurd c1 (nI_ge (show i < 7 by omega) (by decide))
    · refine t_go (op := o_aload 11 0) (fe_X1_hereBits 10) (fun _ _ => rfl) ?_
      refine t_go (op := o_iload 12 2) (fe_X1_hereBits 11) (fun _ _ => rfl) ?_
      refine t_call (op := o_callV 15 8 2 1) (fe_X1_hereBits 12) (g_callV hS hf (by decide) rfl rfl rfl (Nat.le_of_ble_eq_true rfl)) ?_
      refine M_mono ?_ (n_has hS hf)
      rintro v h2 ⟨q1, q2⟩
      rw [q1, q2]; clear q1 q2 v h2
      refine t_ite (op := o_if 18 24 (fun x => x = 0) (fun _ => inferInstance)) (fe_X1_hereBits 15) g_if (fun c2 => ?_) (fun c2 => ?_)
      · refine t_go (op := o_iinc 27 2 1) (fe_X1_hereBits 24) (fun _ _ => rfl) ?_
        refine t_go (op := o_goto 4) (fe_X1_hereBits 27) (fun _ _ => rfl) ?_
        have hs : hereS F i S = _ := if_neg (b2i_ne.mp c2)
        have hq2 : Q (some (.int (it (hereS F) j (i + 1) (hereS F i S)))) (setF h f F) := hq
        rw [hs] at hq2
        rw [nI_1]
        exact ih (i + 1) _ (by omega) hq2
      · refine t_go (op := o_iload 19 1) (fe_X1_hereBits 18) (fun _ _ => rfl) ?_
        refine t_go (op := o_ci 20 1) (fe_X1_hereBits 19) (fun _ _ => rfl) ?_
        refine t_go (op := o_iload 21 2) (fe_X1_hereBits 20) (fun _ _ => rfl) ?_
        refine t_go (op := o_i2 22 (fun x y => x <<< (y &&& 31))) (fe_X1_hereBits 21) (fun _ _ => rfl) ?_
        refine t_go (op := o_i2 23 (fun x y => x ||| y)) (fe_X1_hereBits 22) (fun _ _ => rfl) ?_
        refine t_go (op := o_istore 24 1) (fe_X1_hereBits 23) (fun _ _ => rfl) ?_
        refine t_go (op := o_iinc 27 2 1) (fe_X1_hereBits 24) (fun _ _ => rfl) ?_
        refine t_go (op := o_goto 4) (fe_X1_hereBits 27) (fun _ _ => rfl) ?_
        have hs : hereS F i S = _ := if_pos (Classical.not_not.mp (fun q => c2 (b2i_f q)))
        have hq2 : Q (some (.int (it (hereS F) j (i + 1) (hereS F i S)))) (setF h f F) := hq
        rw [hs] at hq2
        rw [nI_1]
        exact ih (i + 1) _ (by omega) hq2
theorem m_hereBits {d : Nat} {h : AHP} {f : Nat} {F : FS} (hS : Std h) (hf : (lay f).1 = 1)  : MM (d + 1) 20 [.ref f] (setF h f F) (fun v h2 => v = some (.int (it (hereS F) 7 0 0)) ∧ h2 = (setF h f F)) := by
  refine ⟨Nat.le_of_ble_eq_true rfl, ?_⟩
  refine t_go (op := o_ci 1 0) (fe_X1_hereBits 0) (fun _ _ => rfl) ?_
  refine t_go (op := o_istore 2 1) (fe_X1_hereBits 1) (fun _ _ => rfl) ?_
  refine t_go (op := o_ci 3 0) (fe_X1_hereBits 2) (fun _ _ => rfl) ?_
  refine t_go (op := o_istore 4 2) (fe_X1_hereBits 3) (fun _ _ => rfl) ?_
  exact l_hereBits hS hf 7 0 0 rfl ⟨rfl, rfl⟩
theorem l_touching {d : Nat} {h : AHP} {f : Nat} {F : FS} {b : Int32} {l1 : Option Value} (hS : Std h) (hf : (lay f).1 = 1)  {Q : Option Value → AHP → Prop} : ∀ (j i : Nat) (S : Int32), i + j = 7 → Q (some (.int (it (touchS F b) j i S))) (setF h f F) → TT (d + 1) 24 25 [some (.ref f), l1, some (.int b), some (.int S), some (.int (nI i))] [] (setF h f F) Q := by
  intro j
  induction j with
  | zero =>
    intro i S hi hq
    have hN : i = 7 := by omega
    refine t_go (op := o_iload 27 4) (fe_X1_touching 25) (fun _ _ => rfl) ?_
    refine t_go (op := o_ci 29 7) (fe_X1_touching 27) (fun _ _ => rfl) ?_
    refine t_ite (op := o_icmp 32 69 (fun x y => y ≤ x) (fun _ _ => inferInstance)) (fe_X1_touching 29) g_icmp (fun c1 => ?_) (fun c1 => ?_)
    · refine t_go (op := o_iload 70 3) (fe_X1_touching 69) (fun _ _ => rfl) ?_
      refine t_ret (op := o_iret) (fe_X1_touching 70) (fun _ _ => rfl) ?_
      exact hq
    · exact absurd (by rw [hN]; exact Int32.le_refl _) c1
  | succ j ih =>
    intro i S hi hq
    have hb : inb (nI i) 7 := inb_n (by omega) (by decide)
    refine t_go (op := o_iload 27 4) (fe_X1_touching 25) (fun _ _ => rfl) ?_
    refine t_go (op := o_ci 29 7) (fe_X1_touching 27) (fun _ _ => rfl) ?_
    refine t_ite (op := o_icmp 32 69 (fun x y => y ≤ x) (fun _ _ => inferInstance)) (fe_X1_touching 29) g_icmp (fun c1 => ?_) (fun c1 => ?_)
    · exact absurd c1 (nI_ge (show i < 7 by omega) (by decide))
    · refine t_go (op := o_aload 33 0) (fe_X1_touching 32) (fun _ _ => rfl) ?_
      refine t_go (op := o_iload 35 4) (fe_X1_touching 33) (fun _ _ => rfl) ?_
      refine t_call (op := o_callV 38 8 2 1) (fe_X1_touching 35) (g_callV hS hf (by decide) rfl rfl rfl (Nat.le_of_ble_eq_true rfl)) ?_
      refine M_mono ?_ (n_has hS hf)
      rintro v h2 ⟨q1, q2⟩
      rw [q1, q2]; clear q1 q2 v h2
      refine t_ite (op := o_if 41 63 (fun x => x = 0) (fun _ => inferInstance)) (fe_X1_touching 38) g_if (fun c2 => ?_) (fun c2 => ?_)
      · refine t_go (op := o_iinc 66 4 1) (fe_X1_touching 63) (fun _ _ => rfl) ?_
        refine t_go (op := o_goto 25) (fe_X1_touching 66) (fun _ _ => rfl) ?_
        have hs : touchS F b i S = _ := if_neg (fun q => b2i_ne.mp c2 q.1)
        have hq2 : Q (some (.int (it (touchS F b) j (i + 1) (touchS F b i S)))) (setF h f F) := hq
        rw [hs] at hq2
        rw [nI_1]
        exact ih (i + 1) _ (by omega) hq2
      · refine t_go (op := o_iload 42 2) (fe_X1_touching 41) (fun _ _ => rfl) ?_
        refine t_go (op := o_aload 43 0) (fe_X1_touching 42) (fun _ _ => rfl) ?_
        refine t_go (op := o_getR 46 1 0) (fe_X1_touching 43) (g_getR hS hf (by decide) (fr_1_0 hS hf) (Nat.succ_pos _)) ?_
        refine t_go (op := o_iload 48 4) (fe_X1_touching 46) (fun _ _ => rfl) ?_
        refine t_go (op := o_iald 49) (fe_X1_touching 48) (g_iald hS (ly_1_1 hf) (by first | assumption | exact inb_1 ‹_› ‹_› (by decide))) ?_
        refine t_go (op := o_i2 50 (fun x y => x >>> (y &&& 31))) (fe_X1_touching 49) (fun _ _ => rfl) ?_
        refine t_go (op := o_ci 51 1) (fe_X1_touching 50) (fun _ _ => rfl) ?_
        refine t_go (op := o_i2 52 (fun x y => x &&& y)) (fe_X1_touching 51) (fun _ _ => rfl) ?_
        refine t_go (op := o_ci 53 1) (fe_X1_touching 52) (fun _ _ => rfl) ?_
        refine t_ite (op := o_icmp 63 56 (fun x y => x = y) (fun _ _ => inferInstance)) (fe_X1_touching 53) g_icmp (fun c3 => ?_) (fun c3 => ?_)
        · refine t_go (op := o_iload 57 3) (fe_X1_touching 56) (fun _ _ => rfl) ?_
          refine t_go (op := o_ci 58 1) (fe_X1_touching 57) (fun _ _ => rfl) ?_
          refine t_go (op := o_iload 60 4) (fe_X1_touching 58) (fun _ _ => rfl) ?_
          refine t_go (op := o_i2 61 (fun x y => x <<< (y &&& 31))) (fe_X1_touching 60) (fun _ _ => rfl) ?_
          refine t_go (op := o_i2 62 (fun x y => x ||| y)) (fe_X1_touching 61) (fun _ _ => rfl) ?_
          refine t_go (op := o_istore 63 3) (fe_X1_touching 62) (fun _ _ => rfl) ?_
          refine t_go (op := o_iinc 66 4 1) (fe_X1_touching 63) (fun _ _ => rfl) ?_
          refine t_go (op := o_goto 25) (fe_X1_touching 66) (fun _ _ => rfl) ?_
          rw [rd_1] at c3
          have hs : touchS F b i S = _ := if_pos ⟨Classical.not_not.mp (fun q => c2 (b2i_f q)), c3⟩
          have hq2 : Q (some (.int (it (touchS F b) j (i + 1) (touchS F b i S)))) (setF h f F) := hq
          rw [hs] at hq2
          rw [nI_1]
          exact ih (i + 1) _ (by omega) hq2
        · refine t_go (op := o_iinc 66 4 1) (fe_X1_touching 63) (fun _ _ => rfl) ?_
          refine t_go (op := o_goto 25) (fe_X1_touching 66) (fun _ _ => rfl) ?_
          rw [rd_1] at c3
          have hs : touchS F b i S = _ := if_neg (fun q => c3 q.2)
          have hq2 : Q (some (.int (it (touchS F b) j (i + 1) (touchS F b i S)))) (setF h f F) := hq
          rw [hs] at hq2
          rw [nI_1]
          exact ih (i + 1) _ (by omega) hq2
theorem m_touching {d : Nat} {h : AHP} {f : Nat} {F : FS} {e : Int32} (hS : Std h) (hf : (lay f).1 = 1)  : MM (d + 2) 24 [.ref f, .int e] (setF h f F) (fun v h2 => v = some (.int (touchB F e)) ∧ h2 = (setF h f F)) := by
  refine ⟨Nat.le_of_ble_eq_true rfl, ?_⟩
  refine t_go (op := o_aload 1 0) (fe_X1_touching 0) (fun _ _ => rfl) ?_
  refine t_go (op := o_iload 2 1) (fe_X1_touching 1) (fun _ _ => rfl) ?_
  refine t_call (op := o_callV 5 8 2 1) (fe_X1_touching 2) (g_callV hS hf (by decide) rfl rfl rfl (Nat.le_of_ble_eq_true rfl)) ?_
  refine M_mono ?_ (n_has hS hf)
  rintro v h2 ⟨q1, q2⟩
  rw [q1, q2]; clear q1 q2 v h2
  refine t_ite (op := o_if 10 8 (fun x => x = 0) (fun _ => inferInstance)) (fe_X1_touching 5) g_if (fun c1 => ?_) (fun c1 => ?_)
  · refine t_go (op := o_ci 9 0) (fe_X1_touching 8) (fun _ _ => rfl) ?_
    refine t_ret (op := o_iret) (fe_X1_touching 9) (fun _ _ => rfl) ?_
    exact ⟨by unfold touchB; rw [if_neg (b2i_ne.mp c1)], rfl⟩
  · have hp := Classical.not_not.mp (fun q => c1 (b2i_f q))
    have hb := inb_1 hp.1 hp.2.1 (show (7 : Int32).toInt = (7 : Nat) by decide)
    refine t_go (op := o_aload 11 0) (fe_X1_touching 10) (fun _ _ => rfl) ?_
    refine t_go (op := o_getR 14 1 0) (fe_X1_touching 11) (g_getR hS hf (by decide) (fr_1_0 hS hf) (Nat.succ_pos _)) ?_
    refine t_go (op := o_iload 15 1) (fe_X1_touching 14) (fun _ _ => rfl) ?_
    refine t_go (op := o_iald 16) (fe_X1_touching 15) (g_iald hS (ly_1_1 hf) hb) ?_
    rw [rd_1]
    refine t_call (op := o_callS 19 29 1) (fe_X1_touching 16) (g_callS rfl rfl rfl (Nat.le_of_ble_eq_true rfl)) ?_
    refine M_mono ?_ (m_besideOf)
    rintro v h2 ⟨q1, q2⟩
    rw [q1, q2]; clear q1 q2 v h2
    refine t_go (op := o_istore 20 2) (fe_X1_touching 19) (fun _ _ => rfl) ?_
    refine t_go (op := o_ci 21 0) (fe_X1_touching 20) (fun _ _ => rfl) ?_
    refine t_go (op := o_istore 22 3) (fe_X1_touching 21) (fun _ _ => rfl) ?_
    refine t_go (op := o_ci 23 0) (fe_X1_touching 22) (fun _ _ => rfl) ?_
    refine t_go (op := o_istore 25 4) (fe_X1_touching 23) (fun _ _ => rfl) ?_
    exact l_touching hS hf 7 0 0 rfl ⟨by unfold touchB; rw [if_pos hp], rfl⟩
theorem l_heatBeside {d : Nat} {h : AHP} {f : Nat} {F : FS} {b : Int32} {l1 : Option Value} (hS : Std h) (hf : (lay f).1 = 1)  {Q : Option Value → AHP → Prop} : ∀ (j i : Nat) (S : Int32), i + j = 7 → Q (some (.int (it (besideS F b) j i S))) (setF h f F) → TT (d + 1) 23 10 [some (.ref f), l1, some (.int b), some (.int S), some (.int (nI i))] [] (setF h f F) Q := by
  intro j
  induction j with
  | zero =>
    intro i S hi hq
    have hN : i = 7 := by omega
    refine t_go (op := o_iload 12 4) (fe_X1_heatBeside 10) (fun _ _ => rfl) ?_
    refine t_go (op := o_ci 14 7) (fe_X1_heatBeside 12) (fun _ _ => rfl) ?_
    refine t_ite (op := o_icmp 17 57 (fun x y => y ≤ x) (fun _ _ => inferInstance)) (fe_X1_heatBeside 14) g_icmp (fun c1 => ?_) (fun c1 => ?_)
    · refine t_go (op := o_iload 58 3) (fe_X1_heatBeside 57) (fun _ _ => rfl) ?_
      refine t_ret (op := o_iret) (fe_X1_heatBeside 58) (fun _ _ => rfl) ?_
      exact hq
    · exact absurd (by rw [hN]; exact Int32.le_refl _) c1
  | succ j ih =>
    intro i S hi hq
    have hb : inb (nI i) 7 := inb_n (by omega) (by decide)
    refine t_go (op := o_iload 12 4) (fe_X1_heatBeside 10) (fun _ _ => rfl) ?_
    refine t_go (op := o_ci 14 7) (fe_X1_heatBeside 12) (fun _ _ => rfl) ?_
    refine t_ite (op := o_icmp 17 57 (fun x y => y ≤ x) (fun _ _ => inferInstance)) (fe_X1_heatBeside 14) g_icmp (fun c1 => ?_) (fun c1 => ?_)
    · exact absurd c1 (nI_ge (show i < 7 by omega) (by decide))
    · refine t_go (op := o_aload 18 0) (fe_X1_heatBeside 17) (fun _ _ => rfl) ?_
      refine t_go (op := o_iload 20 4) (fe_X1_heatBeside 18) (fun _ _ => rfl) ?_
      refine t_call (op := o_callV 23 8 2 1) (fe_X1_heatBeside 20) (g_callV hS hf (by decide) rfl rfl rfl (Nat.le_of_ble_eq_true rfl)) ?_
      refine M_mono ?_ (n_has hS hf)
      rintro v h2 ⟨q1, q2⟩
      rw [q1, q2]; clear q1 q2 v h2
      refine t_ite (op := o_if 26 51 (fun x => x = 0) (fun _ => inferInstance)) (fe_X1_heatBeside 23) g_if (fun c2 => ?_) (fun c2 => ?_)
      · refine t_go (op := o_iinc 54 4 1) (fe_X1_heatBeside 51) (fun _ _ => rfl) ?_
        refine t_go (op := o_goto 10) (fe_X1_heatBeside 54) (fun _ _ => rfl) ?_
        have hs : besideS F b i S = _ := if_neg (fun q => b2i_ne.mp c2 q.1)
        have hq2 : Q (some (.int (it (besideS F b) j (i + 1) (besideS F b i S)))) (setF h f F) := hq
        rw [hs] at hq2
        rw [nI_1]
        exact ih (i + 1) _ (by omega) hq2
      · refine t_go (op := o_iload 27 2) (fe_X1_heatBeside 26) (fun _ _ => rfl) ?_
        refine t_go (op := o_aload 28 0) (fe_X1_heatBeside 27) (fun _ _ => rfl) ?_
        refine t_go (op := o_getR 31 1 0) (fe_X1_heatBeside 28) (g_getR hS hf (by decide) (fr_1_0 hS hf) (Nat.succ_pos _)) ?_
        refine t_go (op := o_iload 33 4) (fe_X1_heatBeside 31) (fun _ _ => rfl) ?_
        refine t_go (op := o_iald 34) (fe_X1_heatBeside 33) (g_iald hS (ly_1_1 hf) (by first | assumption | exact inb_1 ‹_› ‹_› (by decide))) ?_
        refine t_go (op := o_i2 35 (fun x y => x >>> (y &&& 31))) (fe_X1_heatBeside 34) (fun _ _ => rfl) ?_
        refine t_go (op := o_ci 36 1) (fe_X1_heatBeside 35) (fun _ _ => rfl) ?_
        refine t_go (op := o_i2 37 (fun x y => x &&& y)) (fe_X1_heatBeside 36) (fun _ _ => rfl) ?_
        refine t_go (op := o_ci 38 1) (fe_X1_heatBeside 37) (fun _ _ => rfl) ?_
        refine t_ite (op := o_icmp 51 41 (fun x y => x = y) (fun _ _ => inferInstance)) (fe_X1_heatBeside 38) g_icmp (fun c3 => ?_) (fun c3 => ?_)
        · refine t_go (op := o_iload 42 3) (fe_X1_heatBeside 41) (fun _ _ => rfl) ?_
          refine t_go (op := o_aload 43 0) (fe_X1_heatBeside 42) (fun _ _ => rfl) ?_
          refine t_go (op := o_getR 46 1 1) (fe_X1_heatBeside 43) (g_getR hS hf (by decide) (fr_1_1 hS hf) (Nat.succ_pos _)) ?_
          refine t_go (op := o_iload 48 4) (fe_X1_heatBeside 46) (fun _ _ => rfl) ?_
          refine t_go (op := o_iald 49) (fe_X1_heatBeside 48) (g_iald hS (ly_1_2 hf) (by first | assumption | exact inb_1 ‹_› ‹_› (by decide))) ?_
          refine t_go (op := o_i2 50 (fun x y => x + y)) (fe_X1_heatBeside 49) (fun _ _ => rfl) ?_
          refine t_go (op := o_istore 51 3) (fe_X1_heatBeside 50) (fun _ _ => rfl) ?_
          refine t_go (op := o_iinc 54 4 1) (fe_X1_heatBeside 51) (fun _ _ => rfl) ?_
          refine t_go (op := o_goto 10) (fe_X1_heatBeside 54) (fun _ _ => rfl) ?_
          rw [rd_1] at c3
          rw [rd_2]
          have hs : besideS F b i S = _ := if_pos ⟨Classical.not_not.mp (fun q => c2 (b2i_f q)), c3⟩
          have hq2 : Q (some (.int (it (besideS F b) j (i + 1) (besideS F b i S)))) (setF h f F) := hq
          rw [hs] at hq2
          rw [nI_1]
          exact ih (i + 1) _ (by omega) hq2
        · refine t_go (op := o_iinc 54 4 1) (fe_X1_heatBeside 51) (fun _ _ => rfl) ?_
          refine t_go (op := o_goto 10) (fe_X1_heatBeside 54) (fun _ _ => rfl) ?_
          rw [rd_1] at c3
          have hs : besideS F b i S = _ := if_neg (fun q => c3 q.2)
          have hq2 : Q (some (.int (it (besideS F b) j (i + 1) (besideS F b i S)))) (setF h f F) := hq
          rw [hs] at hq2
          rw [nI_1]
          exact ih (i + 1) _ (by omega) hq2
theorem m_heatBeside {d : Nat} {h : AHP} {f : Nat} {F : FS} {c : Int32} (hS : Std h) (hf : (lay f).1 = 1)  : MM (d + 2) 23 [.ref f, .int c] (setF h f F) (fun v h2 => v = some (.int (it (besideS F (besV c)) 7 0 0)) ∧ h2 = (setF h f F)) := by
  refine ⟨Nat.le_of_ble_eq_true rfl, ?_⟩
  refine t_go (op := o_iload 1 1) (fe_X1_heatBeside 0) (fun _ _ => rfl) ?_
  refine t_call (op := o_callS 4 29 1) (fe_X1_heatBeside 1) (g_callS rfl rfl rfl (Nat.le_of_ble_eq_true rfl)) ?_
  refine M_mono ?_ (m_besideOf)
  rintro v h2 ⟨q1, q2⟩
  rw [q1, q2]; clear q1 q2 v h2
  refine t_go (op := o_istore 5 2) (fe_X1_heatBeside 4) (fun _ _ => rfl) ?_
  refine t_go (op := o_ci 6 0) (fe_X1_heatBeside 5) (fun _ _ => rfl) ?_
  refine t_go (op := o_istore 7 3) (fe_X1_heatBeside 6) (fun _ _ => rfl) ?_
  refine t_go (op := o_ci 8 0) (fe_X1_heatBeside 7) (fun _ _ => rfl) ?_
  refine t_go (op := o_istore 10 4) (fe_X1_heatBeside 8) (fun _ _ => rfl) ?_
  exact l_heatBeside hS hf 7 0 0 rfl ⟨rfl, rfl⟩
theorem l_takeOutAll {d : Nat} {h : AHP} {f : Nat} {b : Int32} (hS : Std h) (hf : (lay f).1 = 1)  {Q : Option Value → AHP → Prop} : ∀ (j i : Nat) (S : FS), i + j = 7 → Q none (setF h f (it (takeS b) j i S)) → TT (d + 2) 12 2 [some (.ref f), some (.int b), some (.int (nI i))] [] (setF h f S) Q := by
  intro j
  induction j with
  | zero =>
    intro i S hi hq
    have hN : i = 7 := by omega
    refine t_go (op := o_iload 3 2) (fe_X1_takeOutAll 2) (fun _ _ => rfl) ?_
    refine t_go (op := o_ci 5 7) (fe_X1_takeOutAll 3) (fun _ _ => rfl) ?_
    refine t_ite (op := o_icmp 8 28 (fun x y => y ≤ x) (fun _ _ => inferInstance)) (fe_X1_takeOutAll 5) g_icmp (fun c1 => ?_) (fun c1 => ?_)
    · refine t_ret (op := o_vret) (fe_X1_takeOutAll 28) (fun _ _ => rfl) ?_
      exact hq
    · exact absurd (by rw [hN]; exact Int32.le_refl _) c1
  | succ j ih =>
    intro i S hi hq
    have hb : inb (nI i) 7 := inb_n (by omega) (by decide)
    refine t_go (op := o_iload 3 2) (fe_X1_takeOutAll 2) (fun _ _ => rfl) ?_
    refine t_go (op := o_ci 5 7) (fe_X1_takeOutAll 3) (fun _ _ => rfl) ?_
    refine t_ite (op := o_icmp 8 28 (fun x y => y ≤ x) (fun _ _ => inferInstance)) (fe_X1_takeOutAll 5) g_icmp (fun c1 => ?_) (fun c1 => ?_)
    · exact absurd c1 (nI_ge (show i < 7 by omega) (by decide))
    · refine t_go (op := o_iload 9 1) (fe_X1_takeOutAll 8) (fun _ _ => rfl) ?_
      refine t_go (op := o_iload 10 2) (fe_X1_takeOutAll 9) (fun _ _ => rfl) ?_
      refine t_go (op := o_i2 11 (fun x y => x >>> (y &&& 31))) (fe_X1_takeOutAll 10) (fun _ _ => rfl) ?_
      refine t_go (op := o_ci 12 1) (fe_X1_takeOutAll 11) (fun _ _ => rfl) ?_
      refine t_go (op := o_i2 13 (fun x y => x &&& y)) (fe_X1_takeOutAll 12) (fun _ _ => rfl) ?_
      refine t_go (op := o_ci 14 1) (fe_X1_takeOutAll 13) (fun _ _ => rfl) ?_
      refine t_ite (op := o_icmp 22 17 (fun x y => x = y) (fun _ _ => inferInstance)) (fe_X1_takeOutAll 14) g_icmp (fun c2 => ?_) (fun c2 => ?_)
      · refine t_go (op := o_aload 18 0) (fe_X1_takeOutAll 17) (fun _ _ => rfl) ?_
        refine t_go (op := o_iload 19 2) (fe_X1_takeOutAll 18) (fun _ _ => rfl) ?_
        refine t_call (op := o_callV 22 11 2 1) (fe_X1_takeOutAll 19) (g_callV hS hf (by decide) rfl rfl rfl (Nat.le_of_ble_eq_true rfl)) ?_
        refine M_mono ?_ (n_takeOut hS hf)
        rintro v h2 ⟨q1, q2⟩
        rw [q1, q2]; clear q1 q2 v h2
        refine t_go (op := o_iinc 25 2 1) (fe_X1_takeOutAll 22) (fun _ _ => rfl) ?_
        refine t_go (op := o_goto 2) (fe_X1_takeOutAll 25) (fun _ _ => rfl) ?_
        have hs : takeS b i S = _ := if_pos c2
        have hq2 : Q none (setF h f (it (takeS b) j (i + 1) (takeS b i S))) := hq
        rw [hs] at hq2
        rw [nI_1]
        exact ih (i + 1) _ (by omega) hq2
      · refine t_go (op := o_iinc 25 2 1) (fe_X1_takeOutAll 22) (fun _ _ => rfl) ?_
        refine t_go (op := o_goto 2) (fe_X1_takeOutAll 25) (fun _ _ => rfl) ?_
        have hs : takeS b i S = _ := if_neg c2
        have hq2 : Q none (setF h f (it (takeS b) j (i + 1) (takeS b i S))) := hq
        rw [hs] at hq2
        rw [nI_1]
        exact ih (i + 1) _ (by omega) hq2
theorem m_takeOutAll {d : Nat} {h : AHP} {f : Nat} {F : FS} {b : Int32} (hS : Std h) (hf : (lay f).1 = 1)  : MM (d + 2) 12 [.ref f, .int b] (setF h f F) (fun v h2 => v = none ∧ h2 = setF h f (it (takeS b) 7 0 F)) := by
  refine ⟨Nat.le_of_ble_eq_true rfl, ?_⟩
  refine t_go (op := o_ci 1 0) (fe_X1_takeOutAll 0) (fun _ _ => rfl) ?_
  refine t_go (op := o_istore 2 2) (fe_X1_takeOutAll 1) (fun _ _ => rfl) ?_
  exact l_takeOutAll hS hf 7 0 F rfl ⟨rfl, rfl⟩
theorem l_giveFullHeat {d : Nat} {h : AHP} {f : Nat} {b : Int32} (hS : Std h) (hf : (lay f).1 = 1)  {Q : Option Value → AHP → Prop} : ∀ (j i : Nat) (S : FS), i + j = 7 → Q none (setF h f (it (fullS b) j i S)) → TT (d + 1) 13 2 [some (.ref f), some (.int b), some (.int (nI i))] [] (setF h f S) Q := by
  intro j
  induction j with
  | zero =>
    intro i S hi hq
    have hN : i = 7 := by omega
    refine t_go (op := o_iload 3 2) (fe_X1_giveFullHeat 2) (fun _ _ => rfl) ?_
    refine t_go (op := o_ci 5 7) (fe_X1_giveFullHeat 3) (fun _ _ => rfl) ?_
    refine t_ite (op := o_icmp 8 39 (fun x y => y ≤ x) (fun _ _ => inferInstance)) (fe_X1_giveFullHeat 5) g_icmp (fun c1 => ?_) (fun c1 => ?_)
    · refine t_ret (op := o_vret) (fe_X1_giveFullHeat 39) (fun _ _ => rfl) ?_
      exact hq
    · exact absurd (by rw [hN]; exact Int32.le_refl _) c1
  | succ j ih =>
    intro i S hi hq
    have hb : inb (nI i) 7 := inb_n (by omega) (by decide)
    refine t_go (op := o_iload 3 2) (fe_X1_giveFullHeat 2) (fun _ _ => rfl) ?_
    refine t_go (op := o_ci 5 7) (fe_X1_giveFullHeat 3) (fun _ _ => rfl) ?_
    refine t_ite (op := o_icmp 8 39 (fun x y => y ≤ x) (fun _ _ => inferInstance)) (fe_X1_giveFullHeat 5) g_icmp (fun c1 => ?_) (fun c1 => ?_)
    · exact absurd c1 (nI_ge (show i < 7 by omega) (by decide))
    · refine t_go (op := o_iload 9 1) (fe_X1_giveFullHeat 8) (fun _ _ => rfl) ?_
      refine t_go (op := o_iload 10 2) (fe_X1_giveFullHeat 9) (fun _ _ => rfl) ?_
      refine t_go (op := o_i2 11 (fun x y => x >>> (y &&& 31))) (fe_X1_giveFullHeat 10) (fun _ _ => rfl) ?_
      refine t_go (op := o_ci 12 1) (fe_X1_giveFullHeat 11) (fun _ _ => rfl) ?_
      refine t_go (op := o_i2 13 (fun x y => x &&& y)) (fe_X1_giveFullHeat 12) (fun _ _ => rfl) ?_
      refine t_go (op := o_ci 14 1) (fe_X1_giveFullHeat 13) (fun _ _ => rfl) ?_
      refine t_ite (op := o_icmp 33 17 (fun x y => x = y) (fun _ _ => inferInstance)) (fe_X1_giveFullHeat 14) g_icmp (fun c2 => ?_) (fun c2 => ?_)
      · refine t_go (op := o_aload 18 0) (fe_X1_giveFullHeat 17) (fun _ _ => rfl) ?_
        refine t_go (op := o_iload 19 2) (fe_X1_giveFullHeat 18) (fun _ _ => rfl) ?_
        refine t_call (op := o_callV 22 8 2 1) (fe_X1_giveFullHeat 19) (g_callV hS hf (by decide) rfl rfl rfl (Nat.le_of_ble_eq_true rfl)) ?_
        refine M_mono ?_ (n_has hS hf)
        rintro v h2 ⟨q1, q2⟩
        rw [q1, q2]; clear q1 q2 v h2
        refine t_ite (op := o_if 25 33 (fun x => x = 0) (fun _ => inferInstance)) (fe_X1_giveFullHeat 22) g_if (fun c3 => ?_) (fun c3 => ?_)
        · refine t_go (op := o_iinc 36 2 1) (fe_X1_giveFullHeat 33) (fun _ _ => rfl) ?_
          refine t_go (op := o_goto 2) (fe_X1_giveFullHeat 36) (fun _ _ => rfl) ?_
          have hs : fullS b i S = _ := if_neg (fun q => b2i_ne.mp c3 q.2)
          have hq2 : Q none (setF h f (it (fullS b) j (i + 1) (fullS b i S))) := hq
          rw [hs] at hq2
          rw [nI_1]
          exact ih (i + 1) _ (by omega) hq2
        · refine t_go (op := o_aload 26 0) (fe_X1_giveFullHeat 25) (fun _ _ => rfl) ?_
          refine t_go (op := o_getR 29 1 1) (fe_X1_giveFullHeat 26) (g_getR hS hf (by decide) (fr_1_1 hS hf) (Nat.succ_pos _)) ?_
          refine t_go (op := o_iload 30 2) (fe_X1_giveFullHeat 29) (fun _ _ => rfl) ?_
          refine t_go (op := o_ci 32 20) (fe_X1_giveFullHeat 30) (fun _ _ => rfl) ?_
          refine t_go (op := o_iast 33) (fe_X1_giveFullHeat 32) (g_iast hS (ly_1_2 hf) (by first | assumption | exact inb_1 ‹_› ‹_› (by decide))) ?_
          refine t_go (op := o_iinc 36 2 1) (fe_X1_giveFullHeat 33) (fun _ _ => rfl) ?_
          refine t_go (op := o_goto 2) (fe_X1_giveFullHeat 36) (fun _ _ => rfl) ?_
          rw [setF_2]
          have hs : fullS b i S = _ := if_pos ⟨c2, Classical.not_not.mp (fun q => c3 (b2i_f q))⟩
          have hq2 : Q none (setF h f (it (fullS b) j (i + 1) (fullS b i S))) := hq
          rw [hs] at hq2
          rw [nI_1]
          exact ih (i + 1) _ (by omega) hq2
      · refine t_go (op := o_iinc 36 2 1) (fe_X1_giveFullHeat 33) (fun _ _ => rfl) ?_
        refine t_go (op := o_goto 2) (fe_X1_giveFullHeat 36) (fun _ _ => rfl) ?_
        have hs : fullS b i S = _ := if_neg (fun q => c2 q.1)
        have hq2 : Q none (setF h f (it (fullS b) j (i + 1) (fullS b i S))) := hq
        rw [hs] at hq2
        rw [nI_1]
        exact ih (i + 1) _ (by omega) hq2
theorem m_giveFullHeat {d : Nat} {h : AHP} {f : Nat} {F : FS} {b : Int32} (hS : Std h) (hf : (lay f).1 = 1)  : MM (d + 1) 13 [.ref f, .int b] (setF h f F) (fun v h2 => v = none ∧ h2 = setF h f (it (fullS b) 7 0 F)) := by
  refine ⟨Nat.le_of_ble_eq_true rfl, ?_⟩
  refine t_go (op := o_ci 1 0) (fe_X1_giveFullHeat 0) (fun _ _ => rfl) ?_
  refine t_go (op := o_istore 2 2) (fe_X1_giveFullHeat 1) (fun _ _ => rfl) ?_
  exact l_giveFullHeat hS hf 7 0 F rfl ⟨rfl, rfl⟩
theorem l_clear {d : Nat} {h : AHP} {f : Nat} (hS : Std h) (hf : (lay f).1 = 1)  {Q : Option Value → AHP → Prop} : ∀ (j i : Nat) (S : FS), i + j = 7 → Q none (setF h f ((it clearS j i S).1, (it clearS j i S).2.1, (it clearS j i S).2.2.1, (it clearS j i S).2.2.2.1, 0, 0)) → TT (d + 2) 6 2 [some (.ref f), some (.int (nI i))] [] (setF h f S) Q := by
  intro j
  induction j with
  | zero =>
    intro i S hi hq
    have hN : i = 7 := by omega
    refine t_go (op := o_iload 3 1) (fe_X1_clear 2) (fun _ _ => rfl) ?_
    refine t_go (op := o_ci 5 7) (fe_X1_clear 3) (fun _ _ => rfl) ?_
    refine t_ite (op := o_icmp 8 19 (fun x y => y ≤ x) (fun _ _ => inferInstance)) (fe_X1_clear 5) g_icmp (fun c1 => ?_) (fun c1 => ?_)
    · refine t_go (op := o_aload 20 0) (fe_X1_clear 19) (fun _ _ => rfl) ?_
      refine t_go (op := o_ci 21 0) (fe_X1_clear 20) (fun _ _ => rfl) ?_
      refine t_go (op := o_putI 24 1 4) (fe_X1_clear 21) (g_putI hS hf (by decide)) ?_
      refine t_go (op := o_aload 25 0) (fe_X1_clear 24) (fun _ _ => rfl) ?_
      refine t_go (op := o_ci 26 0) (fe_X1_clear 25) (fun _ _ => rfl) ?_
      refine t_go (op := o_putZ 29 1 5) (fe_X1_clear 26) (g_putZ hS hf (by decide) (by decide)) ?_
      refine t_ret (op := o_vret) (fe_X1_clear 29) (fun _ _ => rfl) ?_
      rw [setF_h, setF_b]
      exact hq
    · exact absurd (by rw [hN]; exact Int32.le_refl _) c1
  | succ j ih =>
    intro i S hi hq
    have hb : inb (nI i) 7 := inb_n (by omega) (by decide)
    refine t_go (op := o_iload 3 1) (fe_X1_clear 2) (fun _ _ => rfl) ?_
    refine t_go (op := o_ci 5 7) (fe_X1_clear 3) (fun _ _ => rfl) ?_
    refine t_ite (op := o_icmp 8 19 (fun x y => y ≤ x) (fun _ _ => inferInstance)) (fe_X1_clear 5) g_icmp (fun c1 => ?_) (fun c1 => ?_)
    · exact absurd c1 (nI_ge (show i < 7 by omega) (by decide))
    · refine t_go (op := o_aload 9 0) (fe_X1_clear 8) (fun _ _ => rfl) ?_
      refine t_go (op := o_iload 10 1) (fe_X1_clear 9) (fun _ _ => rfl) ?_
      refine t_call (op := o_callV 13 11 2 1) (fe_X1_clear 10) (g_callV hS hf (by decide) rfl rfl rfl (Nat.le_of_ble_eq_true rfl)) ?_
      refine M_mono ?_ (n_takeOut hS hf)
      rintro v h2 ⟨q1, q2⟩
      rw [q1, q2]; clear q1 q2 v h2
      refine t_go (op := o_iinc 16 1 1) (fe_X1_clear 13) (fun _ _ => rfl) ?_
      refine t_go (op := o_goto 2) (fe_X1_clear 16) (fun _ _ => rfl) ?_
      rw [nI_1]
      exact ih (i + 1) _ (by omega) hq
theorem m_clear {d : Nat} {h : AHP} {f : Nat} {F : FS} (hS : Std h) (hf : (lay f).1 = 1)  : MM (d + 2) 6 [.ref f] (setF h f F) (fun v h2 => v = none ∧ h2 = setF h f (clearF F)) := by
  refine ⟨Nat.le_of_ble_eq_true rfl, ?_⟩
  refine t_go (op := o_ci 1 0) (fe_X1_clear 0) (fun _ _ => rfl) ?_
  refine t_go (op := o_istore 2 1) (fe_X1_clear 1) (fun _ _ => rfl) ?_
  exact l_clear hS hf 7 0 F rfl ⟨rfl, rfl⟩
theorem l_burn {d : Nat} {h : AHP} {f g : Nat} {b : Int32} {k : Nat → Int32} (hS : Std h) (hf : (lay f).1 = 1) (hg : (lay g).1 = 3) (hkr : h.1 (g + 2) = k)  {Q : Option Value → AHP → Prop} : ∀ (j i : Nat) (S : FS × Int32), i + j = 7 → Q (some (.int (it (burnS k b) j i S).2)) (setF h f (it (burnS k b) j i S).1) → TT (d + 2) 28 5 [some (.ref f), some (.ref g), some (.int b), some (.int S.2), some (.int (nI i))] [] (setF h f S.1) Q := by
  intro j
  induction j with
  | zero =>
    intro i S hi hq
    have hN : i = 7 := by omega
    refine t_go (op := o_iload 7 4) (fe_X1_burn 5) (fun _ _ => rfl) ?_
    refine t_go (op := o_ci 9 7) (fe_X1_burn 7) (fun _ _ => rfl) ?_
    refine t_ite (op := o_icmp 12 77 (fun x y => y ≤ x) (fun _ _ => inferInstance)) (fe_X1_burn 9) g_icmp (fun c1 => ?_) (fun c1 => ?_)
    · refine t_go (op := o_iload 78 3) (fe_X1_burn 77) (fun _ _ => rfl) ?_
      refine t_ret (op := o_iret) (fe_X1_burn 78) (fun _ _ => rfl) ?_
      exact hq
    · exact absurd (by rw [hN]; exact Int32.le_refl _) c1
  | succ j ih =>
    intro i S hi hq
    have hb : inb (nI i) 7 := inb_n (by omega) (by decide)
    refine t_go (op := o_iload 7 4) (fe_X1_burn 5) (fun _ _ => rfl) ?_
    refine t_go (op := o_ci 9 7) (fe_X1_burn 7) (fun _ _ => rfl) ?_
    refine t_ite (op := o_icmp 12 77 (fun x y => y ≤ x) (fun _ _ => inferInstance)) (fe_X1_burn 9) g_icmp (fun c1 => ?_) (fun c1 => ?_)
    · exact absurd c1 (nI_ge (show i < 7 by omega) (by decide))
    · refine t_go (op := o_iload 13 2) (fe_X1_burn 12) (fun _ _ => rfl) ?_
      refine t_go (op := o_iload 15 4) (fe_X1_burn 13) (fun _ _ => rfl) ?_
      refine t_go (op := o_i2 16 (fun x y => x >>> (y &&& 31))) (fe_X1_burn 15) (fun _ _ => rfl) ?_
      refine t_go (op := o_ci 17 1) (fe_X1_burn 16) (fun _ _ => rfl) ?_
      refine t_go (op := o_i2 18 (fun x y => x &&& y)) (fe_X1_burn 17) (fun _ _ => rfl) ?_
      refine t_go (op := o_ci 19 1) (fe_X1_burn 18) (fun _ _ => rfl) ?_
      refine t_ite (op := o_icmp 71 22 (fun x y => x = y) (fun _ _ => inferInstance)) (fe_X1_burn 19) g_icmp (fun c2 => ?_) (fun c2 => ?_)
      · refine t_go (op := o_aload 23 0) (fe_X1_burn 22) (fun _ _ => rfl) ?_
        refine t_go (op := o_getR 26 1 2) (fe_X1_burn 23) (g_getR hS hf (by decide) (fr_1_2 hS hf) (Nat.succ_pos _)) ?_
        refine t_go (op := o_iload 28 4) (fe_X1_burn 26) (fun _ _ => rfl) ?_
        refine t_go (op := o_dup2 29) (fe_X1_burn 28) (fun _ _ => rfl) ?_
        refine t_go (op := o_iald 30) (fe_X1_burn 29) (g_iald hS (ly_1_3 hf) (by first | assumption | exact inb_1 ‹_› ‹_› (by decide))) ?_
        refine t_go (op := o_aload 31 1) (fe_X1_burn 30) (fun _ _ => rfl) ?_
        refine t_go (op := o_getR 34 3 1) (fe_X1_burn 31) (g_getR hS hg (by decide) (fr_3_1 hS hg) (Nat.succ_pos _)) ?_
        refine t_go (op := o_iload 36 4) (fe_X1_burn 34) (fun _ _ => rfl) ?_
        refine t_go (op := o_iald 37) (fe_X1_burn 36) (g_iald hS (ly_3_2 hg) (by first | assumption | exact inb_1 ‹_› ‹_› (by decide))) ?_
        refine t_go (op := o_ci 38 1) (fe_X1_burn 37) (fun _ _ => rfl) ?_
        refine t_ite (op := o_icmp 45 41 (fun x y => x = y) (fun _ _ => inferInstance)) (fe_X1_burn 38) g_icmp (fun c3 => ?_) (fun c3 => ?_)
        · refine t_go (op := o_ci 42 2) (fe_X1_burn 41) (fun _ _ => rfl) ?_
          refine t_go (op := o_goto 46) (fe_X1_burn 42) (fun _ _ => rfl) ?_
          refine t_go (op := o_i2 47 (fun x y => x - y)) (fe_X1_burn 46) (fun _ _ => rfl) ?_
          refine t_go (op := o_iast 48) (fe_X1_burn 47) (g_iast hS (ly_1_3 hf) (by first | assumption | exact inb_1 ‹_› ‹_› (by decide))) ?_
          rw [setF_row (a := g + 2) (by have := fire_grate hf hg; omega), hkr] at c3
          rw [rd_3, setF_3]
          refine t_go (op := o_aload 49 0) (fe_X1_burn 48) (fun _ _ => rfl) ?_
          refine t_go (op := o_getR 52 1 2) (fe_X1_burn 49) (g_getR hS hf (by decide) (fr_1_2 hS hf) (Nat.succ_pos _)) ?_
          refine t_go (op := o_iload 54 4) (fe_X1_burn 52) (fun _ _ => rfl) ?_
          refine t_go (op := o_iald 55) (fe_X1_burn 54) (g_iald hS (ly_1_3 hf) (by first | assumption | exact inb_1 ‹_› ‹_› (by decide))) ?_
          rw [rd_3]
          refine t_ite (op := o_if 58 71 (fun x => 0 < x) (fun _ => inferInstance)) (fe_X1_burn 55) g_if (fun c4 => ?_) (fun c4 => ?_)
          · refine t_go (op := o_iinc 74 4 1) (fe_X1_burn 71) (fun _ _ => rfl) ?_
            refine t_go (op := o_goto 5) (fe_X1_burn 74) (fun _ _ => rfl) ?_
            have hk : burnF1 k i S.1 = (S.1.1, S.1.2.1, fup S.1.2.2.1 (nI i).toNatClampNeg (S.1.2.2.1 (nI i).toNatClampNeg - 2), S.1.2.2.2) := by unfold burnF1; rw [if_pos c3]
            have hs : burnS k b i S = _ := if_pos c2
            rw [hk, if_pos c4] at hs
            have hq2 : Q (some (.int (it (burnS k b) j (i + 1) (burnS k b i S)).2)) (setF h f (it (burnS k b) j (i + 1) (burnS k b i S)).1) := hq
            rw [hs] at hq2
            rw [nI_1]
            exact ih (i + 1) (_, _) (by omega) hq2
          · refine t_go (op := o_aload 59 0) (fe_X1_burn 58) (fun _ _ => rfl) ?_
            refine t_go (op := o_iload 61 4) (fe_X1_burn 59) (fun _ _ => rfl) ?_
            refine t_call (op := o_callV 64 11 2 1) (fe_X1_burn 61) (g_callV hS hf (by decide) rfl rfl rfl (Nat.le_of_ble_eq_true rfl)) ?_
            refine M_mono ?_ (n_takeOut hS hf)
            rintro v h2 ⟨q1, q2⟩
            rw [q1, q2]; clear q1 q2 v h2
            refine t_go (op := o_iload 65 3) (fe_X1_burn 64) (fun _ _ => rfl) ?_
            refine t_go (op := o_ci 66 1) (fe_X1_burn 65) (fun _ _ => rfl) ?_
            refine t_go (op := o_iload 68 4) (fe_X1_burn 66) (fun _ _ => rfl) ?_
            refine t_go (op := o_i2 69 (fun x y => x <<< (y &&& 31))) (fe_X1_burn 68) (fun _ _ => rfl) ?_
            refine t_go (op := o_i2 70 (fun x y => x ||| y)) (fe_X1_burn 69) (fun _ _ => rfl) ?_
            refine t_go (op := o_istore 71 3) (fe_X1_burn 70) (fun _ _ => rfl) ?_
            refine t_go (op := o_iinc 74 4 1) (fe_X1_burn 71) (fun _ _ => rfl) ?_
            refine t_go (op := o_goto 5) (fe_X1_burn 74) (fun _ _ => rfl) ?_
            have hk : burnF1 k i S.1 = (S.1.1, S.1.2.1, fup S.1.2.2.1 (nI i).toNatClampNeg (S.1.2.2.1 (nI i).toNatClampNeg - 2), S.1.2.2.2) := by unfold burnF1; rw [if_pos c3]
            have hs : burnS k b i S = _ := if_pos c2
            rw [hk, if_neg c4] at hs
            have hq2 : Q (some (.int (it (burnS k b) j (i + 1) (burnS k b i S)).2)) (setF h f (it (burnS k b) j (i + 1) (burnS k b i S)).1) := hq
            rw [hs] at hq2
            rw [nI_1]
            exact ih (i + 1) (_, _) (by omega) hq2
        · refine t_go (op := o_ci 46 1) (fe_X1_burn 45) (fun _ _ => rfl) ?_
          refine t_go (op := o_i2 47 (fun x y => x - y)) (fe_X1_burn 46) (fun _ _ => rfl) ?_
          refine t_go (op := o_iast 48) (fe_X1_burn 47) (g_iast hS (ly_1_3 hf) (by first | assumption | exact inb_1 ‹_› ‹_› (by decide))) ?_
          rw [setF_row (a := g + 2) (by have := fire_grate hf hg; omega), hkr] at c3
          rw [rd_3, setF_3]
          refine t_go (op := o_aload 49 0) (fe_X1_burn 48) (fun _ _ => rfl) ?_
          refine t_go (op := o_getR 52 1 2) (fe_X1_burn 49) (g_getR hS hf (by decide) (fr_1_2 hS hf) (Nat.succ_pos _)) ?_
          refine t_go (op := o_iload 54 4) (fe_X1_burn 52) (fun _ _ => rfl) ?_
          refine t_go (op := o_iald 55) (fe_X1_burn 54) (g_iald hS (ly_1_3 hf) (by first | assumption | exact inb_1 ‹_› ‹_› (by decide))) ?_
          rw [rd_3]
          refine t_ite (op := o_if 58 71 (fun x => 0 < x) (fun _ => inferInstance)) (fe_X1_burn 55) g_if (fun c5 => ?_) (fun c5 => ?_)
          · refine t_go (op := o_iinc 74 4 1) (fe_X1_burn 71) (fun _ _ => rfl) ?_
            refine t_go (op := o_goto 5) (fe_X1_burn 74) (fun _ _ => rfl) ?_
            have hk : burnF1 k i S.1 = (S.1.1, S.1.2.1, fup S.1.2.2.1 (nI i).toNatClampNeg (S.1.2.2.1 (nI i).toNatClampNeg - 1), S.1.2.2.2) := by unfold burnF1; rw [if_neg c3]
            have hs : burnS k b i S = _ := if_pos c2
            rw [hk, if_pos c5] at hs
            have hq2 : Q (some (.int (it (burnS k b) j (i + 1) (burnS k b i S)).2)) (setF h f (it (burnS k b) j (i + 1) (burnS k b i S)).1) := hq
            rw [hs] at hq2
            rw [nI_1]
            exact ih (i + 1) (_, _) (by omega) hq2
          · refine t_go (op := o_aload 59 0) (fe_X1_burn 58) (fun _ _ => rfl) ?_
            refine t_go (op := o_iload 61 4) (fe_X1_burn 59) (fun _ _ => rfl) ?_
            refine t_call (op := o_callV 64 11 2 1) (fe_X1_burn 61) (g_callV hS hf (by decide) rfl rfl rfl (Nat.le_of_ble_eq_true rfl)) ?_
            refine M_mono ?_ (n_takeOut hS hf)
            rintro v h2 ⟨q1, q2⟩
            rw [q1, q2]; clear q1 q2 v h2
            refine t_go (op := o_iload 65 3) (fe_X1_burn 64) (fun _ _ => rfl) ?_
            refine t_go (op := o_ci 66 1) (fe_X1_burn 65) (fun _ _ => rfl) ?_
            refine t_go (op := o_iload 68 4) (fe_X1_burn 66) (fun _ _ => rfl) ?_
            refine t_go (op := o_i2 69 (fun x y => x <<< (y &&& 31))) (fe_X1_burn 68) (fun _ _ => rfl) ?_
            refine t_go (op := o_i2 70 (fun x y => x ||| y)) (fe_X1_burn 69) (fun _ _ => rfl) ?_
            refine t_go (op := o_istore 71 3) (fe_X1_burn 70) (fun _ _ => rfl) ?_
            refine t_go (op := o_iinc 74 4 1) (fe_X1_burn 71) (fun _ _ => rfl) ?_
            refine t_go (op := o_goto 5) (fe_X1_burn 74) (fun _ _ => rfl) ?_
            have hk : burnF1 k i S.1 = (S.1.1, S.1.2.1, fup S.1.2.2.1 (nI i).toNatClampNeg (S.1.2.2.1 (nI i).toNatClampNeg - 1), S.1.2.2.2) := by unfold burnF1; rw [if_neg c3]
            have hs : burnS k b i S = _ := if_pos c2
            rw [hk, if_neg c5] at hs
            have hq2 : Q (some (.int (it (burnS k b) j (i + 1) (burnS k b i S)).2)) (setF h f (it (burnS k b) j (i + 1) (burnS k b i S)).1) := hq
            rw [hs] at hq2
            rw [nI_1]
            exact ih (i + 1) (_, _) (by omega) hq2
      · refine t_go (op := o_iinc 74 4 1) (fe_X1_burn 71) (fun _ _ => rfl) ?_
        refine t_go (op := o_goto 5) (fe_X1_burn 74) (fun _ _ => rfl) ?_
        have hs : burnS k b i S = _ := if_neg c2
        have hq2 : Q (some (.int (it (burnS k b) j (i + 1) (burnS k b i S)).2)) (setF h f (it (burnS k b) j (i + 1) (burnS k b i S)).1) := hq
        rw [hs] at hq2
        rw [nI_1]
        exact ih (i + 1) _ (by omega) hq2
theorem m_burn {d : Nat} {h : AHP} {f g : Nat} {F : FS} {b : Int32} (hS : Std h) (hf : (lay f).1 = 1) (hg : (lay g).1 = 3)  : MM (d + 2) 28 [.ref f, .ref g, .int b] (setF h f F) (fun v h2 => v = some (.int (it (burnS (h.1 (g + 2)) b) 7 0 (F, 0)).2) ∧ h2 = setF h f (it (burnS (h.1 (g + 2)) b) 7 0 (F, 0)).1) := by
  refine ⟨Nat.le_of_ble_eq_true rfl, ?_⟩
  refine t_go (op := o_ci 1 0) (fe_X1_burn 0) (fun _ _ => rfl) ?_
  refine t_go (op := o_istore 2 3) (fe_X1_burn 1) (fun _ _ => rfl) ?_
  refine t_go (op := o_ci 3 0) (fe_X1_burn 2) (fun _ _ => rfl) ?_
  refine t_go (op := o_istore 5 4) (fe_X1_burn 3) (fun _ _ => rfl) ?_
  exact l_burn hS hf hg rfl 7 0 (F, 0) rfl ⟨rfl, rfl⟩
