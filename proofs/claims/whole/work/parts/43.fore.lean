/-! ===== evenings judged ===== -/
def tryOK (F : FS) (a e x : Int32) : Prop := a = 4 ∨ (hasF F e ∧ ¬ (a = 2 ∧ ¬ freeF F x))
def bankF (F : FS) : FS := (F.1, F.2.1, F.2.2.1, F.2.2.2.1, F.2.2.2.2.1, if F.2.2.2.2.2 = 0 then 1 else 0)
noncomputable def tryN (F : FS) (a e x : Int32) : FS := if a = 4 then bankF F else @ite _ (tryOK F a e x) (Classical.propDecidable _) (if a = 1 then stokeF F e else if a = 2 then carryF F e x else addFuelF F e x) F
theorem NF_try {F : FS} {a e x : Int32} (hN : NF F) : NF (tryN F a e x) := by
  unfold tryN
  split
  · exact hN
  · by_cases hp : tryOK F a e x
    · rw [if_pos hp]
      split
      · exact NF_stoke hN
      · split
        · exact NF_carry hN
        · exact NF_fuel hN
    · rw [if_neg hp]; exact hN
theorem m_tryLine {d : Nat} {h k : AHP} {a e x : Int32} {F : FS} (hS0 : Std h) (hX : X h k) (hF : fs k 136 = F) : MM (d + 3) 45 [.ref 135, .int a, .int e, .int x] k (fun v h2 => v = some (.int (b2i (tryOK F a e x))) ∧ X h h2 ∧ fs h2 136 = tryN F a e x) := by
  refine ⟨Nat.le_of_ble_eq_true rfl, ?_⟩
  have hS := hX.std hS0
  refine t_go (op := o_iload 1 1) (fe_X2_tryLine 0) (fun _ _ => rfl) ?_
  refine t_go (op := o_ci 2 4) (fe_X2_tryLine 1) (fun _ _ => rfl) ?_
  refine t_ite (op := o_icmp 29 5 (fun x y => x = y) (fun _ _ => inferInstance)) (fe_X2_tryLine 2) g_icmp (fun c1 => ?_) (fun c1 => ?_)
  · refine t_go (op := o_aload 6 0) (fe_X2_tryLine 5) (fun _ _ => rfl) ?_
    refine t_go (op := o_getR 9 2 0) (fe_X2_tryLine 6) (g_getR hS (by decide) (by decide) (fr_2_0 hS) (by decide)) ?_
    refine t_go (op := o_aload 10 0) (fe_X2_tryLine 9) (fun _ _ => rfl) ?_
    refine t_go (op := o_getR 13 2 0) (fe_X2_tryLine 10) (g_getR hS (by decide) (by decide) (fr_2_0 hS) (by decide)) ?_
    refine t_go (op := o_getI 16 1 5) (fe_X2_tryLine 13) (g_getI hS (by decide) (by decide)) ?_
    rw [show k.1 136 5 = F.2.2.2.2.2 by rw [← hF]; rfl]
    refine t_ite (op := o_if 23 19 (fun x => x = 0) (fun _ => inferInstance)) (fe_X2_tryLine 16) g_if (fun c2 => ?_) (fun c2 => ?_)
    · refine t_go (op := o_ci 20 1) (fe_X2_tryLine 19) (fun _ _ => rfl) ?_
      refine t_go (op := o_goto 24) (fe_X2_tryLine 20) (fun _ _ => rfl) ?_
      refine t_go (op := o_putZ 27 1 5) (fe_X2_tryLine 24) (g_putZ hS (by decide) (by decide) (by decide)) ?_
      refine t_go (op := o_ci 28 1) (fe_X2_tryLine 27) (fun _ _ => rfl) ?_
      refine t_ret (op := o_zret) (fe_X2_tryLine 28) (g_zret (Or.inr rfl)) ?_
      refine ⟨by rw [b2i_t (show tryOK F a e x from Or.inl c1)], X_sI hX (Or.inl ⟨by decide, by decide⟩), ?_⟩
      rw [fs_b, hF]
      unfold tryN bankF
      rw [if_pos c1, if_pos c2]
    · refine t_go (op := o_ci 24 0) (fe_X2_tryLine 23) (fun _ _ => rfl) ?_
      refine t_go (op := o_putZ 27 1 5) (fe_X2_tryLine 24) (g_putZ hS (by decide) (by decide) (by decide)) ?_
      refine t_go (op := o_ci 28 1) (fe_X2_tryLine 27) (fun _ _ => rfl) ?_
      refine t_ret (op := o_zret) (fe_X2_tryLine 28) (g_zret (Or.inr rfl)) ?_
      refine ⟨by rw [b2i_t (show tryOK F a e x from Or.inl c1)], X_sI hX (Or.inl ⟨by decide, by decide⟩), ?_⟩
      rw [fs_b, hF]
      unfold tryN bankF
      rw [if_pos c1, if_neg c2]
  · refine t_go (op := o_aload 30 0) (fe_X2_tryLine 29) (fun _ _ => rfl) ?_
    refine t_go (op := o_getR 33 2 0) (fe_X2_tryLine 30) (g_getR hS (by decide) (by decide) (fr_2_0 hS) (by decide)) ?_
    refine t_go (op := o_iload 34 2) (fe_X2_tryLine 33) (fun _ _ => rfl) ?_
    refine t_call (op := o_callV 37 8 2 1) (fe_X2_tryLine 34) (g_callV hS (by decide) (by decide) rfl rfl rfl (Nat.le_of_ble_eq_true rfl)) ?_
    refine M_mono ?_ (a_has hS (by decide) hF)
    rintro v h2 ⟨q1, q2⟩
    rw [q1, q2]; clear q1 q2 v h2
    refine t_ite (op := o_if 40 56 (fun x => x = 0) (fun _ => inferInstance)) (fe_X2_tryLine 37) g_if (fun c3 => ?_) (fun c3 => ?_)
    · refine t_go (op := o_ci 57 0) (fe_X2_tryLine 56) (fun _ _ => rfl) ?_
      refine t_ret (op := o_zret) (fe_X2_tryLine 57) (g_zret (Or.inl rfl)) ?_
      have hno : ¬ tryOK F a e x := (fun q => q.elim c1 (fun q => b2i_ne.mp c3 q.1))
      refine ⟨by rw [b2i_f hno], hX, ?_⟩
      rw [hF]
      unfold tryN
      rw [if_neg c1, if_neg hno]
    · refine t_go (op := o_iload 41 1) (fe_X2_tryLine 40) (fun _ _ => rfl) ?_
      refine t_go (op := o_ci 42 2) (fe_X2_tryLine 41) (fun _ _ => rfl) ?_
      refine t_ite (op := o_icmp 58 45 (fun x y => x = y) (fun _ _ => inferInstance)) (fe_X2_tryLine 42) g_icmp (fun c4 => ?_) (fun c4 => ?_)
      · refine t_go (op := o_aload 46 0) (fe_X2_tryLine 45) (fun _ _ => rfl) ?_
        refine t_go (op := o_getR 49 2 0) (fe_X2_tryLine 46) (g_getR hS (by decide) (by decide) (fr_2_0 hS) (by decide)) ?_
        refine t_go (op := o_iload 50 3) (fe_X2_tryLine 49) (fun _ _ => rfl) ?_
        refine t_call (op := o_callV 53 9 2 1) (fe_X2_tryLine 50) (g_callV hS (by decide) (by decide) rfl rfl rfl (Nat.le_of_ble_eq_true rfl)) ?_
        refine M_mono ?_ (a_isFree hS (by decide) hF)
        rintro v h2 ⟨q1, q2⟩
        rw [q1, q2]; clear q1 q2 v h2
        refine t_ite (op := o_if 58 56 (fun x => x = 0) (fun _ => inferInstance)) (fe_X2_tryLine 53) g_if (fun c5 => ?_) (fun c5 => ?_)
        · refine t_go (op := o_ci 57 0) (fe_X2_tryLine 56) (fun _ _ => rfl) ?_
          refine t_ret (op := o_zret) (fe_X2_tryLine 57) (g_zret (Or.inl rfl)) ?_
          have hno : ¬ tryOK F a e x := (fun q => q.elim c1 (fun q => q.2 ⟨c4, b2i_ne.mp c5⟩))
          refine ⟨by rw [b2i_f hno], hX, ?_⟩
          rw [hF]
          unfold tryN
          rw [if_neg c1, if_neg hno]
        · refine t_go (op := o_iload 59 1) (fe_X2_tryLine 58) (fun _ _ => rfl) ?_
          refine t_go (op := o_ci 60 1) (fe_X2_tryLine 59) (fun _ _ => rfl) ?_
          refine t_ite (op := o_icmp 74 63 (fun x y => x = y) (fun _ _ => inferInstance)) (fe_X2_tryLine 60) g_icmp (fun c6 => ?_) (fun c6 => ?_)
          · refine t_go (op := o_aload 64 0) (fe_X2_tryLine 63) (fun _ _ => rfl) ?_
            refine t_go (op := o_getR 67 2 0) (fe_X2_tryLine 64) (g_getR hS (by decide) (by decide) (fr_2_0 hS) (by decide)) ?_
            refine t_go (op := o_iload 68 2) (fe_X2_tryLine 67) (fun _ _ => rfl) ?_
            refine t_call (op := o_callV 71 15 2 1) (fe_X2_tryLine 68) (g_callV hS (by decide) (by decide) rfl rfl rfl (Nat.le_of_ble_eq_true rfl)) ?_
            refine M_mono ?_ (a_stoke hS0 hX (Or.inl rfl) hF)
            rintro v h2 ⟨q1, hX4, hF4, hK4⟩
            rw [q1]; clear q1 v
            refine t_go (op := o_goto 100) (fe_X2_tryLine 71) (fun _ _ => rfl) ?_
            refine t_go (op := o_ci 101 1) (fe_X2_tryLine 100) (fun _ _ => rfl) ?_
            refine t_ret (op := o_zret) (fe_X2_tryLine 101) (g_zret (Or.inr rfl)) ?_
            have hok : tryOK F a e x := Or.inr ⟨Classical.not_not.mp (fun q => c3 (b2i_f q)), fun q => q.2 (Classical.not_not.mp (fun q => c5 (b2i_f q)))⟩
            refine ⟨by rw [b2i_t hok], hX4, ?_⟩
            rw [hF4]
            unfold tryN
            rw [if_neg c1, if_pos hok, if_pos c6]
          · refine t_go (op := o_iload 75 1) (fe_X2_tryLine 74) (fun _ _ => rfl) ?_
            refine t_go (op := o_ci 76 2) (fe_X2_tryLine 75) (fun _ _ => rfl) ?_
            refine t_ite (op := o_icmp 91 79 (fun x y => x = y) (fun _ _ => inferInstance)) (fe_X2_tryLine 76) g_icmp (fun c7 => ?_) (fun c7 => ?_)
            · refine t_go (op := o_aload 80 0) (fe_X2_tryLine 79) (fun _ _ => rfl) ?_
              refine t_go (op := o_getR 83 2 0) (fe_X2_tryLine 80) (g_getR hS (by decide) (by decide) (fr_2_0 hS) (by decide)) ?_
              refine t_go (op := o_iload 84 2) (fe_X2_tryLine 83) (fun _ _ => rfl) ?_
              refine t_go (op := o_iload 85 3) (fe_X2_tryLine 84) (fun _ _ => rfl) ?_
              refine t_call (op := o_callV 88 14 3 1) (fe_X2_tryLine 85) (g_callV hS (by decide) (by decide) rfl rfl rfl (Nat.le_of_ble_eq_true rfl)) ?_
              refine M_mono ?_ (a_carry hS0 hX (Or.inl rfl) hF)
              rintro v h2 ⟨q1, hX4, hF4, hK4⟩
              rw [q1]; clear q1 v
              refine t_go (op := o_goto 100) (fe_X2_tryLine 88) (fun _ _ => rfl) ?_
              refine t_go (op := o_ci 101 1) (fe_X2_tryLine 100) (fun _ _ => rfl) ?_
              refine t_ret (op := o_zret) (fe_X2_tryLine 101) (g_zret (Or.inr rfl)) ?_
              have hok : tryOK F a e x := Or.inr ⟨Classical.not_not.mp (fun q => c3 (b2i_f q)), fun q => q.2 (Classical.not_not.mp (fun q => c5 (b2i_f q)))⟩
              refine ⟨by rw [b2i_t hok], hX4, ?_⟩
              rw [hF4]
              unfold tryN
              rw [if_neg c1, if_pos hok, if_neg c6, if_pos c7]
            · refine t_go (op := o_aload 92 0) (fe_X2_tryLine 91) (fun _ _ => rfl) ?_
              refine t_go (op := o_getR 95 2 0) (fe_X2_tryLine 92) (g_getR hS (by decide) (by decide) (fr_2_0 hS) (by decide)) ?_
              refine t_go (op := o_iload 96 2) (fe_X2_tryLine 95) (fun _ _ => rfl) ?_
              refine t_go (op := o_iload 97 3) (fe_X2_tryLine 96) (fun _ _ => rfl) ?_
              refine t_call (op := o_callV 100 16 3 1) (fe_X2_tryLine 97) (g_callV hS (by decide) (by decide) rfl rfl rfl (Nat.le_of_ble_eq_true rfl)) ?_
              refine M_mono ?_ (a_addFuel hS0 hX (Or.inl rfl) hF)
              rintro v h2 ⟨q1, hX4, hF4, hK4⟩
              rw [q1]; clear q1 v
              refine t_go (op := o_ci 101 1) (fe_X2_tryLine 100) (fun _ _ => rfl) ?_
              refine t_ret (op := o_zret) (fe_X2_tryLine 101) (g_zret (Or.inr rfl)) ?_
              have hok : tryOK F a e x := Or.inr ⟨Classical.not_not.mp (fun q => c3 (b2i_f q)), fun q => q.2 (Classical.not_not.mp (fun q => c5 (b2i_f q)))⟩
              refine ⟨by rw [b2i_t hok], hX4, ?_⟩
              rw [hF4]
              unfold tryN
              rw [if_neg c1, if_pos hok, if_neg c6, if_neg c7]
      · refine t_go (op := o_iload 59 1) (fe_X2_tryLine 58) (fun _ _ => rfl) ?_
        refine t_go (op := o_ci 60 1) (fe_X2_tryLine 59) (fun _ _ => rfl) ?_
        refine t_ite (op := o_icmp 74 63 (fun x y => x = y) (fun _ _ => inferInstance)) (fe_X2_tryLine 60) g_icmp (fun c8 => ?_) (fun c8 => ?_)
        · refine t_go (op := o_aload 64 0) (fe_X2_tryLine 63) (fun _ _ => rfl) ?_
          refine t_go (op := o_getR 67 2 0) (fe_X2_tryLine 64) (g_getR hS (by decide) (by decide) (fr_2_0 hS) (by decide)) ?_
          refine t_go (op := o_iload 68 2) (fe_X2_tryLine 67) (fun _ _ => rfl) ?_
          refine t_call (op := o_callV 71 15 2 1) (fe_X2_tryLine 68) (g_callV hS (by decide) (by decide) rfl rfl rfl (Nat.le_of_ble_eq_true rfl)) ?_
          refine M_mono ?_ (a_stoke hS0 hX (Or.inl rfl) hF)
          rintro v h2 ⟨q1, hX4, hF4, hK4⟩
          rw [q1]; clear q1 v
          refine t_go (op := o_goto 100) (fe_X2_tryLine 71) (fun _ _ => rfl) ?_
          refine t_go (op := o_ci 101 1) (fe_X2_tryLine 100) (fun _ _ => rfl) ?_
          refine t_ret (op := o_zret) (fe_X2_tryLine 101) (g_zret (Or.inr rfl)) ?_
          have hok : tryOK F a e x := Or.inr ⟨Classical.not_not.mp (fun q => c3 (b2i_f q)), fun q => c4 q.1⟩
          refine ⟨by rw [b2i_t hok], hX4, ?_⟩
          rw [hF4]
          unfold tryN
          rw [if_neg c1, if_pos hok, if_pos c8]
        · refine t_go (op := o_iload 75 1) (fe_X2_tryLine 74) (fun _ _ => rfl) ?_
          refine t_go (op := o_ci 76 2) (fe_X2_tryLine 75) (fun _ _ => rfl) ?_
          refine t_ite (op := o_icmp 91 79 (fun x y => x = y) (fun _ _ => inferInstance)) (fe_X2_tryLine 76) g_icmp (fun c9 => ?_) (fun c9 => ?_)
          · refine t_go (op := o_aload 80 0) (fe_X2_tryLine 79) (fun _ _ => rfl) ?_
            refine t_go (op := o_getR 83 2 0) (fe_X2_tryLine 80) (g_getR hS (by decide) (by decide) (fr_2_0 hS) (by decide)) ?_
            refine t_go (op := o_iload 84 2) (fe_X2_tryLine 83) (fun _ _ => rfl) ?_
            refine t_go (op := o_iload 85 3) (fe_X2_tryLine 84) (fun _ _ => rfl) ?_
            refine t_call (op := o_callV 88 14 3 1) (fe_X2_tryLine 85) (g_callV hS (by decide) (by decide) rfl rfl rfl (Nat.le_of_ble_eq_true rfl)) ?_
            refine M_mono ?_ (a_carry hS0 hX (Or.inl rfl) hF)
            rintro v h2 ⟨q1, hX4, hF4, hK4⟩
            rw [q1]; clear q1 v
            refine t_go (op := o_goto 100) (fe_X2_tryLine 88) (fun _ _ => rfl) ?_
            refine t_go (op := o_ci 101 1) (fe_X2_tryLine 100) (fun _ _ => rfl) ?_
            refine t_ret (op := o_zret) (fe_X2_tryLine 101) (g_zret (Or.inr rfl)) ?_
            have hok : tryOK F a e x := Or.inr ⟨Classical.not_not.mp (fun q => c3 (b2i_f q)), fun q => c4 q.1⟩
            refine ⟨by rw [b2i_t hok], hX4, ?_⟩
            rw [hF4]
            unfold tryN
            rw [if_neg c1, if_pos hok, if_neg c8, if_pos c9]
          · refine t_go (op := o_aload 92 0) (fe_X2_tryLine 91) (fun _ _ => rfl) ?_
            refine t_go (op := o_getR 95 2 0) (fe_X2_tryLine 92) (g_getR hS (by decide) (by decide) (fr_2_0 hS) (by decide)) ?_
            refine t_go (op := o_iload 96 2) (fe_X2_tryLine 95) (fun _ _ => rfl) ?_
            refine t_go (op := o_iload 97 3) (fe_X2_tryLine 96) (fun _ _ => rfl) ?_
            refine t_call (op := o_callV 100 16 3 1) (fe_X2_tryLine 97) (g_callV hS (by decide) (by decide) rfl rfl rfl (Nat.le_of_ble_eq_true rfl)) ?_
            refine M_mono ?_ (a_addFuel hS0 hX (Or.inl rfl) hF)
            rintro v h2 ⟨q1, hX4, hF4, hK4⟩
            rw [q1]; clear q1 v
            refine t_go (op := o_ci 101 1) (fe_X2_tryLine 100) (fun _ _ => rfl) ?_
            refine t_ret (op := o_zret) (fe_X2_tryLine 101) (g_zret (Or.inr rfl)) ?_
            have hok : tryOK F a e x := Or.inr ⟨Classical.not_not.mp (fun q => c3 (b2i_f q)), fun q => c4 q.1⟩
            refine ⟨by rw [b2i_t hok], hX4, ?_⟩
            rw [hF4]
            unfold tryN
            rw [if_neg c1, if_pos hok, if_neg c8, if_neg c9]
noncomputable def judgeS (h : AHP) (g n v : Nat) (i : Nat) (s : Int32 × Int32 × FS) : Int32 × Int32 × FS :=
  if h.1 (v + 1) i = 0 then (s.1, if (HB h g n 1 s.2.2).2 = 0 then s.2.1 else if s.2.1 = -1 then nI i else s.2.1, (HB h g n 1 s.2.2).1)
  else (@ite _ (tryOK s.2.2 (h.1 (v + 1) i) (h.1 (v + 2) i) (h.1 (v + 3) i)) (Classical.propDecidable _) s.1 (if s.1 = -1 then nI i else s.1), s.2.1, tryN s.2.2 (h.1 (v + 1) i) (h.1 (v + 2) i) (h.1 (v + 3) i))
theorem even_id {v : Nat} (hv : (lay v).1 = 0) : v = 175 ∨ v = 179 := lay_of (P := fun v => v = 175 ∨ v = 179) (fun _ => inferInstance) (by decide) (by decide +kernel) hv
theorem X_row {h k : AHP} {a i : Nat} (hX : X h k) (ha : ¬ scrX a) (hi : i < 2 ^ 31) : k.1 a (nI i).toNatClampNeg = h.1 a i := by rw [hX.2.2 a ha, nI_clamp hi]
theorem l_judge {d : Nat} {h : AHP} {g n : Nat} (hS0 : Std h) (hg : (lay g).1 = 3) (hL : LawOK h g n) {m v : Nat} {w : Int32} (hv : (lay v).1 = 0) (hm : m ≤ 40) (hl : h.1 v 3 = nI m)  {Q : Option Value → AHP → Prop} : ∀ (j i : Nat) (S : Int32 × Int32 × FS) (k : AHP), i + j = m → X h k → fs k 136 = S.2.2 → NF S.2.2 → (∀ k2 (x : Int32 × Int32 × FS), x = it (judgeS h g n v) j i S → X h k2 → fs k2 136 = x.2.2 → NF x.2.2 → TT (d + 5) 43 115 [some (.ref 135), some (.ref g), some (.ref v), some (.int w), some (.int x.1), some (.int x.2.1), some (.int (nI m))] [] k2 Q) → TT (d + 5) 43 20 [some (.ref 135), some (.ref g), some (.ref v), some (.int w), some (.int S.1), some (.int S.2.1), some (.int (nI i))] [] k Q := by
  intro j
  induction j with
  | zero =>
    intro i S k hi hX hF hNS hq
    have hN : i = m := by omega
    have hS := hX.std hS0
    have hlk : k.1 v 3 = nI m := by rw [hX.2.2 v (by have := even_id hv; omega)]; exact hl
    refine t_go (op := o_iload 22 6) (fe_X2_judge 20) (fun _ _ => rfl) ?_
    refine t_go (op := o_aload 23 2) (fe_X2_judge 22) (fun _ _ => rfl) ?_
    refine t_go (op := o_getI 26 0 3) (fe_X2_judge 23) (g_getI hS hv (by decide)) ?_
    rw [hlk]
    refine t_ite (op := o_icmp 29 115 (fun x y => y ≤ x) (fun _ _ => inferInstance)) (fe_X2_judge 26) g_icmp (fun c1 => ?_) (fun c1 => ?_)
    · rw [hN]
      exact hq k S rfl hX hF hNS
    · exact absurd (by rw [hN]; exact Int32.le_refl _) c1
  | succ j ih =>
    intro i S k hi hX hF hNS hq
    have hi2 : i < m := by omega
    have hb : inb (nI i) 40 := inb_n (by omega) (by decide)
    have hS := hX.std hS0
    have hlk : k.1 v 3 = nI m := by rw [hX.2.2 v (by have := even_id hv; omega)]; exact hl
    refine t_go (op := o_iload 22 6) (fe_X2_judge 20) (fun _ _ => rfl) ?_
    refine t_go (op := o_aload 23 2) (fe_X2_judge 22) (fun _ _ => rfl) ?_
    refine t_go (op := o_getI 26 0 3) (fe_X2_judge 23) (g_getI hS hv (by decide)) ?_
    rw [hlk]
    refine t_ite (op := o_icmp 29 115 (fun x y => y ≤ x) (fun _ _ => inferInstance)) (fe_X2_judge 26) g_icmp (fun c1 => ?_) (fun c1 => ?_)
    · exact absurd c1 (nI_ge hi2 (by omega))
    · refine t_go (op := o_iload 31 6) (fe_X2_judge 29) (fun _ _ => rfl) ?_
      refine t_go (op := o_ci 33 40) (fe_X2_judge 31) (fun _ _ => rfl) ?_
      refine t_ite (op := o_icmp 36 115 (fun x y => y ≤ x) (fun _ _ => inferInstance)) (fe_X2_judge 33) g_icmp (fun c2 => ?_) (fun c2 => ?_)
      · exact absurd c2 (nI_ge (show i < 40 by omega) (by decide))
      · refine t_go (op := o_aload 37 2) (fe_X2_judge 36) (fun _ _ => rfl) ?_
        refine t_go (op := o_getR 40 0 0) (fe_X2_judge 37) (g_getR hS hv (by decide) (fr_0_0 hS hv) (Nat.succ_pos _)) ?_
        refine t_go (op := o_iload 42 6) (fe_X2_judge 40) (fun _ _ => rfl) ?_
        refine t_go (op := o_iald 43) (fe_X2_judge 42) (g_iald hS (ly_0_1 hv) hb) ?_
        rw [X_row hX (a := v + 1) (by have := even_id hv; omega) (by omega)]
        refine t_ite (op := o_if 71 46 (fun x => x = 0) (fun _ => inferInstance)) (fe_X2_judge 43) g_if (fun c3 => ?_) (fun c3 => ?_)
        · refine t_go (op := o_aload 47 0) (fe_X2_judge 46) (fun _ _ => rfl) ?_
          refine t_go (op := o_getR 50 2 0) (fe_X2_judge 47) (g_getR hS (by decide) (by decide) (fr_2_0 hS) (by decide)) ?_
          refine t_go (op := o_aload 51 1) (fe_X2_judge 50) (fun _ _ => rfl) ?_
          refine t_go (op := o_ci 52 1) (fe_X2_judge 51) (fun _ _ => rfl) ?_
          refine t_call (op := o_callV 55 17 3 1) (fe_X2_judge 52) (g_callV hS (by decide) (by decide) rfl rfl rfl (Nat.le_of_ble_eq_true rfl)) ?_
          refine M_mono ?_ (a_pass hS0 hg hL hX (Or.inl rfl) hF)
          rintro v2 h2 ⟨q1, hX2, hF2, hK2⟩
          rw [q1]; clear q1 v2
          replace hS := hX2.std hS0
          refine t_ite (op := o_if 58 109 (fun x => x = 0) (fun _ => inferInstance)) (fe_X2_judge 55) g_if (fun c4 => ?_) (fun c4 => ?_)
          · refine t_go (op := o_iinc 112 6 1) (fe_X2_judge 109) (fun _ _ => rfl) ?_
            refine t_go (op := o_goto 20) (fe_X2_judge 112) (fun _ _ => rfl) ?_
            have hw : judgeS h g n v i S = (S.1, S.2.1, (HB h g n 1 S.2.2).1) := (if_pos c3).trans (by rw [if_pos c4])
            rw [it_step, hw] at hq
            rw [nI_1]
            exact ih (i + 1) (S.1, S.2.1, (HB h g n 1 S.2.2).1) _ (by omega) hX2 hF2 (NF_HB hNS) hq
          · refine t_go (op := o_iload 60 5) (fe_X2_judge 58) (fun _ _ => rfl) ?_
            refine t_go (op := o_ci 61 (-1)) (fe_X2_judge 60) (fun _ _ => rfl) ?_
            refine t_ite (op := o_icmp 109 64 (fun x y => x = y) (fun _ _ => inferInstance)) (fe_X2_judge 61) g_icmp (fun c5 => ?_) (fun c5 => ?_)
            · refine t_go (op := o_iload 66 6) (fe_X2_judge 64) (fun _ _ => rfl) ?_
              refine t_go (op := o_istore 68 5) (fe_X2_judge 66) (fun _ _ => rfl) ?_
              refine t_go (op := o_goto 109) (fe_X2_judge 68) (fun _ _ => rfl) ?_
              refine t_go (op := o_iinc 112 6 1) (fe_X2_judge 109) (fun _ _ => rfl) ?_
              refine t_go (op := o_goto 20) (fe_X2_judge 112) (fun _ _ => rfl) ?_
              have hw : judgeS h g n v i S = (S.1, nI i, (HB h g n 1 S.2.2).1) := (if_pos c3).trans (by rw [if_neg c4, if_pos c5])
              rw [it_step, hw] at hq
              rw [nI_1]
              exact ih (i + 1) (S.1, nI i, (HB h g n 1 S.2.2).1) _ (by omega) hX2 hF2 (NF_HB hNS) hq
            · refine t_go (op := o_iinc 112 6 1) (fe_X2_judge 109) (fun _ _ => rfl) ?_
              refine t_go (op := o_goto 20) (fe_X2_judge 112) (fun _ _ => rfl) ?_
              have hw : judgeS h g n v i S = (S.1, S.2.1, (HB h g n 1 S.2.2).1) := (if_pos c3).trans (by rw [if_neg c4, if_neg c5])
              rw [it_step, hw] at hq
              rw [nI_1]
              exact ih (i + 1) (S.1, S.2.1, (HB h g n 1 S.2.2).1) _ (by omega) hX2 hF2 (NF_HB hNS) hq
        · refine t_go (op := o_aload 72 0) (fe_X2_judge 71) (fun _ _ => rfl) ?_
          refine t_go (op := o_aload 73 2) (fe_X2_judge 72) (fun _ _ => rfl) ?_
          refine t_go (op := o_getR 76 0 0) (fe_X2_judge 73) (g_getR hS hv (by decide) (fr_0_0 hS hv) (Nat.succ_pos _)) ?_
          refine t_go (op := o_iload 78 6) (fe_X2_judge 76) (fun _ _ => rfl) ?_
          refine t_go (op := o_iald 79) (fe_X2_judge 78) (g_iald hS (ly_0_1 hv) hb) ?_
          rw [X_row hX (a := v + 1) (by have := even_id hv; omega) (by omega)]
          refine t_go (op := o_aload 80 2) (fe_X2_judge 79) (fun _ _ => rfl) ?_
          refine t_go (op := o_getR 83 0 1) (fe_X2_judge 80) (g_getR hS hv (by decide) (fr_0_1 hS hv) (Nat.succ_pos _)) ?_
          refine t_go (op := o_iload 85 6) (fe_X2_judge 83) (fun _ _ => rfl) ?_
          refine t_go (op := o_iald 86) (fe_X2_judge 85) (g_iald hS (ly_0_2 hv) hb) ?_
          rw [X_row hX (a := v + 2) (by have := even_id hv; omega) (by omega)]
          refine t_go (op := o_aload 87 2) (fe_X2_judge 86) (fun _ _ => rfl) ?_
          refine t_go (op := o_getR 90 0 2) (fe_X2_judge 87) (g_getR hS hv (by decide) (fr_0_2 hS hv) (Nat.succ_pos _)) ?_
          refine t_go (op := o_iload 92 6) (fe_X2_judge 90) (fun _ _ => rfl) ?_
          refine t_go (op := o_iald 93) (fe_X2_judge 92) (g_iald hS (ly_0_3 hv) hb) ?_
          rw [X_row hX (a := v + 3) (by have := even_id hv; omega) (by omega)]
          refine t_call (op := o_callV 96 45 4 2) (fe_X2_judge 93) (g_callV hS (by decide) (by decide) rfl rfl rfl (Nat.le_of_ble_eq_true rfl)) ?_
          refine M_mono ?_ (m_tryLine hS0 hX hF)
          rintro v2 h2 ⟨q1, hX2, hF2⟩
          rw [q1]; clear q1 v2
          replace hS := hX2.std hS0
          refine t_ite (op := o_if 109 99 (fun x => x = 0) (fun _ => inferInstance)) (fe_X2_judge 96) g_if (fun c6 => ?_) (fun c6 => ?_)
          · refine t_go (op := o_iload 101 4) (fe_X2_judge 99) (fun _ _ => rfl) ?_
            refine t_go (op := o_ci 102 (-1)) (fe_X2_judge 101) (fun _ _ => rfl) ?_
            refine t_ite (op := o_icmp 109 105 (fun x y => x = y) (fun _ _ => inferInstance)) (fe_X2_judge 102) g_icmp (fun c7 => ?_) (fun c7 => ?_)
            · refine t_go (op := o_iload 107 6) (fe_X2_judge 105) (fun _ _ => rfl) ?_
              refine t_go (op := o_istore 109 4) (fe_X2_judge 107) (fun _ _ => rfl) ?_
              refine t_go (op := o_iinc 112 6 1) (fe_X2_judge 109) (fun _ _ => rfl) ?_
              refine t_go (op := o_goto 20) (fe_X2_judge 112) (fun _ _ => rfl) ?_
              have hw : judgeS h g n v i S = (nI i, S.2.1, tryN S.2.2 (h.1 (v + 1) i) (h.1 (v + 2) i) (h.1 (v + 3) i)) := (if_neg c3).trans (by rw [if_neg (b2i_ne.mp c6), if_pos c7])
              rw [it_step, hw] at hq
              rw [nI_1]
              exact ih (i + 1) (nI i, S.2.1, tryN S.2.2 (h.1 (v + 1) i) (h.1 (v + 2) i) (h.1 (v + 3) i)) _ (by omega) hX2 hF2 (NF_try hNS) hq
            · refine t_go (op := o_iinc 112 6 1) (fe_X2_judge 109) (fun _ _ => rfl) ?_
              refine t_go (op := o_goto 20) (fe_X2_judge 112) (fun _ _ => rfl) ?_
              have hw : judgeS h g n v i S = (S.1, S.2.1, tryN S.2.2 (h.1 (v + 1) i) (h.1 (v + 2) i) (h.1 (v + 3) i)) := (if_neg c3).trans (by rw [if_neg (b2i_ne.mp c6), if_neg c7])
              rw [it_step, hw] at hq
              rw [nI_1]
              exact ih (i + 1) (S.1, S.2.1, tryN S.2.2 (h.1 (v + 1) i) (h.1 (v + 2) i) (h.1 (v + 3) i)) _ (by omega) hX2 hF2 (NF_try hNS) hq
          · refine t_go (op := o_iinc 112 6 1) (fe_X2_judge 109) (fun _ _ => rfl) ?_
            refine t_go (op := o_goto 20) (fe_X2_judge 112) (fun _ _ => rfl) ?_
            have hw : judgeS h g n v i S = (S.1, S.2.1, tryN S.2.2 (h.1 (v + 1) i) (h.1 (v + 2) i) (h.1 (v + 3) i)) := (if_neg c3).trans (by rw [if_pos (Classical.not_not.mp (fun q => c6 (b2i_f q)))])
            rw [it_step, hw] at hq
            rw [nI_1]
            exact ih (i + 1) (S.1, S.2.1, tryN S.2.2 (h.1 (v + 1) i) (h.1 (v + 2) i) (h.1 (v + 3) i)) _ (by omega) hX2 hF2 (NF_try hNS) hq
noncomputable def judgeR (h : AHP) (g n v m : Nat) (w : Int32) : Int32 := if w = 2 then it (sumS (it (judgeS h g n v) m 0 (-1, -1, fs h (g + 3))).2.2.2.1) 7 0 0 else if w = 0 then (it (judgeS h g n v) m 0 (-1, -1, fs h (g + 3))).1 else (it (judgeS h g n v) m 0 (-1, -1, fs h (g + 3))).2.1
theorem m_judge {d : Nat} {h k : AHP} {g n : Nat} (hS0 : Std h) (hg : (lay g).1 = 3) (hL : LawOK h g n) (hX : X h k) (hN : NF (fs k 136)) (hz : h.1 (g + 3) 5 = 0 ∨ h.1 (g + 3) 5 = 1) (hN2 : NF (fs h (g + 3))) {m v : Nat} {w : Int32} (hv : (lay v).1 = 0) (hm : m ≤ 40) (hl : h.1 v 3 = nI m) : MM (d + 5) 43 [.ref 135, .ref g, .ref v, .int w] k (fun r h2 => r = some (.int (judgeR h g n v m w)) ∧ X h h2 ∧ NF (fs h2 136)) := by
  refine ⟨Nat.le_of_ble_eq_true rfl, ?_⟩
  have hS := hX.std hS0
  refine t_go (op := o_ci 1 (-1)) (fe_X2_judge 0) (fun _ _ => rfl) ?_
  refine t_go (op := o_istore 3 4) (fe_X2_judge 1) (fun _ _ => rfl) ?_
  refine t_go (op := o_ci 4 (-1)) (fe_X2_judge 3) (fun _ _ => rfl) ?_
  refine t_go (op := o_istore 6 5) (fe_X2_judge 4) (fun _ _ => rfl) ?_
  refine t_go (op := o_aload 7 0) (fe_X2_judge 6) (fun _ _ => rfl) ?_
  refine t_go (op := o_getR 10 2 0) (fe_X2_judge 7) (g_getR hS (by decide) (by decide) (fr_2_0 hS) (by decide)) ?_
  refine t_go (op := o_aload 11 1) (fe_X2_judge 10) (fun _ _ => rfl) ?_
  refine t_go (op := o_getR 14 3 2) (fe_X2_judge 11) (g_getR hS hg (by decide) (fr_3_2 hS hg) (Nat.succ_pos _)) ?_
  refine t_call (op := o_callV 17 7 2 1) (fe_X2_judge 14) (g_callV hS (by decide) (by decide) rfl rfl rfl (Nat.le_of_ble_eq_true rfl)) ?_
  refine M_mono ?_ (a_become (c0 := g + 3) hS0 hX (Or.inl rfl) (lay_fst (ly_3_3 hg)) (by have := grate_scr hg; omega) hz hN hN2)
  rintro v2 h2 ⟨q1, hX2, hF2, hK2⟩
  rw [q1]; clear q1 v2
  replace hS := hX2.std hS0
  refine t_go (op := o_ci 18 0) (fe_X2_judge 17) (fun _ _ => rfl) ?_
  refine t_go (op := o_istore 20 6) (fe_X2_judge 18) (fun _ _ => rfl) ?_
  refine l_judge hS0 hg hL hv hm hl m 0 (-1, -1, fs h (g + 3)) _ (by omega) hX2 hF2 hN2 (fun k2 x hx hx1 hx2 hx3 => ?_)
  replace hS := hx1.std hS0
  refine t_go (op := o_iload 116 3) (fe_X2_judge 115) (fun _ _ => rfl) ?_
  refine t_go (op := o_ci 117 2) (fe_X2_judge 116) (fun _ _ => rfl) ?_
  refine t_ite (op := o_icmp 128 120 (fun x y => x = y) (fun _ _ => inferInstance)) (fe_X2_judge 117) g_icmp (fun e1 => ?_) (fun e1 => ?_)
  · refine t_go (op := o_aload 121 0) (fe_X2_judge 120) (fun _ _ => rfl) ?_
    refine t_go (op := o_getR 124 2 0) (fe_X2_judge 121) (g_getR hS (by decide) (by decide) (fr_2_0 hS) (by decide)) ?_
    refine t_call (op := o_callV 127 21 1 1) (fe_X2_judge 124) (g_callV hS (by decide) (by decide) rfl rfl rfl (Nat.le_of_ble_eq_true rfl)) ?_
    refine M_mono ?_ (a_heatOfAll (hx1.std hS0) (by decide) hx2)
    rintro v2 h3 ⟨q1, q2⟩
    rw [q1, q2]; clear q1 q2 v2 h3
    refine t_ret (op := o_iret) (fe_X2_judge 127) (fun _ _ => rfl) ?_
    refine ⟨?_, hx1, by rw [hx2]; exact hx3⟩
    unfold judgeR
    rw [if_pos e1, ← hx]
  · refine t_go (op := o_iload 129 3) (fe_X2_judge 128) (fun _ _ => rfl) ?_
    refine t_ite (op := o_if 137 132 (fun x => x = 0) (fun _ => inferInstance)) (fe_X2_judge 129) g_if (fun e2 => ?_) (fun e2 => ?_)
    · refine t_go (op := o_iload 134 4) (fe_X2_judge 132) (fun _ _ => rfl) ?_
      refine t_go (op := o_goto 139) (fe_X2_judge 134) (fun _ _ => rfl) ?_
      refine t_ret (op := o_iret) (fe_X2_judge 139) (fun _ _ => rfl) ?_
      refine ⟨?_, hx1, by rw [hx2]; exact hx3⟩
      unfold judgeR
      rw [if_neg e1, if_pos e2, ← hx]
    · refine t_go (op := o_iload 139 5) (fe_X2_judge 137) (fun _ _ => rfl) ?_
      refine t_ret (op := o_iret) (fe_X2_judge 139) (fun _ _ => rfl) ?_
      refine ⟨?_, hx1, by rw [hx2]; exact hx3⟩
      unfold judgeR
      rw [if_neg e1, if_neg e2, ← hx]
