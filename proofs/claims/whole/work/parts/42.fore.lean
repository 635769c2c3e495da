/-! ===== draws, winters, evenings judged ===== -/
def drawN (s : Int64) : Int64 := (s * 1103515245 + 12345) &&& 2147483647
theorem it_step {α : Type} {f : Nat → α → α} {j i : Nat} {s : α} : it f (j + 1) i s = it f j (i + 1) (f i s) := rfl
def lremI (x y : Int64) : Int64 := x - x / y * y
def drawV (s : Int64) (b : Int32) : Int32 := if b ≤ 0 then 0 else (lremI (s / 65536) b.toInt64).toInt32
theorem i64_ne {b : Int32} (h : ¬ b ≤ 0) : ¬ b.toInt64 = 0 := fun e => h (by
  have h1 : b.toInt64.toInt = (0 : Int64).toInt := by rw [e]
  rw [Int32.toInt_toInt64] at h1
  refine Int32.le_iff_toInt_le.mpr ?_
  rw [h1]; decide)
theorem m_draw {d : Nat} {k : AHP} {b : Int32} {s : Int64} (hS : Std k) (hs : k.2.1 135 2 = s) : MM d 47 [.ref 135, .int b] k (fun v h2 => v = some (.int (drawV (drawN s) b)) ∧ h2 = sJ k 135 2 (drawN s)) := by
  refine ⟨Nat.le_of_ble_eq_true rfl, ?_⟩
  refine t_go (op := o_aload 1 0) (fe_X2_draw 0) (fun _ _ => rfl) ?_
  refine t_go (op := o_aload 2 0) (fe_X2_draw 1) (fun _ _ => rfl) ?_
  refine t_go (op := o_getJ 5 2 2) (fe_X2_draw 2) (g_getJ hS (by decide) (by decide)) ?_
  refine t_go (op := o_cl 8 1103515245) (fe_X2_draw 5) (fun _ _ => rfl) ?_
  refine t_go (op := o_l2 9 (fun x y => x * y)) (fe_X2_draw 8) (fun _ _ => rfl) ?_
  refine t_go (op := o_cl 12 12345) (fe_X2_draw 9) (fun _ _ => rfl) ?_
  refine t_go (op := o_l2 13 (fun x y => x + y)) (fe_X2_draw 12) (fun _ _ => rfl) ?_
  refine t_go (op := o_cl 16 2147483647) (fe_X2_draw 13) (fun _ _ => rfl) ?_
  refine t_go (op := o_l2 17 (fun x y => x &&& y)) (fe_X2_draw 16) (fun _ _ => rfl) ?_
  refine t_go (op := o_putJ 20 2 2) (fe_X2_draw 17) (g_putJ hS (by decide) (by decide)) ?_
  rw [hs]
  have hr : (sJ k 135 2 (drawN s)).2.1 135 2 = drawN s := by simp [sJ, up2]
  rw [show (fun x y : Int64 => x &&& y) ((fun x y : Int64 => x + y) ((fun x y : Int64 => x * y) s 1103515245) 12345) 2147483647 = drawN s from rfl]
  refine t_go (op := o_iload 21 1) (fe_X2_draw 20) (fun _ _ => rfl) ?_
  refine t_ite (op := o_if 24 39 (fun x => x ≤ 0) (fun _ => inferInstance)) (fe_X2_draw 21) g_if (fun c1 => ?_) (fun c1 => ?_)
  · refine t_go (op := o_ci 40 0) (fe_X2_draw 39) (fun _ _ => rfl) ?_
    refine t_ret (op := o_iret) (fe_X2_draw 40) (fun _ _ => rfl) ?_
    exact ⟨by unfold drawV; rw [if_pos c1], rfl⟩
  · refine t_go (op := o_aload 25 0) (fe_X2_draw 24) (fun _ _ => rfl) ?_
    refine t_go (op := o_getJ 28 2 2) (fe_X2_draw 25) (g_getJ hS (by decide) (by decide)) ?_
    rw [hr]
    refine t_go (op := o_cl 31 65536) (fe_X2_draw 28) (fun _ _ => rfl) ?_
    refine t_go (op := o_l2d 32 (fun x y => x / y)) (fe_X2_draw 31) (g_l2d (by decide)) ?_
    refine t_go (op := o_iload 33 1) (fe_X2_draw 32) (fun _ _ => rfl) ?_
    refine t_go (op := o_i2l 34) (fe_X2_draw 33) (fun _ _ => rfl) ?_
    refine t_go (op := o_l2d 35 (fun x y => x - x / y * y)) (fe_X2_draw 34) (g_l2d (i64_ne c1)) ?_
    refine t_go (op := o_l2i 36) (fe_X2_draw 35) (fun _ _ => rfl) ?_
    refine t_go (op := o_goto 40) (fe_X2_draw 36) (fun _ _ => rfl) ?_
    refine t_ret (op := o_iret) (fe_X2_draw 40) (fun _ _ => rfl) ?_
    exact ⟨by unfold drawV; rw [if_neg c1]; rfl, rfl⟩
noncomputable def tendF (m : Int32) (F : FS) (s : Int64) : FS × Int64 := if drawV (drawN s) 4 = 0 then (stokeF F (drawV (drawN (drawN s)) m), drawN (drawN s)) else if drawV (drawN s) 4 = 1 then (addFuelF F (drawV (drawN (drawN s)) m) (drawV (drawN (drawN (drawN s))) 9 + 1), drawN (drawN (drawN s))) else (F, drawN s)
theorem fs_sJ {k : AHP} {a i f : Nat} {v : Int64} : fs (sJ k a i v) f = fs k f := rfl
theorem rd_sJ {k : AHP} {v : Int64} : (sJ k 135 2 v).2.1 135 2 = v := by simp [sJ, up2]
theorem NF_tend {m : Int32} {F : FS} {s : Int64} (hN : NF F) : NF (tendF m F s).1 := by
  unfold tendF
  split
  · exact NF_stoke hN
  · split
    · exact NF_fuel hN
    · exact hN
theorem m_tend {d : Nat} {h k : AHP} {m : Int32} {F : FS} {s : Int64} (hS0 : Std h) (hX : X h k) (hF : fs k 136 = F) (hs : k.2.1 135 2 = s) : MM (d + 3) 46 [.ref 135, .int m] k (fun v h2 => v = none ∧ X h h2 ∧ fs h2 136 = (tendF m F s).1 ∧ h2.2.1 135 2 = (tendF m F s).2) := by
  refine ⟨Nat.le_of_ble_eq_true rfl, ?_⟩
  have hS := hX.std hS0
  refine t_go (op := o_aload 1 0) (fe_X2_tend 0) (fun _ _ => rfl) ?_
  refine t_go (op := o_ci 2 4) (fe_X2_tend 1) (fun _ _ => rfl) ?_
  refine t_call (op := o_callV 5 47 2 2) (fe_X2_tend 2) (g_callV hS (by decide) (by decide) rfl rfl rfl (Nat.le_of_ble_eq_true rfl)) ?_
  refine M_mono ?_ (m_draw hS hs)
  rintro v h2 ⟨q1, q2⟩
  rw [q1, q2]; clear q1 q2 v h2
  refine t_go (op := o_istore 6 2) (fe_X2_tend 5) (fun _ _ => rfl) ?_
  refine t_go (op := o_iload 7 2) (fe_X2_tend 6) (fun _ _ => rfl) ?_
  refine t_ite (op := o_if 25 10 (fun x => x = 0) (fun _ => inferInstance)) (fe_X2_tend 7) g_if (fun c1 => ?_) (fun c1 => ?_)
  · refine t_go (op := o_aload 11 0) (fe_X2_tend 10) (fun _ _ => rfl) ?_
    refine t_go (op := o_getR 14 2 0) (fe_X2_tend 11) (g_getR hS (by decide) (by decide) (fr_2_0 hS) (by decide)) ?_
    refine t_go (op := o_aload 15 0) (fe_X2_tend 14) (fun _ _ => rfl) ?_
    refine t_go (op := o_iload 16 1) (fe_X2_tend 15) (fun _ _ => rfl) ?_
    refine t_call (op := o_callV 19 47 2 2) (fe_X2_tend 16) (g_callV hS (by decide) (by decide) rfl rfl rfl (Nat.le_of_ble_eq_true rfl)) ?_
    refine M_mono ?_ (m_draw (k := sJ k 135 2 (drawN s)) hS rd_sJ)
    rintro v h2 ⟨q1, q2⟩
    rw [q1, q2]; clear q1 q2 v h2
    refine t_call (op := o_callV 22 15 2 1) (fe_X2_tend 19) (g_callV hS (by decide) (by decide) rfl rfl rfl (Nat.le_of_ble_eq_true rfl)) ?_
    refine M_mono ?_ (a_stoke hS0 (X_sJ (X_sJ hX)) (Or.inl rfl) (show fs (sJ (sJ k 135 2 (drawN s)) 135 2 (drawN (drawN s))) 136 = F from hF))
    rintro v h2 ⟨q1, hX4, hF4, hK4⟩
    rw [q1]; clear q1 v
    refine t_go (op := o_goto 56) (fe_X2_tend 22) (fun _ _ => rfl) ?_
    refine t_ret (op := o_vret) (fe_X2_tend 56) (fun _ _ => rfl) ?_
    refine ⟨rfl, hX4, ?_, ?_⟩
    · unfold tendF; rw [if_pos c1]; exact hF4
    · unfold tendF; rw [if_pos c1, hK4.2.2]; exact rd_sJ
  · refine t_go (op := o_iload 26 2) (fe_X2_tend 25) (fun _ _ => rfl) ?_
    refine t_go (op := o_ci 27 1) (fe_X2_tend 26) (fun _ _ => rfl) ?_
    refine t_ite (op := o_icmp 56 30 (fun x y => x = y) (fun _ _ => inferInstance)) (fe_X2_tend 27) g_icmp (fun c2 => ?_) (fun c2 => ?_)
    · refine t_go (op := o_aload 31 0) (fe_X2_tend 30) (fun _ _ => rfl) ?_
      refine t_go (op := o_iload 32 1) (fe_X2_tend 31) (fun _ _ => rfl) ?_
      refine t_call (op := o_callV 35 47 2 2) (fe_X2_tend 32) (g_callV hS (by decide) (by decide) rfl rfl rfl (Nat.le_of_ble_eq_true rfl)) ?_
      refine M_mono ?_ (m_draw (k := sJ k 135 2 (drawN s)) hS rd_sJ)
      rintro v h2 ⟨q1, q2⟩
      rw [q1, q2]; clear q1 q2 v h2
      refine t_go (op := o_istore 36 3) (fe_X2_tend 35) (fun _ _ => rfl) ?_
      refine t_go (op := o_aload 37 0) (fe_X2_tend 36) (fun _ _ => rfl) ?_
      refine t_go (op := o_ci 39 9) (fe_X2_tend 37) (fun _ _ => rfl) ?_
      refine t_call (op := o_callV 42 47 2 2) (fe_X2_tend 39) (g_callV hS (by decide) (by decide) rfl rfl rfl (Nat.le_of_ble_eq_true rfl)) ?_
      refine M_mono ?_ (m_draw (k := sJ (sJ k 135 2 (drawN s)) 135 2 (drawN (drawN s))) hS rd_sJ)
      rintro v h2 ⟨q1, q2⟩
      rw [q1, q2]; clear q1 q2 v h2
      refine t_go (op := o_ci 43 1) (fe_X2_tend 42) (fun _ _ => rfl) ?_
      refine t_go (op := o_i2 44 (fun x y => x + y)) (fe_X2_tend 43) (fun _ _ => rfl) ?_
      refine t_go (op := o_istore 46 4) (fe_X2_tend 44) (fun _ _ => rfl) ?_
      refine t_go (op := o_aload 47 0) (fe_X2_tend 46) (fun _ _ => rfl) ?_
      refine t_go (op := o_getR 50 2 0) (fe_X2_tend 47) (g_getR hS (by decide) (by decide) (fr_2_0 hS) (by decide)) ?_
      refine t_go (op := o_iload 51 3) (fe_X2_tend 50) (fun _ _ => rfl) ?_
      refine t_go (op := o_iload 53 4) (fe_X2_tend 51) (fun _ _ => rfl) ?_
      refine t_call (op := o_callV 56 16 3 1) (fe_X2_tend 53) (g_callV hS (by decide) (by decide) rfl rfl rfl (Nat.le_of_ble_eq_true rfl)) ?_
      refine M_mono ?_ (a_addFuel hS0 (X_sJ (X_sJ (X_sJ hX))) (Or.inl rfl) (show fs (sJ (sJ (sJ k 135 2 (drawN s)) 135 2 (drawN (drawN s))) 135 2 (drawN (drawN (drawN s)))) 136 = F from hF))
      rintro v h2 ⟨q1, hX4, hF4, hK4⟩
      rw [q1]; clear q1 v
      refine t_ret (op := o_vret) (fe_X2_tend 56) (fun _ _ => rfl) ?_
      refine ⟨rfl, hX4, ?_, ?_⟩
      · unfold tendF; rw [if_neg c1, if_pos c2]; exact hF4
      · unfold tendF; rw [if_neg c1, if_pos c2, hK4.2.2]; exact rd_sJ
    · refine t_ret (op := o_vret) (fe_X2_tend 56) (fun _ _ => rfl) ?_
      refine ⟨rfl, X_sJ hX, ?_, ?_⟩
      · unfold tendF; rw [if_neg c1, if_neg c2]; exact hF
      · unfold tendF; rw [if_neg c1, if_neg c2]; exact rd_sJ
noncomputable def winS (h : AHP) (g n : Nat) (_ : Nat) (s : Int32 × FS × Int64) : Int32 × FS × Int64 :=
  if h.1 g 4 ≤ 0 then (s.1 + bcI (HB h g n 1 s.2.1).2, (HB h g n 1 s.2.1).1, s.2.2)
  else (s.1 + bcI (HB h g n 1 (tendF (h.1 g 4) s.2.1 s.2.2).1).2, (HB h g n 1 (tendF (h.1 g 4) s.2.1 s.2.2).1).1, (tendF (h.1 g 4) s.2.1 s.2.2).2)
theorem l_winter {d : Nat} {h : AHP} {g n : Nat} (hS0 : Std h) (hg : (lay g).1 = 3) (hL : LawOK h g n) {m : Nat} {y w : Int32} (hm : m ≤ 99)  {Q : Option Value → AHP → Prop} : ∀ (j i : Nat) (S : Int32 × FS × Int64) (k : AHP), i + j = m → X h k → fs k 136 = S.2.1 → NF S.2.1 → k.2.1 135 2 = S.2.2 → (∀ k2 (x : Int32 × FS × Int64), x = it (winS h g n) j i S → X h k2 → fs k2 136 = x.2.1 → NF x.2.1 → TT (d + 5) 44 65 [some (.ref 135), some (.ref g), some (.ref 5), some (.int y), some (.int (nI m)), some (.int w), some (.int x.1), some (.int (nI m))] [] k2 Q) → TT (d + 5) 44 20 [some (.ref 135), some (.ref g), some (.ref 5), some (.int y), some (.int (nI m)), some (.int w), some (.int S.1), some (.int (nI i))] [] k Q := by
  intro j
  induction j with
  | zero =>
    intro i S k hi hX hF hNS hs hq
    have hN : i = m := by omega
    have hS := hX.std hS0
    refine t_go (op := o_iload 22 7) (fe_X2_winter 20) (fun _ _ => rfl) ?_
    refine t_go (op := o_iload 24 4) (fe_X2_winter 22) (fun _ _ => rfl) ?_
    refine t_ite (op := o_icmp 27 65 (fun x y => y ≤ x) (fun _ _ => inferInstance)) (fe_X2_winter 24) g_icmp (fun c1 => ?_) (fun c1 => ?_)
    · rw [hN]
      exact hq k S rfl hX hF hNS
    · exact absurd (by rw [hN]; exact Int32.le_refl _) c1
  | succ j ih =>
    intro i S k hi hX hF hNS hs hq
    have hi2 : i < m := by omega
    have hS := hX.std hS0
    refine t_go (op := o_iload 22 7) (fe_X2_winter 20) (fun _ _ => rfl) ?_
    refine t_go (op := o_iload 24 4) (fe_X2_winter 22) (fun _ _ => rfl) ?_
    refine t_ite (op := o_icmp 27 65 (fun x y => y ≤ x) (fun _ _ => inferInstance)) (fe_X2_winter 24) g_icmp (fun c1 => ?_) (fun c1 => ?_)
    · exact absurd c1 (nI_ge hi2 (by omega))
    · refine t_go (op := o_aload 28 1) (fe_X2_winter 27) (fun _ _ => rfl) ?_
      refine t_go (op := o_getI 31 3 4) (fe_X2_winter 28) (g_getI hS hg (by decide)) ?_
      rw [hX.2.2 g (by have := grate_scr hg; omega)]
      refine t_ite (op := o_if 34 42 (fun x => x ≤ 0) (fun _ => inferInstance)) (fe_X2_winter 31) g_if (fun c2 => ?_) (fun c2 => ?_)
      · refine t_go (op := o_iload 44 6) (fe_X2_winter 42) (fun _ _ => rfl) ?_
        refine t_go (op := o_aload 45 0) (fe_X2_winter 44) (fun _ _ => rfl) ?_
        refine t_go (op := o_getR 48 2 0) (fe_X2_winter 45) (g_getR hS (by decide) (by decide) (fr_2_0 hS) (by decide)) ?_
        refine t_go (op := o_aload 49 1) (fe_X2_winter 48) (fun _ _ => rfl) ?_
        refine t_go (op := o_ci 50 1) (fe_X2_winter 49) (fun _ _ => rfl) ?_
        refine t_call (op := o_callV 53 17 3 1) (fe_X2_winter 50) (g_callV hS (by decide) (by decide) rfl rfl rfl (Nat.le_of_ble_eq_true rfl)) ?_
        refine M_mono ?_ (a_pass hS0 hg hL hX (Or.inl rfl) hF)
        rintro v h2 ⟨q1, hX2, hF2, hK2⟩
        rw [q1]; clear q1 v
        replace hS := hX2.std hS0
        refine t_call (op := o_callS 56 270 1) (fe_X2_winter 53) (g_callS rfl rfl rfl (Nat.le_of_ble_eq_true rfl)) ?_
        refine M_mono ?_ m_bitCount
        rintro v h3 ⟨q1, q2⟩
        rw [q1, q2]; clear q1 q2 v h3
        refine t_go (op := o_i2 57 (fun x y => x + y)) (fe_X2_winter 56) (fun _ _ => rfl) ?_
        refine t_go (op := o_istore 59 6) (fe_X2_winter 57) (fun _ _ => rfl) ?_
        refine t_go (op := o_iinc 62 7 1) (fe_X2_winter 59) (fun _ _ => rfl) ?_
        refine t_go (op := o_goto 20) (fe_X2_winter 62) (fun _ _ => rfl) ?_
        have hw : winS h g n i S = (S.1 + bcI (HB h g n 1 S.2.1).2, (HB h g n 1 S.2.1).1, S.2.2) := if_pos c2
        rw [it_step, hw] at hq
        rw [nI_1]
        exact ih (i + 1) (S.1 + bcI (HB h g n 1 S.2.1).2, (HB h g n 1 S.2.1).1, S.2.2) _ (by omega) hX2 hF2 (NF_HB hNS) (by rw [hK2.2.2]; exact hs) hq
      · refine t_go (op := o_aload 35 0) (fe_X2_winter 34) (fun _ _ => rfl) ?_
        refine t_go (op := o_aload 36 1) (fe_X2_winter 35) (fun _ _ => rfl) ?_
        refine t_go (op := o_getI 39 3 4) (fe_X2_winter 36) (g_getI hS hg (by decide)) ?_
        rw [hX.2.2 g (by have := grate_scr hg; omega)]
        refine t_call (op := o_callV 42 46 2 2) (fe_X2_winter 39) (g_callV hS (by decide) (by decide) rfl rfl rfl (Nat.le_of_ble_eq_true rfl)) ?_
        refine M_mono ?_ (m_tend hS0 hX hF hs)
        rintro v h2 ⟨q1, hX5, hF5, hs5⟩
        rw [q1]; clear q1 v
        replace hS := hX5.std hS0
        obtain ⟨TD, hTD⟩ : ∃ TD, TD = tendF (h.1 g 4) S.2.1 S.2.2 := ⟨_, rfl⟩
        rw [← hTD] at hF5 hs5
        refine t_go (op := o_iload 44 6) (fe_X2_winter 42) (fun _ _ => rfl) ?_
        refine t_go (op := o_aload 45 0) (fe_X2_winter 44) (fun _ _ => rfl) ?_
        refine t_go (op := o_getR 48 2 0) (fe_X2_winter 45) (g_getR hS (by decide) (by decide) (fr_2_0 hS) (by decide)) ?_
        refine t_go (op := o_aload 49 1) (fe_X2_winter 48) (fun _ _ => rfl) ?_
        refine t_go (op := o_ci 50 1) (fe_X2_winter 49) (fun _ _ => rfl) ?_
        refine t_call (op := o_callV 53 17 3 1) (fe_X2_winter 50) (g_callV hS (by decide) (by decide) rfl rfl rfl (Nat.le_of_ble_eq_true rfl)) ?_
        refine M_mono ?_ (a_pass hS0 hg hL hX5 (Or.inl rfl) hF5)
        rintro v h2 ⟨q1, hX2, hF2, hK2⟩
        rw [q1]; clear q1 v
        replace hS := hX2.std hS0
        refine t_call (op := o_callS 56 270 1) (fe_X2_winter 53) (g_callS rfl rfl rfl (Nat.le_of_ble_eq_true rfl)) ?_
        refine M_mono ?_ m_bitCount
        rintro v h3 ⟨q1, q2⟩
        rw [q1, q2]; clear q1 q2 v h3
        refine t_go (op := o_i2 57 (fun x y => x + y)) (fe_X2_winter 56) (fun _ _ => rfl) ?_
        refine t_go (op := o_istore 59 6) (fe_X2_winter 57) (fun _ _ => rfl) ?_
        refine t_go (op := o_iinc 62 7 1) (fe_X2_winter 59) (fun _ _ => rfl) ?_
        refine t_go (op := o_goto 20) (fe_X2_winter 62) (fun _ _ => rfl) ?_
        have hw : winS h g n i S = (S.1 + bcI (HB h g n 1 TD.1).2, (HB h g n 1 TD.1).1, TD.2) := by rw [hTD]; exact if_neg c2
        have hNT : NF TD.1 := by rw [hTD]; exact NF_tend hNS
        clear hTD
        rw [it_step, hw] at hq
        rw [nI_1]
        exact ih (i + 1) (S.1 + bcI (HB h g n 1 TD.1).2, (HB h g n 1 TD.1).1, TD.2) _ (by omega) hX2 hF2 (NF_HB hNT) (by rw [hK2.2.2]; exact hs5) hq
noncomputable def winV (h : AHP) (g n m : Nat) (y : Int32) : Int32 × FS × Int64 := it (winS h g n) m 0 (0, fs h 5, y.toInt64)
noncomputable def winR (h : AHP) (g n m : Nat) (y w : Int32) : Int32 := if w = 0 then (winV h g n m y).1 else if w = 1 then bcI (litH h g n (winV h g n m y).2.1) else it (sumS (winV h g n m y).2.1.2.1) 7 0 0
theorem m_winter {d : Nat} {h k : AHP} {g n : Nat} (hS0 : Std h) (hg : (lay g).1 = 3) (hL : LawOK h g n) (hX : X h k) (hN : NF (fs k 136)) (hz : h.1 5 5 = 0 ∨ h.1 5 5 = 1) (hN2 : NF (fs h 5)) {m : Nat} {y w : Int32} (hm : m ≤ 99) : MM (d + 5) 44 [.ref 135, .ref g, .ref 5, .int y, .int (nI m), .int w] k (fun v h2 => v = some (.int (winR h g n m y w)) ∧ X h h2 ∧ NF (fs h2 136)) := by
  refine ⟨Nat.le_of_ble_eq_true rfl, ?_⟩
  have hS := hX.std hS0
  refine t_go (op := o_aload 1 0) (fe_X2_winter 0) (fun _ _ => rfl) ?_
  refine t_go (op := o_iload 2 3) (fe_X2_winter 1) (fun _ _ => rfl) ?_
  refine t_go (op := o_i2l 3) (fe_X2_winter 2) (fun _ _ => rfl) ?_
  refine t_go (op := o_putJ 6 2 2) (fe_X2_winter 3) (g_putJ hS (by decide) (by decide)) ?_
  refine t_go (op := o_aload 7 0) (fe_X2_winter 6) (fun _ _ => rfl) ?_
  refine t_go (op := o_getR 10 2 0) (fe_X2_winter 7) (g_getR hS (by decide) (by decide) (fr_2_0 hS) (by decide)) ?_
  refine t_go (op := o_aload 11 2) (fe_X2_winter 10) (fun _ _ => rfl) ?_
  refine t_call (op := o_callV 14 7 2 1) (fe_X2_winter 11) (g_callV hS (by decide) (by decide) rfl rfl rfl (Nat.le_of_ble_eq_true rfl)) ?_
  refine M_mono ?_ (a_become hS0 (X_sJ hX) (Or.inl rfl) (by decide) (Or.inl (by decide)) hz (show NF (fs (sJ k 135 2 y.toInt64) 136) from hN) hN2)
  rintro v h2 ⟨q1, hX2, hF2, hK2⟩
  rw [q1]; clear q1 v
  replace hS := hX2.std hS0
  refine t_go (op := o_ci 15 0) (fe_X2_winter 14) (fun _ _ => rfl) ?_
  refine t_go (op := o_istore 17 6) (fe_X2_winter 15) (fun _ _ => rfl) ?_
  refine t_go (op := o_ci 18 0) (fe_X2_winter 17) (fun _ _ => rfl) ?_
  refine t_go (op := o_istore 20 7) (fe_X2_winter 18) (fun _ _ => rfl) ?_
  refine l_winter hS0 hg hL hm m 0 (0, fs h 5, y.toInt64) _ (by omega) hX2 hF2 hN2 (by rw [hK2.2.2]; exact rd_sJ) (fun k2 x hx hx1 hx2 hx3 => ?_)
  replace hS := hx1.std hS0
  refine t_go (op := o_iload 67 5) (fe_X2_winter 65) (fun _ _ => rfl) ?_
  refine t_ite (op := o_if 73 70 (fun x => x = 0) (fun _ => inferInstance)) (fe_X2_winter 67) g_if (fun e1 => ?_) (fun e1 => ?_)
  · refine t_go (op := o_iload 72 6) (fe_X2_winter 70) (fun _ _ => rfl) ?_
    refine t_ret (op := o_iret) (fe_X2_winter 72) (fun _ _ => rfl) ?_
    refine ⟨?_, hx1, by rw [hx2]; exact hx3⟩
    unfold winR winV
    rw [if_pos e1, ← hx]
  · refine t_go (op := o_iload 75 5) (fe_X2_winter 73) (fun _ _ => rfl) ?_
    refine t_go (op := o_ci 76 1) (fe_X2_winter 75) (fun _ _ => rfl) ?_
    refine t_ite (op := o_icmp 93 79 (fun x y => x = y) (fun _ _ => inferInstance)) (fe_X2_winter 76) g_icmp (fun e2 => ?_) (fun e2 => ?_)
    · refine t_go (op := o_aload 80 0) (fe_X2_winter 79) (fun _ _ => rfl) ?_
      refine t_go (op := o_getR 83 2 0) (fe_X2_winter 80) (g_getR hS (by decide) (by decide) (fr_2_0 hS) (by decide)) ?_
      refine t_go (op := o_aload 84 1) (fe_X2_winter 83) (fun _ _ => rfl) ?_
      refine t_call (op := o_callV 87 18 2 1) (fe_X2_winter 84) (g_callV hS (by decide) (by decide) rfl rfl rfl (Nat.le_of_ble_eq_true rfl)) ?_
      refine M_mono ?_ (a_litBits hS0 hg hx1 (by decide) hx2)
      rintro v h3 ⟨q1, q2⟩
      rw [q1, q2]; clear q1 q2 v h3
      refine t_call (op := o_callS 90 270 1) (fe_X2_winter 87) (g_callS rfl rfl rfl (Nat.le_of_ble_eq_true rfl)) ?_
      refine M_mono ?_ m_bitCount
      rintro v h3 ⟨q1, q2⟩
      rw [q1, q2]; clear q1 q2 v h3
      refine t_go (op := o_goto 100) (fe_X2_winter 90) (fun _ _ => rfl) ?_
      refine t_ret (op := o_iret) (fe_X2_winter 100) (fun _ _ => rfl) ?_
      refine ⟨?_, hx1, by rw [hx2]; exact hx3⟩
      unfold winR winV
      rw [if_neg e1, if_pos e2, ← hx]
      rfl
    · refine t_go (op := o_aload 94 0) (fe_X2_winter 93) (fun _ _ => rfl) ?_
      refine t_go (op := o_getR 97 2 0) (fe_X2_winter 94) (g_getR hS (by decide) (by decide) (fr_2_0 hS) (by decide)) ?_
      refine t_call (op := o_callV 100 21 1 1) (fe_X2_winter 97) (g_callV hS (by decide) (by decide) rfl rfl rfl (Nat.le_of_ble_eq_true rfl)) ?_
      refine M_mono ?_ (a_heatOfAll (hx1.std hS0) (by decide) hx2)
      rintro v h3 ⟨q1, q2⟩
      rw [q1, q2]; clear q1 q2 v h3
      refine t_ret (op := o_iret) (fe_X2_winter 100) (fun _ _ => rfl) ?_
      refine ⟨?_, hx1, by rw [hx2]; exact hx3⟩
      unfold winR winV
      rw [if_neg e1, if_neg e2, ← hx]
