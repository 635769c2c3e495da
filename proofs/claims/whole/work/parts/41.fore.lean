noncomputable def moveS (h : AHP) (g n : Nat) (i : Nat) (s : Int32 × Int32) : Int32 × Int32 := @ite _ (hasF (fs h 5) (nI i / 12) ∧ freeF (fs h 5) (remI (nI i) 12)) (Classical.propDecidable _) (if lastsV h g n (-1) 41 0 (carryF (fs h 5) (nI i / 12) (remI (nI i) 12)) ≤ s.2 then s else (nI i, lastsV h g n (-1) 41 0 (carryF (fs h 5) (nI i / 12) (remI (nI i) 12)))) s
theorem l_move {d : Nat} {h : AHP} {g n : Nat} (hS0 : Std h) (hg : (lay g).1 = 3) (hL : LawOK h g n) (hz : h.1 5 5 = 0 ∨ h.1 5 5 = 1) (hN2 : NF (fs h 5))  {Q : Option Value → AHP → Prop} : ∀ (j i : Nat) (S : Int32 × Int32) (k : AHP) (x6 x7 x8 : Option Value), i + j = 84 → X h k → NF (fs k 136) → (∀ k2, X h k2 → NF (fs k2 136) → Q (some (.int (it (moveS h g n) j i S).1)) k2) → TT (d + 6) 38 21 [some (.ref 135), some (.ref g), some (.ref 5), some (.int S.1), some (.int S.2), some (.int (nI i)), x6, x7, x8] [] k Q := by
  intro j
  induction j with
  | zero =>
    intro i S k x6 x7 x8 hi hX hNk hq
    have hN : i = 84 := by omega
    have hS := hX.std hS0
    refine t_go (op := o_iload 23 5) (fe_X2_bestMove 21) (fun _ _ => rfl) ?_
    refine t_go (op := o_ci 25 84) (fe_X2_bestMove 23) (fun _ _ => rfl) ?_
    refine t_ite (op := o_icmp 28 107 (fun x y => y ≤ x) (fun _ _ => inferInstance)) (fe_X2_bestMove 25) g_icmp (fun c1 => ?_) (fun c1 => ?_)
    · refine t_go (op := o_iload 108 3) (fe_X2_bestMove 107) (fun _ _ => rfl) ?_
      refine t_ret (op := o_iret) (fe_X2_bestMove 108) (fun _ _ => rfl) ?_
      exact hq k hX hNk
    · exact absurd (by rw [hN]; exact Int32.le_refl _) c1
  | succ j ih =>
    intro i S k x6 x7 x8 hi hX hNk hq
    have hi2 : i < 84 := by omega
    have hS := hX.std hS0
    refine t_go (op := o_iload 23 5) (fe_X2_bestMove 21) (fun _ _ => rfl) ?_
    refine t_go (op := o_ci 25 84) (fe_X2_bestMove 23) (fun _ _ => rfl) ?_
    refine t_ite (op := o_icmp 28 107 (fun x y => y ≤ x) (fun _ _ => inferInstance)) (fe_X2_bestMove 25) g_icmp (fun c1 => ?_) (fun c1 => ?_)
    · exact absurd c1 (nI_ge (show i < 84 by omega) (by decide))
    · refine t_go (op := o_iload 30 5) (fe_X2_bestMove 28) (fun _ _ => rfl) ?_
      refine t_go (op := o_ci 32 12) (fe_X2_bestMove 30) (fun _ _ => rfl) ?_
      refine t_go (op := o_i2d 33 (fun x y => x / y)) (fe_X2_bestMove 32) (g_i2d (by decide)) ?_
      refine t_go (op := o_istore 35 6) (fe_X2_bestMove 33) (fun _ _ => rfl) ?_
      refine t_go (op := o_iload 37 5) (fe_X2_bestMove 35) (fun _ _ => rfl) ?_
      refine t_go (op := o_ci 39 12) (fe_X2_bestMove 37) (fun _ _ => rfl) ?_
      refine t_go (op := o_i2d 40 (fun x y => x - x / y * y)) (fe_X2_bestMove 39) (g_i2d (by decide)) ?_
      refine t_go (op := o_istore 42 7) (fe_X2_bestMove 40) (fun _ _ => rfl) ?_
      refine t_go (op := o_aload 43 2) (fe_X2_bestMove 42) (fun _ _ => rfl) ?_
      refine t_go (op := o_iload 45 6) (fe_X2_bestMove 43) (fun _ _ => rfl) ?_
      refine t_call (op := o_callV 48 8 2 1) (fe_X2_bestMove 45) (g_callV hS (by decide) (by decide) rfl rfl rfl (Nat.le_of_ble_eq_true rfl)) ?_
      refine M_mono ?_ (a_has hS (by decide) (X_fs hX (by omega)))
      rintro v h2 ⟨q1, q2⟩
      rw [q1, q2]; clear q1 q2 v h2
      refine t_ite (op := o_if 51 101 (fun x => x = 0) (fun _ => inferInstance)) (fe_X2_bestMove 48) g_if (fun c2 => ?_) (fun c2 => ?_)
      · refine t_go (op := o_iinc 104 5 1) (fe_X2_bestMove 101) (fun _ _ => rfl) ?_
        refine t_go (op := o_goto 21) (fe_X2_bestMove 104) (fun _ _ => rfl) ?_
        have hs : moveS h g n i S = S := if_neg (fun q => b2i_ne.mp c2 q.1)
        have hq2 : ∀ k2, X h k2 → NF (fs k2 136) → Q (some (.int (it (moveS h g n) j (i + 1) (moveS h g n i S)).1)) k2 := hq
        rw [hs] at hq2
        rw [nI_1]
        exact ih (i + 1) S _ _ _ _ (by omega) hX hNk hq2
      · refine t_go (op := o_aload 52 2) (fe_X2_bestMove 51) (fun _ _ => rfl) ?_
        refine t_go (op := o_iload 54 7) (fe_X2_bestMove 52) (fun _ _ => rfl) ?_
        refine t_call (op := o_callV 57 9 2 1) (fe_X2_bestMove 54) (g_callV hS (by decide) (by decide) rfl rfl rfl (Nat.le_of_ble_eq_true rfl)) ?_
        refine M_mono ?_ (a_isFree hS (by decide) (X_fs hX (by omega)))
        rintro v h2 ⟨q1, q2⟩
        rw [q1, q2]; clear q1 q2 v h2
        refine t_ite (op := o_if 60 101 (fun x => x = 0) (fun _ => inferInstance)) (fe_X2_bestMove 57) g_if (fun c3 => ?_) (fun c3 => ?_)
        · refine t_go (op := o_iinc 104 5 1) (fe_X2_bestMove 101) (fun _ _ => rfl) ?_
          refine t_go (op := o_goto 21) (fe_X2_bestMove 104) (fun _ _ => rfl) ?_
          have hs : moveS h g n i S = S := if_neg (fun q => b2i_ne.mp c3 q.2)
          have hq2 : ∀ k2, X h k2 → NF (fs k2 136) → Q (some (.int (it (moveS h g n) j (i + 1) (moveS h g n i S)).1)) k2 := hq
          rw [hs] at hq2
          rw [nI_1]
          exact ih (i + 1) S _ _ _ _ (by omega) hX hNk hq2
        · refine t_go (op := o_aload 61 0) (fe_X2_bestMove 60) (fun _ _ => rfl) ?_
          refine t_go (op := o_getR 64 2 0) (fe_X2_bestMove 61) (g_getR hS (by decide) (by decide) (fr_2_0 hS) (by decide)) ?_
          refine t_go (op := o_aload 65 2) (fe_X2_bestMove 64) (fun _ _ => rfl) ?_
          refine t_call (op := o_callV 68 7 2 1) (fe_X2_bestMove 65) (g_callV hS (by decide) (by decide) rfl rfl rfl (Nat.le_of_ble_eq_true rfl)) ?_
          refine M_mono ?_ (a_become hS0 hX (Or.inl rfl) (by decide) (Or.inl (by decide)) hz hNk hN2)
          rintro v h2 ⟨q1, hX2, hF2, hK2⟩
          rw [q1]; clear q1 v
          replace hS := hX2.std hS0
          refine t_go (op := o_aload 69 0) (fe_X2_bestMove 68) (fun _ _ => rfl) ?_
          refine t_go (op := o_getR 72 2 0) (fe_X2_bestMove 69) (g_getR hS (by decide) (by decide) (fr_2_0 hS) (by decide)) ?_
          refine t_go (op := o_iload 74 6) (fe_X2_bestMove 72) (fun _ _ => rfl) ?_
          refine t_go (op := o_iload 76 7) (fe_X2_bestMove 74) (fun _ _ => rfl) ?_
          refine t_call (op := o_callV 79 14 3 1) (fe_X2_bestMove 76) (g_callV hS (by decide) (by decide) rfl rfl rfl (Nat.le_of_ble_eq_true rfl)) ?_
          refine M_mono ?_ (a_carry hS0 hX2 (Or.inl rfl) hF2)
          rintro v h2 ⟨q1, hX4, hF4, hK4⟩
          rw [q1]; clear q1 v
          replace hS := hX4.std hS0
          refine t_go (op := o_aload 80 0) (fe_X2_bestMove 79) (fun _ _ => rfl) ?_
          refine t_go (op := o_aload 81 1) (fe_X2_bestMove 80) (fun _ _ => rfl) ?_
          refine t_go (op := o_ci 82 (-1)) (fe_X2_bestMove 81) (fun _ _ => rfl) ?_
          refine t_call (op := o_callV 85 48 3 2) (fe_X2_bestMove 82) (g_callV hS (by decide) (by decide) rfl rfl rfl (Nat.le_of_ble_eq_true rfl)) ?_
          refine M_mono ?_ (m_trialLasts hS0 hg hL hX4 hF4 (NF_carry hN2))
          rintro v h2 ⟨q1, hX3, hN3⟩
          rw [q1]; clear q1 v
          replace hS := hX3.std hS0
          refine t_go (op := o_istore 87 8) (fe_X2_bestMove 85) (fun _ _ => rfl) ?_
          refine t_go (op := o_iload 89 8) (fe_X2_bestMove 87) (fun _ _ => rfl) ?_
          refine t_go (op := o_iload 91 4) (fe_X2_bestMove 89) (fun _ _ => rfl) ?_
          refine t_ite (op := o_icmp 94 101 (fun x y => x ≤ y) (fun _ _ => inferInstance)) (fe_X2_bestMove 91) g_icmp (fun c4 => ?_) (fun c4 => ?_)
          · refine t_go (op := o_iinc 104 5 1) (fe_X2_bestMove 101) (fun _ _ => rfl) ?_
            refine t_go (op := o_goto 21) (fe_X2_bestMove 104) (fun _ _ => rfl) ?_
            have hs : moveS h g n i S = S := (if_pos ⟨Classical.not_not.mp (fun q => c2 (b2i_f q)), Classical.not_not.mp (fun q => c3 (b2i_f q))⟩).trans (if_pos c4)
            have hq2 : ∀ k2, X h k2 → NF (fs k2 136) → Q (some (.int (it (moveS h g n) j (i + 1) (moveS h g n i S)).1)) k2 := hq
            rw [hs] at hq2
            rw [nI_1]
            exact ih (i + 1) S _ _ _ _ (by omega) hX3 hN3 hq2
          · refine t_go (op := o_iload 96 8) (fe_X2_bestMove 94) (fun _ _ => rfl) ?_
            refine t_go (op := o_istore 98 4) (fe_X2_bestMove 96) (fun _ _ => rfl) ?_
            refine t_go (op := o_iload 100 5) (fe_X2_bestMove 98) (fun _ _ => rfl) ?_
            refine t_go (op := o_istore 101 3) (fe_X2_bestMove 100) (fun _ _ => rfl) ?_
            refine t_go (op := o_iinc 104 5 1) (fe_X2_bestMove 101) (fun _ _ => rfl) ?_
            refine t_go (op := o_goto 21) (fe_X2_bestMove 104) (fun _ _ => rfl) ?_
            have hs : moveS h g n i S = (nI i, lastsV h g n (-1) 41 0 (carryF (fs h 5) (nI i / 12) (remI (nI i) 12))) := (if_pos ⟨Classical.not_not.mp (fun q => c2 (b2i_f q)), Classical.not_not.mp (fun q => c3 (b2i_f q))⟩).trans (if_neg c4)
            have hq2 : ∀ k2, X h k2 → NF (fs k2 136) → Q (some (.int (it (moveS h g n) j (i + 1) (moveS h g n i S)).1)) k2 := hq
            rw [hs] at hq2
            rw [nI_1]
            exact ih (i + 1) (nI i, lastsV h g n (-1) 41 0 (carryF (fs h 5) (nI i / 12) (remI (nI i) 12))) _ _ _ _ (by omega) hX3 hN3 hq2
theorem m_bestMove {d : Nat} {h k : AHP} {g n : Nat} (hS0 : Std h) (hg : (lay g).1 = 3) (hL : LawOK h g n) (hX : X h k) (hN : NF (fs k 136)) (hz : h.1 5 5 = 0 ∨ h.1 5 5 = 1) (hN2 : NF (fs h 5)) : MM (d + 6) 38 [.ref 135, .ref g, .ref 5] k (fun v h2 => v = some (.int (it (moveS h g n) 84 0 (-1, lastsV h g n (-1) 41 0 (fs h 5))).1) ∧ X h h2 ∧ NF (fs h2 136)) := by
  refine ⟨Nat.le_of_ble_eq_true rfl, ?_⟩
  have hS := hX.std hS0
  refine t_go (op := o_ci 1 (-1)) (fe_X2_bestMove 0) (fun _ _ => rfl) ?_
  refine t_go (op := o_istore 2 3) (fe_X2_bestMove 1) (fun _ _ => rfl) ?_
  refine t_go (op := o_aload 3 0) (fe_X2_bestMove 2) (fun _ _ => rfl) ?_
  refine t_go (op := o_getR 6 2 0) (fe_X2_bestMove 3) (g_getR hS (by decide) (by decide) (fr_2_0 hS) (by decide)) ?_
  refine t_go (op := o_aload 7 2) (fe_X2_bestMove 6) (fun _ _ => rfl) ?_
  refine t_call (op := o_callV 10 7 2 1) (fe_X2_bestMove 7) (g_callV hS (by decide) (by decide) rfl rfl rfl (Nat.le_of_ble_eq_true rfl)) ?_
  refine M_mono ?_ (a_become hS0 hX (Or.inl rfl) (by decide) (Or.inl (by decide)) hz hN hN2)
  rintro v h2 ⟨q1, hX2, hF2, hK2⟩
  rw [q1]; clear q1 v
  replace hS := hX2.std hS0
  refine t_go (op := o_aload 11 0) (fe_X2_bestMove 10) (fun _ _ => rfl) ?_
  refine t_go (op := o_aload 12 1) (fe_X2_bestMove 11) (fun _ _ => rfl) ?_
  refine t_go (op := o_ci 13 (-1)) (fe_X2_bestMove 12) (fun _ _ => rfl) ?_
  refine t_call (op := o_callV 16 48 3 2) (fe_X2_bestMove 13) (g_callV hS (by decide) (by decide) rfl rfl rfl (Nat.le_of_ble_eq_true rfl)) ?_
  refine M_mono ?_ (m_trialLasts hS0 hg hL hX2 hF2 hN2)
  rintro v h2 ⟨q1, hX3, hN3⟩
  rw [q1]; clear q1 v
  replace hS := hX3.std hS0
  refine t_go (op := o_istore 18 4) (fe_X2_bestMove 16) (fun _ _ => rfl) ?_
  refine t_go (op := o_ci 19 0) (fe_X2_bestMove 18) (fun _ _ => rfl) ?_
  refine t_go (op := o_istore 21 5) (fe_X2_bestMove 19) (fun _ _ => rfl) ?_
  exact l_move hS0 hg hL hz hN2 84 0 (-1, lastsV h g n (-1) 41 0 (fs h 5)) _ _ _ _ rfl hX3 hN3 (fun k2 x1 x2 => ⟨rfl, x1, x2⟩)
theorem l_poke1 {d : Nat} {h : AHP} {g n : Nat} (hS0 : Std h) (hg : (lay g).1 = 3) (hL : LawOK h g n) {m : Nat} {b y z : Int32} (hm : m ≤ 99)  {Q : Option Value → AHP → Prop} : ∀ (j i : Nat) (S : FS) (k : AHP), i + j = m → X h k → fs k 136 = S → (∀ k2, X h k2 → fs k2 136 = it (fun _ => HF h g n) j i S → TT (d + 5) 40 67 [some (.ref 135), some (.ref g), some (.ref 5), some (.int (nI m)), some (.int b), some (.int y), some (.int z), some (.int (nI m))] [] k2 Q) → TT (d + 5) 40 45 [some (.ref 135), some (.ref g), some (.ref 5), some (.int (nI m)), some (.int b), some (.int y), some (.int z), some (.int (nI i))] [] k Q := by
  intro j
  induction j with
  | zero =>
    intro i S k hi hX hF hq
    have hN : i = m := by omega
    have hS := hX.std hS0
    refine t_go (op := o_iload 47 7) (fe_X2_bestPoke 45) (fun _ _ => rfl) ?_
    refine t_go (op := o_iload 48 3) (fe_X2_bestPoke 47) (fun _ _ => rfl) ?_
    refine t_ite (op := o_icmp 51 67 (fun x y => y ≤ x) (fun _ _ => inferInstance)) (fe_X2_bestPoke 48) g_icmp (fun c1 => ?_) (fun c1 => ?_)
    · rw [hN]
      exact hq k hX hF
    · exact absurd (by rw [hN]; exact Int32.le_refl _) c1
  | succ j ih =>
    intro i S k hi hX hF hq
    have hi2 : i < m := by omega
    have hS := hX.std hS0
    refine t_go (op := o_iload 47 7) (fe_X2_bestPoke 45) (fun _ _ => rfl) ?_
    refine t_go (op := o_iload 48 3) (fe_X2_bestPoke 47) (fun _ _ => rfl) ?_
    refine t_ite (op := o_icmp 51 67 (fun x y => y ≤ x) (fun _ _ => inferInstance)) (fe_X2_bestPoke 48) g_icmp (fun c1 => ?_) (fun c1 => ?_)
    · exact absurd c1 (nI_ge hi2 (by omega))
    · refine t_go (op := o_aload 52 0) (fe_X2_bestPoke 51) (fun _ _ => rfl) ?_
      refine t_go (op := o_getR 55 2 0) (fe_X2_bestPoke 52) (g_getR hS (by decide) (by decide) (fr_2_0 hS) (by decide)) ?_
      refine t_go (op := o_aload 56 1) (fe_X2_bestPoke 55) (fun _ _ => rfl) ?_
      refine t_go (op := o_ci 57 1) (fe_X2_bestPoke 56) (fun _ _ => rfl) ?_
      refine t_call (op := o_callV 60 17 3 1) (fe_X2_bestPoke 57) (g_callV hS (by decide) (by decide) rfl rfl rfl (Nat.le_of_ble_eq_true rfl)) ?_
      refine M_mono ?_ (a_pass hS0 hg hL hX (Or.inl rfl) hF)
      rintro v h2 ⟨q1, hX2, hF2, hK2⟩
      rw [q1]; clear q1 v
      replace hS := hX2.std hS0
      refine t_go (op := o_popI 61) (fe_X2_bestPoke 60) (fun _ _ => rfl) ?_
      refine t_go (op := o_iinc 64 7 1) (fe_X2_bestPoke 61) (fun _ _ => rfl) ?_
      refine t_go (op := o_goto 45) (fe_X2_bestPoke 64) (fun _ _ => rfl) ?_
      rw [nI_1]
      exact ih (i + 1) _ _ (by omega) hX2 hF2 hq
noncomputable def pokeV (h : AHP) (g n m : Nat) (e : Nat) : Int32 := it (sumS (HN h g n m (stokeF (fs h 5) (nI e))).2.1) 7 0 0
noncomputable def pokeS (h : AHP) (g n m : Nat) (e : Nat) (s : Int32 × Int32) : Int32 × Int32 := @ite _ (hasF (fs h 5) (nI e)) (Classical.propDecidable _) (bestS (pokeV h g n m) e s) s
theorem l_poke {d : Nat} {h : AHP} {g n : Nat} (hS0 : Std h) (hg : (lay g).1 = 3) (hL : LawOK h g n) {m : Nat} (hm : m ≤ 99) (hz : h.1 5 5 = 0 ∨ h.1 5 5 = 1) (hN2 : NF (fs h 5))  {Q : Option Value → AHP → Prop} : ∀ (j i : Nat) (S : Int32 × Int32) (k : AHP) (x7 : Option Value), i + j = 7 → X h k → NF (fs k 136) → (∀ k2, X h k2 → NF (fs k2 136) → Q (some (.int (it (pokeS h g n m) j i S).1)) k2) → TT (d + 5) 40 9 [some (.ref 135), some (.ref g), some (.ref 5), some (.int (nI m)), some (.int S.1), some (.int S.2), some (.int (nI i)), x7] [] k Q := by
  intro j
  induction j with
  | zero =>
    intro i S k x7 hi hX hNk hq
    have hN : i = 7 := by omega
    have hS := hX.std hS0
    refine t_go (op := o_iload 11 6) (fe_X2_bestPoke 9) (fun _ _ => rfl) ?_
    refine t_go (op := o_ci 13 7) (fe_X2_bestPoke 11) (fun _ _ => rfl) ?_
    refine t_ite (op := o_icmp 16 97 (fun x y => y ≤ x) (fun _ _ => inferInstance)) (fe_X2_bestPoke 13) g_icmp (fun c1 => ?_) (fun c1 => ?_)
    · refine t_go (op := o_iload 99 4) (fe_X2_bestPoke 97) (fun _ _ => rfl) ?_
      refine t_ret (op := o_iret) (fe_X2_bestPoke 99) (fun _ _ => rfl) ?_
      exact hq k hX hNk
    · exact absurd (by rw [hN]; exact Int32.le_refl _) c1
  | succ j ih =>
    intro i S k x7 hi hX hNk hq
    have hb : inb (nI i) 7 := inb_n (by omega) (by decide)
    have hS := hX.std hS0
    refine t_go (op := o_iload 11 6) (fe_X2_bestPoke 9) (fun _ _ => rfl) ?_
    refine t_go (op := o_ci 13 7) (fe_X2_bestPoke 11) (fun _ _ => rfl) ?_
    refine t_ite (op := o_icmp 16 97 (fun x y => y ≤ x) (fun _ _ => inferInstance)) (fe_X2_bestPoke 13) g_icmp (fun c1 => ?_) (fun c1 => ?_)
    · exact absurd c1 (nI_ge (show i < 7 by omega) (by decide))
    · refine t_go (op := o_aload 17 2) (fe_X2_bestPoke 16) (fun _ _ => rfl) ?_
      refine t_go (op := o_iload 19 6) (fe_X2_bestPoke 17) (fun _ _ => rfl) ?_
      refine t_call (op := o_callV 22 8 2 1) (fe_X2_bestPoke 19) (g_callV hS (by decide) (by decide) rfl rfl rfl (Nat.le_of_ble_eq_true rfl)) ?_
      refine M_mono ?_ (a_has hS (by decide) (X_fs hX (by omega)))
      rintro v h2 ⟨q1, q2⟩
      rw [q1, q2]; clear q1 q2 v h2
      refine t_ite (op := o_if 25 91 (fun x => x = 0) (fun _ => inferInstance)) (fe_X2_bestPoke 22) g_if (fun c2 => ?_) (fun c2 => ?_)
      · refine t_go (op := o_iinc 94 6 1) (fe_X2_bestPoke 91) (fun _ _ => rfl) ?_
        refine t_go (op := o_goto 9) (fe_X2_bestPoke 94) (fun _ _ => rfl) ?_
        have hs : pokeS h g n m i S = S := if_neg (b2i_ne.mp c2)
        have hq2 : ∀ k2, X h k2 → NF (fs k2 136) → Q (some (.int (it (pokeS h g n m) j (i + 1) (pokeS h g n m i S)).1)) k2 := hq
        rw [hs] at hq2
        rw [nI_1]
        exact ih (i + 1) S _ _ (by omega) hX hNk hq2
      · refine t_go (op := o_aload 26 0) (fe_X2_bestPoke 25) (fun _ _ => rfl) ?_
        refine t_go (op := o_getR 29 2 0) (fe_X2_bestPoke 26) (g_getR hS (by decide) (by decide) (fr_2_0 hS) (by decide)) ?_
        refine t_go (op := o_aload 30 2) (fe_X2_bestPoke 29) (fun _ _ => rfl) ?_
        refine t_call (op := o_callV 33 7 2 1) (fe_X2_bestPoke 30) (g_callV hS (by decide) (by decide) rfl rfl rfl (Nat.le_of_ble_eq_true rfl)) ?_
        refine M_mono ?_ (a_become hS0 hX (Or.inl rfl) (by decide) (Or.inl (by decide)) hz hNk hN2)
        rintro v h2 ⟨q1, hX2, hF2, hK2⟩
        rw [q1]; clear q1 v
        replace hS := hX2.std hS0
        refine t_go (op := o_aload 34 0) (fe_X2_bestPoke 33) (fun _ _ => rfl) ?_
        refine t_go (op := o_getR 37 2 0) (fe_X2_bestPoke 34) (g_getR hS (by decide) (by decide) (fr_2_0 hS) (by decide)) ?_
        refine t_go (op := o_iload 39 6) (fe_X2_bestPoke 37) (fun _ _ => rfl) ?_
        refine t_call (op := o_callV 42 15 2 1) (fe_X2_bestPoke 39) (g_callV hS (by decide) (by decide) rfl rfl rfl (Nat.le_of_ble_eq_true rfl)) ?_
        refine M_mono ?_ (a_stoke hS0 hX2 (Or.inl rfl) hF2)
        rintro v h2 ⟨q1, hX4, hF4, hK4⟩
        rw [q1]; clear q1 v
        replace hS := hX4.std hS0
        refine t_go (op := o_ci 43 0) (fe_X2_bestPoke 42) (fun _ _ => rfl) ?_
        refine t_go (op := o_istore 45 7) (fe_X2_bestPoke 43) (fun _ _ => rfl) ?_
        refine l_poke1 hS0 hg hL hm m 0 _ _ (by omega) hX4 hF4 (fun k2 hx1 hx2 => ?_)
        replace hS := hx1.std hS0
        refine t_go (op := o_aload 68 0) (fe_X2_bestPoke 67) (fun _ _ => rfl) ?_
        refine t_go (op := o_getR 71 2 0) (fe_X2_bestPoke 68) (g_getR hS (by decide) (by decide) (fr_2_0 hS) (by decide)) ?_
        refine t_call (op := o_callV 74 21 1 1) (fe_X2_bestPoke 71) (g_callV hS (by decide) (by decide) rfl rfl rfl (Nat.le_of_ble_eq_true rfl)) ?_
        refine M_mono ?_ (a_heatOfAll (hx1.std hS0) (by decide) hx2)
        rintro v h3 ⟨q1, q2⟩
        rw [q1, q2]; clear q1 q2 v h3
        refine t_go (op := o_istore 76 7) (fe_X2_bestPoke 74) (fun _ _ => rfl) ?_
        refine t_go (op := o_iload 78 7) (fe_X2_bestPoke 76) (fun _ _ => rfl) ?_
        refine t_go (op := o_iload 80 5) (fe_X2_bestPoke 78) (fun _ _ => rfl) ?_
        refine t_ite (op := o_icmp 83 91 (fun x y => x ≤ y) (fun _ _ => inferInstance)) (fe_X2_bestPoke 80) g_icmp (fun e1 => ?_) (fun e1 => ?_)
        · refine t_go (op := o_iinc 94 6 1) (fe_X2_bestPoke 91) (fun _ _ => rfl) ?_
          refine t_go (op := o_goto 9) (fe_X2_bestPoke 94) (fun _ _ => rfl) ?_
          have hs : pokeS h g n m i S = S := (if_pos (Classical.not_not.mp (fun q => c2 (b2i_f q)))).trans (if_pos (show pokeV h g n m i ≤ S.2 from e1))
          have hq2 : ∀ k2, X h k2 → NF (fs k2 136) → Q (some (.int (it (pokeS h g n m) j (i + 1) (pokeS h g n m i S)).1)) k2 := hq
          rw [hs] at hq2
          rw [nI_1]
          exact ih (i + 1) S _ _ (by omega) hx1 (by rw [hx2]; exact NF_HN m (NF_stoke hN2)) hq2
        · refine t_go (op := o_iload 85 7) (fe_X2_bestPoke 83) (fun _ _ => rfl) ?_
          refine t_go (op := o_istore 87 5) (fe_X2_bestPoke 85) (fun _ _ => rfl) ?_
          refine t_go (op := o_iload 89 6) (fe_X2_bestPoke 87) (fun _ _ => rfl) ?_
          refine t_go (op := o_istore 91 4) (fe_X2_bestPoke 89) (fun _ _ => rfl) ?_
          refine t_go (op := o_iinc 94 6 1) (fe_X2_bestPoke 91) (fun _ _ => rfl) ?_
          refine t_go (op := o_goto 9) (fe_X2_bestPoke 94) (fun _ _ => rfl) ?_
          have hs : pokeS h g n m i S = (nI i, pokeV h g n m i) := (if_pos (Classical.not_not.mp (fun q => c2 (b2i_f q)))).trans (if_neg (show ¬ pokeV h g n m i ≤ S.2 from e1))
          have hq2 : ∀ k2, X h k2 → NF (fs k2 136) → Q (some (.int (it (pokeS h g n m) j (i + 1) (pokeS h g n m i S)).1)) k2 := hq
          rw [hs] at hq2
          rw [nI_1]
          exact ih (i + 1) (nI i, pokeV h g n m i) _ _ (by omega) hx1 (by rw [hx2]; exact NF_HN m (NF_stoke hN2)) hq2
theorem m_bestPoke {d : Nat} {h k : AHP} {g n : Nat} (hS0 : Std h) (hg : (lay g).1 = 3) (hL : LawOK h g n) (hX : X h k) (hN : NF (fs k 136)) (hz : h.1 5 5 = 0 ∨ h.1 5 5 = 1) (hN2 : NF (fs h 5)) {m : Nat} (hm : m ≤ 99) : MM (d + 5) 40 [.ref 135, .ref g, .ref 5, .int (nI m)] k (fun v h2 => v = some (.int (it (pokeS h g n m) 7 0 (-1, -1)).1) ∧ X h h2 ∧ NF (fs h2 136)) := by
  refine ⟨Nat.le_of_ble_eq_true rfl, ?_⟩
  have hS := hX.std hS0
  refine t_go (op := o_ci 1 (-1)) (fe_X2_bestPoke 0) (fun _ _ => rfl) ?_
  refine t_go (op := o_istore 3 4) (fe_X2_bestPoke 1) (fun _ _ => rfl) ?_
  refine t_go (op := o_ci 4 (-1)) (fe_X2_bestPoke 3) (fun _ _ => rfl) ?_
  refine t_go (op := o_istore 6 5) (fe_X2_bestPoke 4) (fun _ _ => rfl) ?_
  refine t_go (op := o_ci 7 0) (fe_X2_bestPoke 6) (fun _ _ => rfl) ?_
  refine t_go (op := o_istore 9 6) (fe_X2_bestPoke 7) (fun _ _ => rfl) ?_
  exact l_poke hS0 hg hL hm hz hN2 7 0 (-1, -1) k _ rfl hX hN (fun k2 x1 x2 => ⟨rfl, x1, x2⟩)
