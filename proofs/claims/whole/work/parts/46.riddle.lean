/-! ===== which it was ===== -/
noncomputable def Fsus (h : AHP) (s : Nat) : FS := it (fullS (1 <<< (nI s &&& 31))) 7 0 (fs h 5)
def fitP (h : AHP) (g n m s i : Nat) : Prop := hasF (fs h 5) (nI s) ∧ ∀ a, a < i → agrB (h.1 11) (h.1 12) (h.1 13) (nI a) (litH h g n (HN h g n a (Fsus h s))) m
theorem fs_148 {k : AHP} {i f : Nat} {v : Int32} (hf : f = 136 ∨ f = 143) : fs (sI k 148 i v) f = fs k f := by
  have e : ∀ m, m ≠ 148 → (sI k 148 i v).1 m = k.1 m := fun m hm => up2_ne hm
  unfold fs
  rw [e (f + 1) (by omega), e (f + 2) (by omega), e (f + 3) (by omega), e (f + 4) (by omega), e f (by omega)]
theorem row_148 {k : AHP} {i : Nat} {v : Int32} : (sI k 148 i v).1 148 = fup (k.1 148) i v := by funext j; simp [sI, up2, fup]
theorem l_sus1 {d : Nat} {h : AHP} {g n : Nat} (hS0 : Std h) (hg : (lay g).1 = 3) (hL : LawOK h g n) {m s q : Nat} {acc : Int32} {R : Nat → Int32} (hm : m ≤ 6) (hl : h.1 10 3 = nI m) (hs7 : s < 7) (hq12 : q ≤ 12) (hNF : NF (Fsus h s))  {Q : Option Value → AHP → Prop} : ∀ (j i : Nat) (S : Unit) (k : AHP) (x9 : Option Value), i + j = 13 → X h k → fs k 143 = HN h g n i (Fsus h s) → (q < i → k.1 148 s = litH h g n (HN h g n q (Fsus h s))) → (∀ t, t ≠ s → k.1 148 t = R t) → (∀ (k2 : AHP) (y8 : Int32) (x9 : Option Value), X h k2 → NF (fs k2 143) → (fitP h g n m s 13 → k2.1 148 s = litH h g n (HN h g n q (Fsus h s))) → (∀ t, t ≠ s → k2.1 148 t = R t) → TT (d + 5) 92 107 [some (.ref 142), some (.ref g), some (.ref 5), some (.ref 10), some (.int (nI q)), some (.int acc), some (.int (nI s)), some (.int (b2i (fitP h g n m s 13))), some (.int y8), x9] [] k2 Q) → TT (d + 5) 92 43 [some (.ref 142), some (.ref g), some (.ref 5), some (.ref 10), some (.int (nI q)), some (.int acc), some (.int (nI s)), some (.int (b2i (fitP h g n m s i))), some (.int (nI i)), x9] [] k Q := by
  intro j
  induction j with
  | zero =>
    intro i S k x9 hi hX hF hW hR hq
    have hN : i = 13 := by omega
    have hS := hX.std hS0
    refine t_go (op := o_iload 45 8) (fe_X8_suspectsSeen 43) (fun _ _ => rfl) ?_
    refine t_go (op := o_ci 47 12) (fe_X8_suspectsSeen 45) (fun _ _ => rfl) ?_
    refine t_ite (op := o_icmp 50 107 (fun x y => y < x) (fun _ _ => inferInstance)) (fe_X8_suspectsSeen 47) g_icmp (fun c1 => ?_) (fun c1 => ?_)
    · subst hN
      exact hq k _ _ hX (by rw [hF]; exact NF_HN 13 hNF) (fun _ => hW (by omega)) hR
    · exact absurd (by rw [hN]; decide) c1
  | succ j ih =>
    intro i S k x9 hi hX hF hW hR hq
    have hi2 : i < 13 := by omega
    have hS := hX.std hS0
    refine t_go (op := o_iload 45 8) (fe_X8_suspectsSeen 43) (fun _ _ => rfl) ?_
    refine t_go (op := o_ci 47 12) (fe_X8_suspectsSeen 45) (fun _ _ => rfl) ?_
    refine t_ite (op := o_icmp 50 107 (fun x y => y < x) (fun _ _ => inferInstance)) (fe_X8_suspectsSeen 47) g_icmp (fun c1 => ?_) (fun c1 => ?_)
    · exact absurd c1 (nI_nlt (show i ≤ 12 by omega) (by decide))
    · refine t_go (op := o_iload 52 7) (fe_X8_suspectsSeen 50) (fun _ _ => rfl) ?_
      refine t_ite (op := o_if 55 107 (fun x => x = 0) (fun _ => inferInstance)) (fe_X8_suspectsSeen 52) g_if (fun c2 => ?_) (fun c2 => ?_)
      · have hno : ¬ fitP h g n m s i := b2i_ne.mp c2
        have hno2 : ¬ fitP h g n m s 13 := fun z => hno ⟨z.1, fun a ha => z.2 a (by omega)⟩
        have e : b2i (fitP h g n m s i) = b2i (fitP h g n m s 13) := by rw [b2i_f hno, b2i_f hno2]
        rw [e]
        exact hq k _ _ hX (by rw [hF]; exact NF_HN i hNF) (fun z => absurd z hno2) hR
      · refine t_go (op := o_aload 56 0) (fe_X8_suspectsSeen 55) (fun _ _ => rfl) ?_
        refine t_go (op := o_getR 59 7 0) (fe_X8_suspectsSeen 56) (g_getR hS (by decide) (by decide) (fr_7_0 hS) (by decide)) ?_
        refine t_go (op := o_aload 60 1) (fe_X8_suspectsSeen 59) (fun _ _ => rfl) ?_
        refine t_call (op := o_callV 63 18 2 1) (fe_X8_suspectsSeen 60) (g_callV hS (by decide) (by decide) rfl rfl rfl (Nat.le_of_ble_eq_true rfl)) ?_
        refine M_mono ?_ (a_litBits hS0 hg hX (by decide) hF)
        rintro v h2 ⟨q1, q2⟩
        rw [q1, q2]; clear q1 q2 v h2
        refine t_go (op := o_istore 65 9) (fe_X8_suspectsSeen 63) (fun _ _ => rfl) ?_
        refine t_go (op := o_iload 67 8) (fe_X8_suspectsSeen 65) (fun _ _ => rfl) ?_
        refine t_go (op := o_iload 69 4) (fe_X8_suspectsSeen 67) (fun _ _ => rfl) ?_
        refine t_ite (op := o_icmp 81 72 (fun x y => x = y) (fun _ _ => inferInstance)) (fe_X8_suspectsSeen 69) g_icmp (fun c3 => ?_) (fun c3 => ?_)
        · have hX1 := X_sI (a := 148) (i := (nI s).toNatClampNeg) (v := litB (HN h g n i (Fsus h s)) (h.1 (g + 2)) (h.1 g 5)) hX (Or.inr (Or.inl ⟨by decide, by decide⟩))
          have hF1 := (fs_148 (k := k) (i := (nI s).toNatClampNeg) (v := litB (HN h g n i (Fsus h s)) (h.1 (g + 2)) (h.1 g 5)) (Or.inr rfl : (143 : Nat) = 136 ∨ (143 : Nat) = 143)).trans hF
          refine t_go (op := o_aload 73 0) (fe_X8_suspectsSeen 72) (fun _ _ => rfl) ?_
          refine t_go (op := o_getR 76 7 1) (fe_X8_suspectsSeen 73) (g_getR hS (by decide) (by decide) (fr_7_1 hS) (by decide)) ?_
          refine t_go (op := o_iload 78 6) (fe_X8_suspectsSeen 76) (fun _ _ => rfl) ?_
          refine t_go (op := o_iload 80 9) (fe_X8_suspectsSeen 78) (fun _ _ => rfl) ?_
          refine t_go (op := o_iast 81) (fe_X8_suspectsSeen 80) (g_iast hS (show lay 148 = (20, 7) by decide) (inb_n (show s < 7 by omega) (by decide))) ?_
          refine t_go (op := o_aload 82 3) (fe_X8_suspectsSeen 81) (fun _ _ => rfl) ?_
          refine t_go (op := o_iload 84 8) (fe_X8_suspectsSeen 82) (fun _ _ => rfl) ?_
          refine t_go (op := o_iload 86 9) (fe_X8_suspectsSeen 84) (fun _ _ => rfl) ?_
          refine t_call (op := o_callV 89 107 3 9) (fe_X8_suspectsSeen 86) (g_callV hS (show (lay 10).1 = 9 by decide) (by decide) rfl rfl rfl (Nat.le_of_ble_eq_true rfl)) ?_
          refine M_mono ?_ (m_agrees (t := 10) (m := m) hS (by decide) hm (by rw [hX1.2.2 10 (by omega)]; exact hl))
          rintro v h3 ⟨q1, q2⟩
          rw [q1, q2, hX1.2.2 (10 + 1) (by omega), hX1.2.2 (10 + 2) (by omega), hX1.2.2 (10 + 3) (by omega)]; clear q1 q2 v h3
          refine t_go (op := o_istore 91 7) (fe_X8_suspectsSeen 89) (fun _ _ => rfl) ?_
          refine t_go (op := o_aload 92 0) (fe_X8_suspectsSeen 91) (fun _ _ => rfl) ?_
          refine t_go (op := o_getR 95 7 0) (fe_X8_suspectsSeen 92) (g_getR hS (by decide) (by decide) (fr_7_0 hS) (by decide)) ?_
          refine t_go (op := o_aload 96 1) (fe_X8_suspectsSeen 95) (fun _ _ => rfl) ?_
          refine t_go (op := o_ci 97 1) (fe_X8_suspectsSeen 96) (fun _ _ => rfl) ?_
          refine t_call (op := o_callV 100 17 3 1) (fe_X8_suspectsSeen 97) (g_callV hS (by decide) (by decide) rfl rfl rfl (Nat.le_of_ble_eq_true rfl)) ?_
          refine M_mono ?_ (a_pass hS0 hg hL hX1 (Or.inr rfl) hF1)
          rintro v h2 ⟨q1, hX2, hF2, hK2⟩
          rw [q1]; clear q1 v
          replace hS := hX2.std hS0
          refine t_go (op := o_popI 101) (fe_X8_suspectsSeen 100) (fun _ _ => rfl) ?_
          refine t_go (op := o_iinc 104 8 1) (fe_X8_suspectsSeen 101) (fun _ _ => rfl) ?_
          refine t_go (op := o_goto 43) (fe_X8_suspectsSeen 104) (fun _ _ => rfl) ?_
          have hfit : b2i (agrB (h.1 11) (h.1 12) (h.1 13) (nI i) (litB (HN h g n i (Fsus h s)) (h.1 (g + 2)) (h.1 g 5)) m) = b2i (fitP h g n m s (i + 1)) := by
            have hp : fitP h g n m s i := Classical.not_not.mp (fun q => c2 (b2i_f q))
            by_cases qa : agrB (h.1 11) (h.1 12) (h.1 13) (nI i) (litB (HN h g n i (Fsus h s)) (h.1 (g + 2)) (h.1 g 5)) m
            · rw [b2i_t qa, b2i_t (show fitP h g n m s (i + 1) from ⟨hp.1, fun a ha => by
                rcases Nat.lt_or_ge a i with z | z
                · exact hp.2 a z
                · have e : a = i := by omega
                  subst e
                  exact qa⟩)]
            · rw [b2i_f qa, b2i_f (fun z => qa (z.2 i (by omega)))]
          rw [hfit]
          rw [nI_1]
          exact ih (i + 1) () _ _ (by omega) hX2 (by rw [hF2, HN_succ]; rfl) (fun hq2 => by rw [hK2.2.1, row_148, fup, if_pos (by rw [nI_clamp (by omega)]), show q = i from (nI_eq (by omega) (by omega)).mp c3.symm]; rfl) (fun t ht => by rw [hK2.2.1, row_148, fup, if_neg (by rw [nI_clamp (by omega)]; exact ht)]; exact hR t ht) hq
        · refine t_go (op := o_aload 82 3) (fe_X8_suspectsSeen 81) (fun _ _ => rfl) ?_
          refine t_go (op := o_iload 84 8) (fe_X8_suspectsSeen 82) (fun _ _ => rfl) ?_
          refine t_go (op := o_iload 86 9) (fe_X8_suspectsSeen 84) (fun _ _ => rfl) ?_
          refine t_call (op := o_callV 89 107 3 9) (fe_X8_suspectsSeen 86) (g_callV hS (show (lay 10).1 = 9 by decide) (by decide) rfl rfl rfl (Nat.le_of_ble_eq_true rfl)) ?_
          refine M_mono ?_ (m_agrees (t := 10) (m := m) hS (by decide) hm (by rw [hX.2.2 10 (by omega)]; exact hl))
          rintro v h3 ⟨q1, q2⟩
          rw [q1, q2, hX.2.2 (10 + 1) (by omega), hX.2.2 (10 + 2) (by omega), hX.2.2 (10 + 3) (by omega)]; clear q1 q2 v h3
          refine t_go (op := o_istore 91 7) (fe_X8_suspectsSeen 89) (fun _ _ => rfl) ?_
          refine t_go (op := o_aload 92 0) (fe_X8_suspectsSeen 91) (fun _ _ => rfl) ?_
          refine t_go (op := o_getR 95 7 0) (fe_X8_suspectsSeen 92) (g_getR hS (by decide) (by decide) (fr_7_0 hS) (by decide)) ?_
          refine t_go (op := o_aload 96 1) (fe_X8_suspectsSeen 95) (fun _ _ => rfl) ?_
          refine t_go (op := o_ci 97 1) (fe_X8_suspectsSeen 96) (fun _ _ => rfl) ?_
          refine t_call (op := o_callV 100 17 3 1) (fe_X8_suspectsSeen 97) (g_callV hS (by decide) (by decide) rfl rfl rfl (Nat.le_of_ble_eq_true rfl)) ?_
          refine M_mono ?_ (a_pass hS0 hg hL hX (Or.inr rfl) hF)
          rintro v h2 ⟨q1, hX2, hF2, hK2⟩
          rw [q1]; clear q1 v
          replace hS := hX2.std hS0
          refine t_go (op := o_popI 101) (fe_X8_suspectsSeen 100) (fun _ _ => rfl) ?_
          refine t_go (op := o_iinc 104 8 1) (fe_X8_suspectsSeen 101) (fun _ _ => rfl) ?_
          refine t_go (op := o_goto 43) (fe_X8_suspectsSeen 104) (fun _ _ => rfl) ?_
          have hfit : b2i (agrB (h.1 11) (h.1 12) (h.1 13) (nI i) (litB (HN h g n i (Fsus h s)) (h.1 (g + 2)) (h.1 g 5)) m) = b2i (fitP h g n m s (i + 1)) := by
            have hp : fitP h g n m s i := Classical.not_not.mp (fun q => c2 (b2i_f q))
            by_cases qa : agrB (h.1 11) (h.1 12) (h.1 13) (nI i) (litB (HN h g n i (Fsus h s)) (h.1 (g + 2)) (h.1 g 5)) m
            · rw [b2i_t qa, b2i_t (show fitP h g n m s (i + 1) from ⟨hp.1, fun a ha => by
                rcases Nat.lt_or_ge a i with z | z
                · exact hp.2 a z
                · have e : a = i := by omega
                  subst e
                  exact qa⟩)]
            · rw [b2i_f qa, b2i_f (fun z => qa (z.2 i (by omega)))]
          rw [hfit]
          rw [nI_1]
          exact ih (i + 1) () _ _ (by omega) hX2 (by rw [hF2, HN_succ]; rfl) (fun hq2 => by rw [hK2.2.1]; exact hW (by have : i ≠ q := fun e => c3 (by rw [e]); omega)) (fun t ht => by rw [hK2.2.1]; exact hR t ht) hq
noncomputable def susS (h : AHP) (g n m : Nat) (s : Nat) (a : Int32) : Int32 := @ite _ (fitP h g n m s 13) (Classical.propDecidable _) (a ||| (1 <<< (nI s &&& 31))) a
theorem l_sus2 {d : Nat} {h : AHP} {g n : Nat} (hS0 : Std h) (hg : (lay g).1 = 3) (hL : LawOK h g n) (hz : h.1 5 5 = 0 ∨ h.1 5 5 = 1) (hN2 : NF (fs h 5)) {m q : Nat} (hm : m ≤ 6) (hl : h.1 10 3 = nI m) (hq12 : q ≤ 12)  {Q : Option Value → AHP → Prop} : ∀ (j i : Nat) (S : Int32) (k : AHP) (x7 x8 x9 : Option Value), i + j = 7 → X h k → NF (fs k 143) → (∀ t, t < i → fitP h g n m t 13 → k.1 148 t = litH h g n (HN h g n q (Fsus h t))) → (∀ k2, X h k2 → NF (fs k2 143) → (∀ t, t < 7 → fitP h g n m t 13 → k2.1 148 t = litH h g n (HN h g n q (Fsus h t))) → Q (some (.int (it (susS h g n m) j i S))) k2) → TT (d + 5) 92 6 [some (.ref 142), some (.ref g), some (.ref 5), some (.ref 10), some (.int (nI q)), some (.int S), some (.int (nI i)), x7, x8, x9] [] k Q := by
  intro j
  induction j with
  | zero =>
    intro i S k x7 x8 x9 hi hX hNk hW hq
    have hN : i = 7 := by omega
    have hS := hX.std hS0
    refine t_go (op := o_iload 8 6) (fe_X8_suspectsSeen 6) (fun _ _ => rfl) ?_
    refine t_go (op := o_ci 10 7) (fe_X8_suspectsSeen 8) (fun _ _ => rfl) ?_
    refine t_ite (op := o_icmp 13 127 (fun x y => y ≤ x) (fun _ _ => inferInstance)) (fe_X8_suspectsSeen 10) g_icmp (fun c1 => ?_) (fun c1 => ?_)
    · refine t_go (op := o_iload 129 5) (fe_X8_suspectsSeen 127) (fun _ _ => rfl) ?_
      refine t_ret (op := o_iret) (fe_X8_suspectsSeen 129) (fun _ _ => rfl) ?_
      exact hq k hX hNk (fun t ht => hW t (by omega))
    · exact absurd (by rw [hN]; exact Int32.le_refl _) c1
  | succ j ih =>
    intro i S k x7 x8 x9 hi hX hNk hW hq
    have hi2 : i < 7 := by omega
    have hS := hX.std hS0
    refine t_go (op := o_iload 8 6) (fe_X8_suspectsSeen 6) (fun _ _ => rfl) ?_
    refine t_go (op := o_ci 10 7) (fe_X8_suspectsSeen 8) (fun _ _ => rfl) ?_
    refine t_ite (op := o_icmp 13 127 (fun x y => y ≤ x) (fun _ _ => inferInstance)) (fe_X8_suspectsSeen 10) g_icmp (fun c1 => ?_) (fun c1 => ?_)
    · exact absurd c1 (nI_ge (show i < 7 by omega) (by decide))
    · refine t_go (op := o_aload 14 2) (fe_X8_suspectsSeen 13) (fun _ _ => rfl) ?_
      refine t_go (op := o_iload 16 6) (fe_X8_suspectsSeen 14) (fun _ _ => rfl) ?_
      refine t_call (op := o_callV 19 8 2 1) (fe_X8_suspectsSeen 16) (g_callV hS (by decide) (by decide) rfl rfl rfl (Nat.le_of_ble_eq_true rfl)) ?_
      refine M_mono ?_ (a_has hS (by decide) (X_fs hX (by omega)))
      rintro v h2 ⟨q1, q2⟩
      rw [q1, q2]; clear q1 q2 v h2
      refine t_go (op := o_istore 21 7) (fe_X8_suspectsSeen 19) (fun _ _ => rfl) ?_
      refine t_go (op := o_aload 22 0) (fe_X8_suspectsSeen 21) (fun _ _ => rfl) ?_
      refine t_go (op := o_getR 25 7 0) (fe_X8_suspectsSeen 22) (g_getR hS (by decide) (by decide) (fr_7_0 hS) (by decide)) ?_
      refine t_go (op := o_aload 26 2) (fe_X8_suspectsSeen 25) (fun _ _ => rfl) ?_
      refine t_call (op := o_callV 29 7 2 1) (fe_X8_suspectsSeen 26) (g_callV hS (by decide) (by decide) rfl rfl rfl (Nat.le_of_ble_eq_true rfl)) ?_
      refine M_mono ?_ (a_become hS0 hX (Or.inr rfl) (by decide) (Or.inl (by decide)) hz hNk hN2)
      rintro v h2 ⟨q1, hX2, hF2, hK2⟩
      rw [q1]; clear q1 v
      replace hS := hX2.std hS0
      refine t_go (op := o_aload 30 0) (fe_X8_suspectsSeen 29) (fun _ _ => rfl) ?_
      refine t_go (op := o_getR 33 7 0) (fe_X8_suspectsSeen 30) (g_getR hS (by decide) (by decide) (fr_7_0 hS) (by decide)) ?_
      refine t_go (op := o_ci 34 1) (fe_X8_suspectsSeen 33) (fun _ _ => rfl) ?_
      refine t_go (op := o_iload 36 6) (fe_X8_suspectsSeen 34) (fun _ _ => rfl) ?_
      refine t_go (op := o_i2 37 (fun x y => x <<< (y &&& 31))) (fe_X8_suspectsSeen 36) (fun _ _ => rfl) ?_
      refine t_call (op := o_callV 40 13 2 1) (fe_X8_suspectsSeen 37) (g_callV hS (by decide) (by decide) rfl rfl rfl (Nat.le_of_ble_eq_true rfl)) ?_
      refine M_mono ?_ (a_giveFullHeat hS0 hX2 (Or.inr rfl) hF2)
      rintro v h2 ⟨q1, hX4, hF4, hK4⟩
      rw [q1]; clear q1 v
      replace hS := hX4.std hS0
      refine t_go (op := o_ci 41 0) (fe_X8_suspectsSeen 40) (fun _ _ => rfl) ?_
      refine t_go (op := o_istore 43 8) (fe_X8_suspectsSeen 41) (fun _ _ => rfl) ?_
      have hfit0 : b2i (hasF (fs h 5) (nI i)) = b2i (fitP h g n m i 0) := by
        by_cases z : hasF (fs h 5) (nI i)
        · rw [b2i_t z, b2i_t (show fitP h g n m i 0 from ⟨z, fun a ha => absurd ha (Nat.not_lt_zero a)⟩)]
        · rw [b2i_f z, b2i_f (fun y => z y.1)]
      rw [hfit0]
      refine l_sus1 hS0 hg hL hm hl (show i < 7 by omega) hq12 (NF_full hN2) 13 0 () _ _ rfl hX4 hF4 (fun z => absurd z (Nat.not_lt_zero _)) (R := k.1 148) (fun t ht => by rw [hK4.2.1, hK2.2.1]) (fun k2 y8 z9 x1 x2 x3 x4 => ?_)
      replace hS := x1.std hS0
      refine t_go (op := o_iload 109 7) (fe_X8_suspectsSeen 107) (fun _ _ => rfl) ?_
      refine t_ite (op := o_if 112 121 (fun x => x = 0) (fun _ => inferInstance)) (fe_X8_suspectsSeen 109) g_if (fun e1 => ?_) (fun e1 => ?_)
      · refine t_go (op := o_iinc 124 6 1) (fe_X8_suspectsSeen 121) (fun _ _ => rfl) ?_
        refine t_go (op := o_goto 6) (fe_X8_suspectsSeen 124) (fun _ _ => rfl) ?_
        have hs : susS h g n m i S = _ := if_neg (b2i_ne.mp e1)
        rw [it_step, hs] at hq
        rw [nI_1]
        exact ih (i + 1) _ _ _ _ _ (by omega) x1 x2 (fun t ht hf => by
          rcases Nat.lt_or_ge t i with z | z
          · rw [x4 t (by omega)]; exact hW t z (by exact hf)
          · have e : t = i := by omega
            subst e
            exact x3 hf) hq
      · refine t_go (op := o_iload 114 5) (fe_X8_suspectsSeen 112) (fun _ _ => rfl) ?_
        refine t_go (op := o_ci 115 1) (fe_X8_suspectsSeen 114) (fun _ _ => rfl) ?_
        refine t_go (op := o_iload 117 6) (fe_X8_suspectsSeen 115) (fun _ _ => rfl) ?_
        refine t_go (op := o_i2 118 (fun x y => x <<< (y &&& 31))) (fe_X8_suspectsSeen 117) (fun _ _ => rfl) ?_
        refine t_go (op := o_i2 119 (fun x y => x ||| y)) (fe_X8_suspectsSeen 118) (fun _ _ => rfl) ?_
        refine t_go (op := o_istore 121 5) (fe_X8_suspectsSeen 119) (fun _ _ => rfl) ?_
        refine t_go (op := o_iinc 124 6 1) (fe_X8_suspectsSeen 121) (fun _ _ => rfl) ?_
        refine t_go (op := o_goto 6) (fe_X8_suspectsSeen 124) (fun _ _ => rfl) ?_
        have hs : susS h g n m i S = _ := if_pos (Classical.not_not.mp (fun q => e1 (b2i_f q)))
        rw [it_step, hs] at hq
        rw [nI_1]
        exact ih (i + 1) _ _ _ _ _ (by omega) x1 x2 (fun t ht hf => by
          rcases Nat.lt_or_ge t i with z | z
          · rw [x4 t (by omega)]; exact hW t z (by exact hf)
          · have e : t = i := by omega
            subst e
            exact x3 hf) hq
theorem m_suspectsSeen {d : Nat} {h k : AHP} {g n : Nat} (hS0 : Std h) (hg : (lay g).1 = 3) (hL : LawOK h g n) (hX : X h k) (hN : NF (fs k 143)) (hz : h.1 5 5 = 0 ∨ h.1 5 5 = 1) (hN2 : NF (fs h 5)) {m q : Nat} (hm : m ≤ 6) (hl : h.1 10 3 = nI m) (hq12 : q ≤ 12) : MM (d + 5) 92 [.ref 142, .ref g, .ref 5, .ref 10, .int (nI q)] k (fun v h2 => v = some (.int (it (susS h g n m) 7 0 0)) ∧ X h h2 ∧ NF (fs h2 143) ∧ ∀ t, t < 7 → fitP h g n m t 13 → h2.1 148 t = litH h g n (HN h g n q (Fsus h t))) := by
  refine ⟨Nat.le_of_ble_eq_true rfl, ?_⟩
  have hS := hX.std hS0
  refine t_go (op := o_ci 1 0) (fe_X8_suspectsSeen 0) (fun _ _ => rfl) ?_
  refine t_go (op := o_istore 3 5) (fe_X8_suspectsSeen 1) (fun _ _ => rfl) ?_
  refine t_go (op := o_ci 4 0) (fe_X8_suspectsSeen 3) (fun _ _ => rfl) ?_
  refine t_go (op := o_istore 6 6) (fe_X8_suspectsSeen 4) (fun _ _ => rfl) ?_
  exact l_sus2 hS0 hg hL hz hN2 hm hl hq12 7 0 0 k _ _ _ rfl hX hN (fun t ht => absurd ht (Nat.not_lt_zero t)) (fun k2 x1 x2 x3 => ⟨rfl, x1, x2, x3⟩)
