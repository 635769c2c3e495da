/-! ===== riddles ===== -/
noncomputable def glowS (h : AHP) (g n : Nat) (_ : Nat) (s : Int32 × FS) : Int32 × FS := (s.1 ||| litH h g n (HF h g n s.2), HF h g n s.2)
noncomputable def glowV (h : AHP) (g n : Nat) (F : FS) : Int32 := (it (glowS h g n) 12 0 (litH h g n F, F)).1
noncomputable def ser (P : Nat → Prop) : Nat → Nat → Option Nat
  | 0, _ => none
  | j + 1, i => @ite _ (P i) (Classical.propDecidable _) (some i) (ser P j (i + 1))
noncomputable def ser2 (P : Nat → Nat → Prop) (N : Nat) : Nat → Nat → Option Nat
  | 0, _ => none
  | j + 1, i => match ser (P i) N 0 with
    | some t => some t
    | none => ser2 P N j (i + 1)
def serV (x : Option Nat) : Int32 := match x with | some t => nI t | none => -1
theorem l_glows {d : Nat} {h : AHP} {g n : Nat} (hS0 : Std h) (hg : (lay g).1 = 3) (hL : LawOK h g n)  {Q : Option Value → AHP → Prop} : ∀ (j i : Nat) (S : Int32 × FS) (k : AHP), i + j = 12 → X h k → fs k 143 = S.2 → NF S.2 → (∀ k2, X h k2 → NF (fs k2 143) → Q (some (.int (it (glowS h g n) j i S).1)) k2) → TT (d + 5) 91 11 [some (.ref 142), some (.ref g), some (.int S.1), some (.int (nI i))] [] k Q := by
  intro j
  induction j with
  | zero =>
    intro i S k hi hX hF hNS hq
    have hN : i = 12 := by omega
    have hS := hX.std hS0
    refine t_go (op := o_iload 12 3) (fe_X8_trialGlows 11) (fun _ _ => rfl) ?_
    refine t_go (op := o_ci 14 12) (fe_X8_trialGlows 12) (fun _ _ => rfl) ?_
    refine t_ite (op := o_icmp 17 44 (fun x y => y ≤ x) (fun _ _ => inferInstance)) (fe_X8_trialGlows 14) g_icmp (fun c1 => ?_) (fun c1 => ?_)
    · refine t_go (op := o_iload 45 2) (fe_X8_trialGlows 44) (fun _ _ => rfl) ?_
      refine t_ret (op := o_iret) (fe_X8_trialGlows 45) (fun _ _ => rfl) ?_
      exact hq k hX (by rw [hF]; exact hNS)
    · exact absurd (by rw [hN]; exact Int32.le_refl _) c1
  | succ j ih =>
    intro i S k hi hX hF hNS hq
    have hi2 : i < 12 := by omega
    have hS := hX.std hS0
    refine t_go (op := o_iload 12 3) (fe_X8_trialGlows 11) (fun _ _ => rfl) ?_
    refine t_go (op := o_ci 14 12) (fe_X8_trialGlows 12) (fun _ _ => rfl) ?_
    refine t_ite (op := o_icmp 17 44 (fun x y => y ≤ x) (fun _ _ => inferInstance)) (fe_X8_trialGlows 14) g_icmp (fun c1 => ?_) (fun c1 => ?_)
    · exact absurd c1 (nI_ge (show i < 12 by omega) (by decide))
    · refine t_go (op := o_aload 18 0) (fe_X8_trialGlows 17) (fun _ _ => rfl) ?_
      refine t_go (op := o_getR 21 7 0) (fe_X8_trialGlows 18) (g_getR hS (by decide) (by decide) (fr_7_0 hS) (by decide)) ?_
      refine t_go (op := o_aload 22 1) (fe_X8_trialGlows 21) (fun _ _ => rfl) ?_
      refine t_go (op := o_ci 23 1) (fe_X8_trialGlows 22) (fun _ _ => rfl) ?_
      refine t_call (op := o_callV 26 17 3 1) (fe_X8_trialGlows 23) (g_callV hS (by decide) (by decide) rfl rfl rfl (Nat.le_of_ble_eq_true rfl)) ?_
      refine M_mono ?_ (a_pass hS0 hg hL hX (Or.inr rfl) hF)
      rintro v h2 ⟨q1, hX2, hF2, hK2⟩
      rw [q1]; clear q1 v
      replace hS := hX2.std hS0
      refine t_go (op := o_popI 27) (fe_X8_trialGlows 26) (fun _ _ => rfl) ?_
      refine t_go (op := o_iload 28 2) (fe_X8_trialGlows 27) (fun _ _ => rfl) ?_
      refine t_go (op := o_aload 29 0) (fe_X8_trialGlows 28) (fun _ _ => rfl) ?_
      refine t_go (op := o_getR 32 7 0) (fe_X8_trialGlows 29) (g_getR hS (by decide) (by decide) (fr_7_0 hS) (by decide)) ?_
      refine t_go (op := o_aload 33 1) (fe_X8_trialGlows 32) (fun _ _ => rfl) ?_
      refine t_call (op := o_callV 36 18 2 1) (fe_X8_trialGlows 33) (g_callV hS (by decide) (by decide) rfl rfl rfl (Nat.le_of_ble_eq_true rfl)) ?_
      refine M_mono ?_ (a_litBits hS0 hg hX2 (by decide) hF2)
      rintro v h3 ⟨q1, q2⟩
      rw [q1, q2]; clear q1 q2 v h3
      refine t_go (op := o_i2 37 (fun x y => x ||| y)) (fe_X8_trialGlows 36) (fun _ _ => rfl) ?_
      refine t_go (op := o_istore 38 2) (fe_X8_trialGlows 37) (fun _ _ => rfl) ?_
      refine t_go (op := o_iinc 41 3 1) (fe_X8_trialGlows 38) (fun _ _ => rfl) ?_
      refine t_go (op := o_goto 11) (fe_X8_trialGlows 41) (fun _ _ => rfl) ?_
      rw [it_step] at hq
      rw [nI_1]
      exact ih (i + 1) (glowS h g n i S) _ (by omega) hX2 hF2 (NF_HF hNS) hq
theorem m_trialGlows {d : Nat} {h k : AHP} {g n : Nat} (hS0 : Std h) (hg : (lay g).1 = 3) (hL : LawOK h g n) {F : FS} (hX : X h k) (hF : fs k 143 = F) (hN : NF F) : MM (d + 5) 91 [.ref 142, .ref g] k (fun v h2 => v = some (.int (glowV h g n F)) ∧ X h h2 ∧ NF (fs h2 143)) := by
  refine ⟨Nat.le_of_ble_eq_true rfl, ?_⟩
  have hS := hX.std hS0
  refine t_go (op := o_aload 1 0) (fe_X8_trialGlows 0) (fun _ _ => rfl) ?_
  refine t_go (op := o_getR 4 7 0) (fe_X8_trialGlows 1) (g_getR hS (by decide) (by decide) (fr_7_0 hS) (by decide)) ?_
  refine t_go (op := o_aload 5 1) (fe_X8_trialGlows 4) (fun _ _ => rfl) ?_
  refine t_call (op := o_callV 8 18 2 1) (fe_X8_trialGlows 5) (g_callV hS (by decide) (by decide) rfl rfl rfl (Nat.le_of_ble_eq_true rfl)) ?_
  refine M_mono ?_ (a_litBits hS0 hg hX (by decide) hF)
  rintro v h2 ⟨q1, q2⟩
  rw [q1, q2]; clear q1 q2 v h2
  refine t_go (op := o_istore 9 2) (fe_X8_trialGlows 8) (fun _ _ => rfl) ?_
  refine t_go (op := o_ci 10 0) (fe_X8_trialGlows 9) (fun _ _ => rfl) ?_
  refine t_go (op := o_istore 11 3) (fe_X8_trialGlows 10) (fun _ _ => rfl) ?_
  exact l_glows hS0 hg hL 12 0 (litH h g n F, F) k rfl hX hF hN (fun k2 x1 x2 => ⟨rfl, x1, x2⟩)
noncomputable def burnB (F : FS) (k : Nat → Int32) (e : Nat) (s : Int32) : Int32 := @ite _ (hasF F (nI e) ∧ ¬ k (nI e).toNatClampNeg = 3) (Classical.propDecidable _) (s ||| (1 <<< (nI e &&& 31))) s
def litP (h : AHP) (g n : Nat) (b : Int32) (z i : Nat) : Prop := nI i &&& (b ^^^ -1) = 0 ∧ bcI (nI i) = nI z ∧ glowV h g n (it (fullS (nI i)) 7 0 (fs h 5)) = b
def takeP (h : AHP) (g n : Nat) (b e : Int32) (z i : Nat) : Prop := nI i &&& (b ^^^ -1) = 0 ∧ bcI (nI i) = nI z ∧ (glowV h g n (it (takeS (nI i)) 7 0 (fs h 5)) >>> (e &&& 31)) &&& 1 = 0
theorem NF_full {b : Int32} {F : FS} (hN : NF F) : NF (it (fullS b) 7 0 F) := by
  refine it_inv7 (n := 7) (P := NF) (fun i s hi hs => ?_) 7 0 F (by omega) hN
  unfold fullS
  by_cases hp : bitI b (nI i) ∧ hasF s (nI i)
  · rw [if_pos hp]; exact NF_2 hs (by rw [nI_clamp (by omega)]; exact hi)
  · rw [if_neg hp]; exact hs
theorem NF_taken {b : Int32} {F : FS} (hN : NF F) : NF (it (takeS b) 7 0 F) := by
  refine it_inv (P := NF) (fun i s hs => ?_) 7 0 F hN
  unfold takeS
  by_cases hp : bitI b (nI i)
  · rw [if_pos hp]; exact NF_take hs
  · rw [if_neg hp]; exact hs
theorem l_flit1 {d : Nat} {h k : AHP} {g : Nat} {x5 : Option Value} (hS : Std k) (hg : (lay g).1 = 3) (hX : X h k)  {Q : Option Value → AHP → Prop} : ∀ (j i : Nat) (S : Int32), i + j = 7 → TT (d + 6) 86 45 [some (.ref 142), some (.ref g), some (.ref 5), some (.int (it (burnB (fs h 5) (h.1 (g + 2))) j i S)), some (.int (nI 7)), x5] [] k Q → TT (d + 6) 86 5 [some (.ref 142), some (.ref g), some (.ref 5), some (.int S), some (.int (nI i)), x5] [] k Q := by
  intro j
  induction j with
  | zero =>
    intro i S hi  hq
    have hN : i = 7 := by omega
    refine t_go (op := o_iload 7 4) (fe_X8_fewestLit 5) (fun _ _ => rfl) ?_
    refine t_go (op := o_ci 9 7) (fe_X8_fewestLit 7) (fun _ _ => rfl) ?_
    refine t_ite (op := o_icmp 12 45 (fun x y => y ≤ x) (fun _ _ => inferInstance)) (fe_X8_fewestLit 9) g_icmp (fun c1 => ?_) (fun c1 => ?_)
    · rw [hN]
      exact hq
    · exact absurd (by rw [hN]; exact Int32.le_refl _) c1
  | succ j ih =>
    intro i S hi  hq
    have hb : inb (nI i) 7 := inb_n (by omega) (by decide)
    refine t_go (op := o_iload 7 4) (fe_X8_fewestLit 5) (fun _ _ => rfl) ?_
    refine t_go (op := o_ci 9 7) (fe_X8_fewestLit 7) (fun _ _ => rfl) ?_
    refine t_ite (op := o_icmp 12 45 (fun x y => y ≤ x) (fun _ _ => inferInstance)) (fe_X8_fewestLit 9) g_icmp (fun c1 => ?_) (fun c1 => ?_)
    · exact absurd c1 (nI_ge (show i < 7 by omega) (by decide))
    · refine t_go (op := o_aload 13 2) (fe_X8_fewestLit 12) (fun _ _ => rfl) ?_
      refine t_go (op := o_iload 15 4) (fe_X8_fewestLit 13) (fun _ _ => rfl) ?_
      refine t_call (op := o_callV 18 8 2 1) (fe_X8_fewestLit 15) (g_callV hS (by decide) (by decide) rfl rfl rfl (Nat.le_of_ble_eq_true rfl)) ?_
      refine M_mono ?_ (a_has hS (by decide) (X_fs hX (by omega)))
      rintro v h2 ⟨q1, q2⟩
      rw [q1, q2]; clear q1 q2 v h2
      refine t_ite (op := o_if 21 39 (fun x => x = 0) (fun _ => inferInstance)) (fe_X8_fewestLit 18) g_if (fun c2 => ?_) (fun c2 => ?_)
      · refine t_go (op := o_iinc 42 4 1) (fe_X8_fewestLit 39) (fun _ _ => rfl) ?_
        refine t_go (op := o_goto 5) (fe_X8_fewestLit 42) (fun _ _ => rfl) ?_
        have hs : burnB (fs h 5) (h.1 (g + 2)) i S = _ := if_neg (fun q => b2i_ne.mp c2 q.1)
        rw [it_step, hs] at hq
        rw [nI_1]
        exact ih (i + 1) _ (by omega) hq
      · refine t_go (op := o_aload 22 1) (fe_X8_fewestLit 21) (fun _ _ => rfl) ?_
        refine t_go (op := o_getR 25 3 1) (fe_X8_fewestLit 22) (g_getR hS hg (by decide) (fr_3_1 hS hg) (Nat.succ_pos _)) ?_
        refine t_go (op := o_iload 27 4) (fe_X8_fewestLit 25) (fun _ _ => rfl) ?_
        refine t_go (op := o_iald 28) (fe_X8_fewestLit 27) (g_iald hS (ly_3_2 hg) (by first | assumption | exact inb_1 ‹_› ‹_› (by decide))) ?_
        refine t_go (op := o_ci 29 3) (fe_X8_fewestLit 28) (fun _ _ => rfl) ?_
        refine t_ite (op := o_icmp 32 39 (fun x y => x = y) (fun _ _ => inferInstance)) (fe_X8_fewestLit 29) g_icmp (fun c3 => ?_) (fun c3 => ?_)
        · refine t_go (op := o_iinc 42 4 1) (fe_X8_fewestLit 39) (fun _ _ => rfl) ?_
          refine t_go (op := o_goto 5) (fe_X8_fewestLit 42) (fun _ _ => rfl) ?_
          rw [hX.2.2 (g + 2) (by have := grate_scr hg; omega)] at c3
          have hs : burnB (fs h 5) (h.1 (g + 2)) i S = _ := if_neg (fun q => q.2 c3)
          rw [it_step, hs] at hq
          rw [nI_1]
          exact ih (i + 1) _ (by omega) hq
        · refine t_go (op := o_iload 33 3) (fe_X8_fewestLit 32) (fun _ _ => rfl) ?_
          refine t_go (op := o_ci 34 1) (fe_X8_fewestLit 33) (fun _ _ => rfl) ?_
          refine t_go (op := o_iload 36 4) (fe_X8_fewestLit 34) (fun _ _ => rfl) ?_
          refine t_go (op := o_i2 37 (fun x y => x <<< (y &&& 31))) (fe_X8_fewestLit 36) (fun _ _ => rfl) ?_
          refine t_go (op := o_i2 38 (fun x y => x ||| y)) (fe_X8_fewestLit 37) (fun _ _ => rfl) ?_
          refine t_go (op := o_istore 39 3) (fe_X8_fewestLit 38) (fun _ _ => rfl) ?_
          refine t_go (op := o_iinc 42 4 1) (fe_X8_fewestLit 39) (fun _ _ => rfl) ?_
          refine t_go (op := o_goto 5) (fe_X8_fewestLit 42) (fun _ _ => rfl) ?_
          rw [hX.2.2 (g + 2) (by have := grate_scr hg; omega)] at c3
          have hs : burnB (fs h 5) (h.1 (g + 2)) i S = _ := if_pos ⟨Classical.not_not.mp (fun q => c2 (b2i_f q)), c3⟩
          rw [it_step, hs] at hq
          rw [nI_1]
          exact ih (i + 1) _ (by omega) hq
theorem l_fewestLit2 {d : Nat} {h : AHP} {g n : Nat} (hS0 : Std h) (hg : (lay g).1 = 3) (hL : LawOK h g n) (hz : h.1 5 5 = 0 ∨ h.1 5 5 = 1) (hN2 : NF (fs h 5)) {b : Int32} {z : Nat}  {Q : Option Value → AHP → Prop} : ∀ (j i : Nat) (S : Unit) (k : AHP), i + j = 128 → X h k → NF (fs k 143) → ((∀ k2 t, ser (litP h g n b z) j i = some t → X h k2 → NF (fs k2 143) → Q (some (.int (nI t))) k2) ∧ (∀ k2, ser (litP h g n b z) j i = none → X h k2 → NF (fs k2 143) → TT (d + 6) 86 120 [some (.ref 142), some (.ref g), some (.ref 5), some (.int b), some (.int (nI z)), some (.int (nI 128))] [] k2 Q)) → TT (d + 6) 86 58 [some (.ref 142), some (.ref g), some (.ref 5), some (.int b), some (.int (nI z)), some (.int (nI i))] [] k Q := by
  intro j
  induction j with
  | zero =>
    intro i S k hi hX hNk hq
    have hN : i = 128 := by omega
    have hS := hX.std hS0
    refine t_go (op := o_iload 60 5) (fe_X8_fewestLit 58) (fun _ _ => rfl) ?_
    refine t_go (op := o_ci 63 128) (fe_X8_fewestLit 60) (fun _ _ => rfl) ?_
    refine t_ite (op := o_icmp 66 120 (fun x y => y ≤ x) (fun _ _ => inferInstance)) (fe_X8_fewestLit 63) g_icmp (fun c1 => ?_) (fun c1 => ?_)
    · rw [hN]
      exact hq.2 k rfl hX hNk
    · exact absurd (by rw [hN]; exact Int32.le_refl _) c1
  | succ j ih =>
    intro i S k hi hX hNk hq
    have hi2 : i < 128 := by omega
    have hS := hX.std hS0
    refine t_go (op := o_iload 60 5) (fe_X8_fewestLit 58) (fun _ _ => rfl) ?_
    refine t_go (op := o_ci 63 128) (fe_X8_fewestLit 60) (fun _ _ => rfl) ?_
    refine t_ite (op := o_icmp 66 120 (fun x y => y ≤ x) (fun _ _ => inferInstance)) (fe_X8_fewestLit 63) g_icmp (fun c1 => ?_) (fun c1 => ?_)
    · exact absurd c1 (nI_ge (show i < 128 by omega) (by decide))
    · refine t_go (op := o_iload 68 5) (fe_X8_fewestLit 66) (fun _ _ => rfl) ?_
      refine t_go (op := o_iload 69 3) (fe_X8_fewestLit 68) (fun _ _ => rfl) ?_
      refine t_go (op := o_ci 70 (-1)) (fe_X8_fewestLit 69) (fun _ _ => rfl) ?_
      refine t_go (op := o_i2 71 (fun x y => x ^^^ y)) (fe_X8_fewestLit 70) (fun _ _ => rfl) ?_
      refine t_go (op := o_i2 72 (fun x y => x &&& y)) (fe_X8_fewestLit 71) (fun _ _ => rfl) ?_
      refine t_ite (op := o_if 114 75 (fun x => x = 0) (fun _ => inferInstance)) (fe_X8_fewestLit 72) g_if (fun c2 => ?_) (fun c2 => ?_)
      · refine t_go (op := o_iload 77 5) (fe_X8_fewestLit 75) (fun _ _ => rfl) ?_
        refine t_call (op := o_callS 80 270 1) (fe_X8_fewestLit 77) (g_callS rfl rfl rfl (Nat.le_of_ble_eq_true rfl)) ?_
        refine M_mono ?_ m_bitCount
        rintro v h3 ⟨q1, q2⟩
        rw [q1, q2]; clear q1 q2 v h3
        refine t_go (op := o_iload 82 4) (fe_X8_fewestLit 80) (fun _ _ => rfl) ?_
        refine t_ite (op := o_icmp 114 85 (fun x y => x = y) (fun _ _ => inferInstance)) (fe_X8_fewestLit 82) g_icmp (fun c3 => ?_) (fun c3 => ?_)
        · refine t_go (op := o_aload 86 0) (fe_X8_fewestLit 85) (fun _ _ => rfl) ?_
          refine t_go (op := o_getR 89 7 0) (fe_X8_fewestLit 86) (g_getR hS (by decide) (by decide) (fr_7_0 hS) (by decide)) ?_
          refine t_go (op := o_aload 90 2) (fe_X8_fewestLit 89) (fun _ _ => rfl) ?_
          refine t_call (op := o_callV 93 7 2 1) (fe_X8_fewestLit 90) (g_callV hS (by decide) (by decide) rfl rfl rfl (Nat.le_of_ble_eq_true rfl)) ?_
          refine M_mono ?_ (a_become hS0 hX (Or.inr rfl) (by decide) (Or.inl (by decide)) hz hNk hN2)
          rintro v h2 ⟨q1, hX2, hF2, hK2⟩
          rw [q1]; clear q1 v
          replace hS := hX2.std hS0
          refine t_go (op := o_aload 94 0) (fe_X8_fewestLit 93) (fun _ _ => rfl) ?_
          refine t_go (op := o_getR 97 7 0) (fe_X8_fewestLit 94) (g_getR hS (by decide) (by decide) (fr_7_0 hS) (by decide)) ?_
          refine t_go (op := o_iload 99 5) (fe_X8_fewestLit 97) (fun _ _ => rfl) ?_
          refine t_call (op := o_callV 102 13 2 1) (fe_X8_fewestLit 99) (g_callV hS (by decide) (by decide) rfl rfl rfl (Nat.le_of_ble_eq_true rfl)) ?_
          refine M_mono ?_ (a_giveFullHeat hS0 hX2 (Or.inr rfl) hF2)
          rintro v h2 ⟨q1, hX4, hF4, hK4⟩
          rw [q1]; clear q1 v
          replace hS := hX4.std hS0
          refine t_go (op := o_aload 103 0) (fe_X8_fewestLit 102) (fun _ _ => rfl) ?_
          refine t_go (op := o_aload 104 1) (fe_X8_fewestLit 103) (fun _ _ => rfl) ?_
          refine t_call (op := o_callV 107 91 2 7) (fe_X8_fewestLit 104) (g_callV hS (by decide) (by decide) rfl rfl rfl (Nat.le_of_ble_eq_true rfl)) ?_
          refine M_mono ?_ (m_trialGlows hS0 hg hL hX4 hF4 (NF_full hN2))
          rintro v h2 ⟨q1, hX5, hN5⟩
          rw [q1]; clear q1 v
          replace hS := hX5.std hS0
          refine t_go (op := o_iload 108 3) (fe_X8_fewestLit 107) (fun _ _ => rfl) ?_
          refine t_ite (op := o_icmp 114 111 (fun x y => x = y) (fun _ _ => inferInstance)) (fe_X8_fewestLit 108) g_icmp (fun c4 => ?_) (fun c4 => ?_)
          · refine t_go (op := o_iload 113 5) (fe_X8_fewestLit 111) (fun _ _ => rfl) ?_
            refine t_ret (op := o_iret) (fe_X8_fewestLit 113) (fun _ _ => rfl) ?_
            have hs : ser (litP h g n b z) (j + 1) i = some i := if_pos ⟨c2, c3, c4⟩
            exact hq.1 _ i hs hX5 hN5
          · refine t_go (op := o_iinc 117 5 1) (fe_X8_fewestLit 114) (fun _ _ => rfl) ?_
            refine t_go (op := o_goto 58) (fe_X8_fewestLit 117) (fun _ _ => rfl) ?_
            have hs : ser (litP h g n b z) (j + 1) i = ser (litP h g n b z) j (i + 1) := if_neg (fun q => c4 q.2.2)
            rw [hs] at hq
            rw [nI_1]
            exact ih (i + 1) () _ (by omega) hX5 hN5 hq
        · refine t_go (op := o_iinc 117 5 1) (fe_X8_fewestLit 114) (fun _ _ => rfl) ?_
          refine t_go (op := o_goto 58) (fe_X8_fewestLit 117) (fun _ _ => rfl) ?_
          have hs : ser (litP h g n b z) (j + 1) i = ser (litP h g n b z) j (i + 1) := if_neg (fun q => c3 q.2.1)
          rw [hs] at hq
          rw [nI_1]
          exact ih (i + 1) () _ (by omega) hX hNk hq
      · refine t_go (op := o_iinc 117 5 1) (fe_X8_fewestLit 114) (fun _ _ => rfl) ?_
        refine t_go (op := o_goto 58) (fe_X8_fewestLit 117) (fun _ _ => rfl) ?_
        have hs : ser (litP h g n b z) (j + 1) i = ser (litP h g n b z) j (i + 1) := if_neg (fun q => c2 q.1)
        rw [hs] at hq
        rw [nI_1]
        exact ih (i + 1) () _ (by omega) hX hNk hq
theorem l_fewestTaken2 {d : Nat} {h : AHP} {g n : Nat} (hS0 : Std h) (hg : (lay g).1 = 3) (hL : LawOK h g n) (hz : h.1 5 5 = 0 ∨ h.1 5 5 = 1) (hN2 : NF (fs h 5)) {b e : Int32} {z : Nat}  {Q : Option Value → AHP → Prop} : ∀ (j i : Nat) (S : Unit) (k : AHP), i + j = 128 → X h k → NF (fs k 143) → ((∀ k2 t, ser (takeP h g n b e z) j i = some t → X h k2 → NF (fs k2 143) → Q (some (.int (nI t))) k2) ∧ (∀ k2, ser (takeP h g n b e z) j i = none → X h k2 → NF (fs k2 143) → TT (d + 6) 87 91 [some (.ref 142), some (.ref g), some (.ref 5), some (.int e), some (.int b), some (.int (nI z)), some (.int (nI 128))] [] k2 Q)) → TT (d + 6) 87 25 [some (.ref 142), some (.ref g), some (.ref 5), some (.int e), some (.int b), some (.int (nI z)), some (.int (nI i))] [] k Q := by
  intro j
  induction j with
  | zero =>
    intro i S k hi hX hNk hq
    have hN : i = 128 := by omega
    have hS := hX.std hS0
    refine t_go (op := o_iload 27 6) (fe_X8_fewestTaken 25) (fun _ _ => rfl) ?_
    refine t_go (op := o_ci 30 128) (fe_X8_fewestTaken 27) (fun _ _ => rfl) ?_
    refine t_ite (op := o_icmp 33 91 (fun x y => y ≤ x) (fun _ _ => inferInstance)) (fe_X8_fewestTaken 30) g_icmp (fun c1 => ?_) (fun c1 => ?_)
    · rw [hN]
      exact hq.2 k rfl hX hNk
    · exact absurd (by rw [hN]; exact Int32.le_refl _) c1
  | succ j ih =>
    intro i S k hi hX hNk hq
    have hi2 : i < 128 := by omega
    have hS := hX.std hS0
    refine t_go (op := o_iload 27 6) (fe_X8_fewestTaken 25) (fun _ _ => rfl) ?_
    refine t_go (op := o_ci 30 128) (fe_X8_fewestTaken 27) (fun _ _ => rfl) ?_
    refine t_ite (op := o_icmp 33 91 (fun x y => y ≤ x) (fun _ _ => inferInstance)) (fe_X8_fewestTaken 30) g_icmp (fun c1 => ?_) (fun c1 => ?_)
    · exact absurd c1 (nI_ge (show i < 128 by omega) (by decide))
    · refine t_go (op := o_iload 35 6) (fe_X8_fewestTaken 33) (fun _ _ => rfl) ?_
      refine t_go (op := o_iload 37 4) (fe_X8_fewestTaken 35) (fun _ _ => rfl) ?_
      refine t_go (op := o_ci 38 (-1)) (fe_X8_fewestTaken 37) (fun _ _ => rfl) ?_
      refine t_go (op := o_i2 39 (fun x y => x ^^^ y)) (fe_X8_fewestTaken 38) (fun _ _ => rfl) ?_
      refine t_go (op := o_i2 40 (fun x y => x &&& y)) (fe_X8_fewestTaken 39) (fun _ _ => rfl) ?_
      refine t_ite (op := o_if 85 43 (fun x => x = 0) (fun _ => inferInstance)) (fe_X8_fewestTaken 40) g_if (fun c2 => ?_) (fun c2 => ?_)
      · refine t_go (op := o_iload 45 6) (fe_X8_fewestTaken 43) (fun _ _ => rfl) ?_
        refine t_call (op := o_callS 48 270 1) (fe_X8_fewestTaken 45) (g_callS rfl rfl rfl (Nat.le_of_ble_eq_true rfl)) ?_
        refine M_mono ?_ m_bitCount
        rintro v h3 ⟨q1, q2⟩
        rw [q1, q2]; clear q1 q2 v h3
        refine t_go (op := o_iload 50 5) (fe_X8_fewestTaken 48) (fun _ _ => rfl) ?_
        refine t_ite (op := o_icmp 85 53 (fun x y => x = y) (fun _ _ => inferInstance)) (fe_X8_fewestTaken 50) g_icmp (fun c3 => ?_) (fun c3 => ?_)
        · refine t_go (op := o_aload 54 0) (fe_X8_fewestTaken 53) (fun _ _ => rfl) ?_
          refine t_go (op := o_getR 57 7 0) (fe_X8_fewestTaken 54) (g_getR hS (by decide) (by decide) (fr_7_0 hS) (by decide)) ?_
          refine t_go (op := o_aload 58 2) (fe_X8_fewestTaken 57) (fun _ _ => rfl) ?_
          refine t_call (op := o_callV 61 7 2 1) (fe_X8_fewestTaken 58) (g_callV hS (by decide) (by decide) rfl rfl rfl (Nat.le_of_ble_eq_true rfl)) ?_
          refine M_mono ?_ (a_become hS0 hX (Or.inr rfl) (by decide) (Or.inl (by decide)) hz hNk hN2)
          rintro v h2 ⟨q1, hX2, hF2, hK2⟩
          rw [q1]; clear q1 v
          replace hS := hX2.std hS0
          refine t_go (op := o_aload 62 0) (fe_X8_fewestTaken 61) (fun _ _ => rfl) ?_
          refine t_go (op := o_getR 65 7 0) (fe_X8_fewestTaken 62) (g_getR hS (by decide) (by decide) (fr_7_0 hS) (by decide)) ?_
          refine t_go (op := o_iload 67 6) (fe_X8_fewestTaken 65) (fun _ _ => rfl) ?_
          refine t_call (op := o_callV 70 12 2 1) (fe_X8_fewestTaken 67) (g_callV hS (by decide) (by decide) rfl rfl rfl (Nat.le_of_ble_eq_true rfl)) ?_
          refine M_mono ?_ (a_takeOutAll hS0 hX2 (Or.inr rfl) hF2)
          rintro v h2 ⟨q1, hX4, hF4, hK4⟩
          rw [q1]; clear q1 v
          replace hS := hX4.std hS0
          refine t_go (op := o_aload 71 0) (fe_X8_fewestTaken 70) (fun _ _ => rfl) ?_
          refine t_go (op := o_aload 72 1) (fe_X8_fewestTaken 71) (fun _ _ => rfl) ?_
          refine t_call (op := o_callV 75 91 2 7) (fe_X8_fewestTaken 72) (g_callV hS (by decide) (by decide) rfl rfl rfl (Nat.le_of_ble_eq_true rfl)) ?_
          refine M_mono ?_ (m_trialGlows hS0 hg hL hX4 hF4 (NF_taken hN2))
          rintro v h2 ⟨q1, hX5, hN5⟩
          rw [q1]; clear q1 v
          replace hS := hX5.std hS0
          refine t_go (op := o_iload 76 3) (fe_X8_fewestTaken 75) (fun _ _ => rfl) ?_
          refine t_go (op := o_i2 77 (fun x y => x >>> (y &&& 31))) (fe_X8_fewestTaken 76) (fun _ _ => rfl) ?_
          refine t_go (op := o_ci 78 1) (fe_X8_fewestTaken 77) (fun _ _ => rfl) ?_
          refine t_go (op := o_i2 79 (fun x y => x &&& y)) (fe_X8_fewestTaken 78) (fun _ _ => rfl) ?_
          refine t_ite (op := o_if 85 82 (fun x => x = 0) (fun _ => inferInstance)) (fe_X8_fewestTaken 79) g_if (fun c4 => ?_) (fun c4 => ?_)
          · refine t_go (op := o_iload 84 6) (fe_X8_fewestTaken 82) (fun _ _ => rfl) ?_
            refine t_ret (op := o_iret) (fe_X8_fewestTaken 84) (fun _ _ => rfl) ?_
            have hs : ser (takeP h g n b e z) (j + 1) i = some i := if_pos ⟨c2, c3, c4⟩
            exact hq.1 _ i hs hX5 hN5
          · refine t_go (op := o_iinc 88 6 1) (fe_X8_fewestTaken 85) (fun _ _ => rfl) ?_
            refine t_go (op := o_goto 25) (fe_X8_fewestTaken 88) (fun _ _ => rfl) ?_
            have hs : ser (takeP h g n b e z) (j + 1) i = ser (takeP h g n b e z) j (i + 1) := if_neg (fun q => c4 q.2.2)
            rw [hs] at hq
            rw [nI_1]
            exact ih (i + 1) () _ (by omega) hX5 hN5 hq
        · refine t_go (op := o_iinc 88 6 1) (fe_X8_fewestTaken 85) (fun _ _ => rfl) ?_
          refine t_go (op := o_goto 25) (fe_X8_fewestTaken 88) (fun _ _ => rfl) ?_
          have hs : ser (takeP h g n b e z) (j + 1) i = ser (takeP h g n b e z) j (i + 1) := if_neg (fun q => c3 q.2.1)
          rw [hs] at hq
          rw [nI_1]
          exact ih (i + 1) () _ (by omega) hX hNk hq
      · refine t_go (op := o_iinc 88 6 1) (fe_X8_fewestTaken 85) (fun _ _ => rfl) ?_
        refine t_go (op := o_goto 25) (fe_X8_fewestTaken 88) (fun _ _ => rfl) ?_
        have hs : ser (takeP h g n b e z) (j + 1) i = ser (takeP h g n b e z) j (i + 1) := if_neg (fun q => c2 q.1)
        rw [hs] at hq
        rw [nI_1]
        exact ih (i + 1) () _ (by omega) hX hNk hq
