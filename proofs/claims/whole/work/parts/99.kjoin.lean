/-! ===== the class reads a law: levels ===== -/
theorem pJ_up {TK : Nat → Tk} : ∀ {k l dep : Nat} {s s2 : St}, pJ TK k l dep s = some s2 → pJ TK (k + 1) l dep s = some s2 := by
  intro k
  induction k with
  | zero => intro l dep s s2 h; cases h
  | succ k ih =>
    intro l dep s s2 h
    by_cases h4 : l = 4
    · subst h4
      rw [pJ_4] at h ⊢
      unfold pPt at h ⊢
      by_cases c1 : ¬ s.2.1 = 0
      · rw [cI_t c1] at h ⊢; exact h
      rw [cI_f c1] at h ⊢
      by_cases c2 : ¬ (numP TK s ∨ facP TK s ∨ notP TK s ∨ parP TK s)
      · rw [cI_t c2] at h ⊢; exact h
      rw [cI_f c2] at h ⊢
      by_cases c3 : dep = 5
      · rw [cI_t c3] at h ⊢; exact h
      rw [cI_f c3] at h ⊢
      by_cases c4 : notP TK s
      · rw [cI_t c4] at h ⊢
        obtain ⟨s1, e1, e2⟩ := Option.map_eq_some_iff.mp h
        exact Option.map_eq_some_iff.mpr ⟨s1, ih e1, e2⟩
      rw [cI_f c4] at h ⊢
      by_cases c5 : parP TK s
      · rw [cI_t c5] at h ⊢
        obtain ⟨s1, e1, e2⟩ := Option.map_eq_some_iff.mp h
        exact Option.map_eq_some_iff.mpr ⟨s1, ih e1, e2⟩
      rw [cI_f c5] at h ⊢
      exact h
    · by_cases hl : l < 4
      · rw [pJ_l hl] at h ⊢
        obtain ⟨s1, e1, e2⟩ := Option.bind_eq_some_iff.mp h
        exact Option.bind_eq_some_iff.mpr ⟨s1, ih e1, ih e2⟩
      · rw [pJ, if_neg h4, if_neg hl] at h ⊢
        by_cases c1 : opP TK (l - 10) s
        · rw [cI_t c1] at h ⊢
          obtain ⟨s1, e1, e2⟩ := Option.bind_eq_some_iff.mp h
          refine Option.bind_eq_some_iff.mpr ⟨s1, ih e1, ?_⟩
          by_cases h11 : l = 11
          · rw [if_pos h11] at e2 ⊢; exact e2
          · rw [if_neg h11] at e2 ⊢; exact ih e2
        · rw [cI_f c1] at h ⊢; exact h
theorem k_jA {d : Nat} {h0 h : AHP} {l dep lev : Nat} {ch : Nat → Nat} {len : Nat} {s : St} (hS0 : Std h0) (hl : (lay l).1 = 4) (hl5 : 5 ≤ l) (hs : KS h0 h l ch len s) {Q : Option Value → AHP → Prop} (hlv : lev < 4) {s1 : St} (hJ : MM (d + 4) 79 [.ref 4, .ref l, .int (nI (lev + 1)), .int (nI dep)] h (KQ h0 l ch len s1)) (hqf : ¬ s1.2.1 = 0 → ∀ h2, KQ h0 l ch len s1 (some (.int 0)) h2 → Q (some (.int 0)) h2) (hq : ∀ (h2 : AHP) (x4 : Int32), s1.2.1 = 0 → KS h0 h2 l ch len s1 → (lev = 1 → x4 = 1) → (¬ lev = 1 → x4 = 1000) → TT (d + 5) 79 43 [some (.ref 4), some (.ref l), some (.int (nI lev)), some (.int (nI dep)), some (.int x4), some (.int 0), none] [] h2 Q) : MM (d + 5) 79 [.ref 4, .ref l, .int (nI lev), .int (nI dep)] h (fun v h2 => Q v h2) := by
  refine ⟨Nat.le_of_ble_eq_true rfl, ?_⟩
  have hS := hs.1.std hS0
  refine t_go (op := o_iload 1 2) (fe_X7_joined 0) (fun _ _ => rfl) ?_
  refine t_go (op := o_ci 2 4) (fe_X7_joined 1) (fun _ _ => rfl) ?_
  refine t_ite (op := o_icmp 5 12 (fun x y => x < y) (fun _ _ => inferInstance)) (fe_X7_joined 2) g_icmp (fun c1 => ?_) (fun c1 => ?_)
  · refine t_go (op := o_aload 13 0) (fe_X7_joined 12) (fun _ _ => rfl) ?_
    refine t_go (op := o_aload 14 1) (fe_X7_joined 13) (fun _ _ => rfl) ?_
    refine t_go (op := o_iload 15 2) (fe_X7_joined 14) (fun _ _ => rfl) ?_
    refine t_go (op := o_ci 16 1) (fe_X7_joined 15) (fun _ _ => rfl) ?_
    refine t_go (op := o_i2 17 (fun x y => x + y)) (fe_X7_joined 16) (fun _ _ => rfl) ?_
    rw [show (fun x y : Int32 => x + y) (nI lev) 1 = nI (lev + 1) from nI_1 lev]
    refine t_go (op := o_iload 18 3) (fe_X7_joined 17) (fun _ _ => rfl) ?_
    refine t_call (op := o_callV 21 79 4 6) (fe_X7_joined 18) (g_callV hS (show (lay 4).1 = 6 by decide) (by decide) rfl rfl rfl (Nat.le_of_ble_eq_true rfl)) ?_
    refine M_mono ?_ hJ
    rintro _ k3 ⟨rfl, hy, hno⟩
    refine t_ite (op := o_if 26 24 (fun x => x = 0) (fun _ => inferInstance)) (fe_X7_joined 21) g_if (fun c2 => ?_) (fun c2 => ?_)
    · replace c2 := b2i_z c2
      have hz := hno c2
      refine t_go (op := o_ci 25 0) (fe_X7_joined 24) (fun _ _ => rfl) ?_
      refine t_ret (op := o_zret) (fe_X7_joined 25) (g_zret (Or.inl rfl)) ?_
      exact hqf c2 _ (KQ_f rfl c2 hz.1 hz.2)
    · replace c2 := b2i_nn c2
      have hs3 := hy c2
      replace hS := hs3.1.std hS0
      refine t_go (op := o_iload 27 2) (fe_X7_joined 26) (fun _ _ => rfl) ?_
      refine t_go (op := o_ci 28 1) (fe_X7_joined 27) (fun _ _ => rfl) ?_
      refine t_ite (op := o_icmp 35 31 (fun x y => x = y) (fun _ _ => inferInstance)) (fe_X7_joined 28) g_icmp (fun c3 => ?_) (fun c3 => ?_)
      · refine t_go (op := o_ci 32 1) (fe_X7_joined 31) (fun _ _ => rfl) ?_
        refine t_go (op := o_goto 38) (fe_X7_joined 32) (fun _ _ => rfl) ?_
        refine t_go (op := o_istore 40 4) (fe_X7_joined 38) (fun _ _ => rfl) ?_
        refine t_go (op := o_ci 41 0) (fe_X7_joined 40) (fun _ _ => rfl) ?_
        refine t_go (op := o_istore 43 5) (fe_X7_joined 41) (fun _ _ => rfl) ?_
        exact hq _ _ c2 hs3 (fun _ => rfl) (fun q => absurd ((nI_eq (b := 1) (by omega) (by decide)).mp c3) q)
      · refine t_go (op := o_ci 38 1000) (fe_X7_joined 35) (fun _ _ => rfl) ?_
        refine t_go (op := o_istore 40 4) (fe_X7_joined 38) (fun _ _ => rfl) ?_
        refine t_go (op := o_ci 41 0) (fe_X7_joined 40) (fun _ _ => rfl) ?_
        refine t_go (op := o_istore 43 5) (fe_X7_joined 41) (fun _ _ => rfl) ?_
        exact hq _ _ c2 hs3 (fun q => absurd (by rw [q]; rfl) c3) (fun _ => rfl)
  · exact absurd (nI_lt (b := 4) hlv (by decide)) c1
theorem k_j4 {d : Nat} {h0 h : AHP} {l dep : Nat} {ch : Nat → Nat} {len : Nat} {s : St} (hS0 : Std h0) (hl : (lay l).1 = 4) (hl5 : 5 ≤ l) (hs : KS h0 h l ch len s) {Q : Option Value → AHP → Prop} {s1 : St} (hJ : MM (d + 4) 82 [.ref 4, .ref l, .int (nI dep)] h (KQ h0 l ch len s1)) (hq : ∀ v h2, KQ h0 l ch len s1 v h2 → Q v h2) : MM (d + 5) 79 [.ref 4, .ref l, .int (nI 4), .int (nI dep)] h (fun v h2 => Q v h2) := by
  refine ⟨Nat.le_of_ble_eq_true rfl, ?_⟩
  have hS := hs.1.std hS0
  refine t_go (op := o_iload 1 2) (fe_X7_joined 0) (fun _ _ => rfl) ?_
  refine t_go (op := o_ci 2 4) (fe_X7_joined 1) (fun _ _ => rfl) ?_
  refine t_ite (op := o_icmp 5 12 (fun x y => x < y) (fun _ _ => inferInstance)) (fe_X7_joined 2) g_icmp (fun c1 => ?_) (fun c1 => ?_)
  · exact absurd (show nI 4 < 4 from c1) (by decide)
  · refine t_go (op := o_aload 6 0) (fe_X7_joined 5) (fun _ _ => rfl) ?_
    refine t_go (op := o_aload 7 1) (fe_X7_joined 6) (fun _ _ => rfl) ?_
    refine t_go (op := o_iload 8 3) (fe_X7_joined 7) (fun _ _ => rfl) ?_
    refine t_call (op := o_callV 11 82 3 6) (fe_X7_joined 8) (g_callV hS (show (lay 4).1 = 6 by decide) (by decide) rfl rfl rfl (Nat.le_of_ble_eq_true rfl)) ?_
    refine M_mono ?_ hJ
    rintro _ k3 ⟨rfl, hk3⟩
    refine t_ret (op := o_zret) (fe_X7_joined 11) (g_zret b2i_01) ?_
    exact hq _ _ ⟨rfl, hk3⟩
theorem k_jN {d : Nat} {h0 h : AHP} {l dep lev : Nat} {ch : Nat → Nat} {len : Nat} {s : St} (hS0 : Std h0) (hl : (lay l).1 = 4) (hl5 : 5 ≤ l) (hs : KS h0 h l ch len s) {x4 x5 : Int32} {x6 : Option Value} (hl3 : lev ≤ 3) (hf : s.2.1 = 0) (hop : ¬ opP (tkT ch len) lev s) {Q : Option Value → AHP → Prop} (hq : Q (some (.int 1)) h) : TT (d + 5) 79 43 [some (.ref 4), some (.ref l), some (.int (nI lev)), some (.int (nI dep)), some (.int x4), some (.int x5), x6] [] h Q := by
  have hS := hs.1.std hS0
  have hC := hs.2.1
  refine t_go (op := o_iload 45 5) (fe_X7_joined 43) (fun _ _ => rfl) ?_
  refine t_go (op := o_iload 47 4) (fe_X7_joined 45) (fun _ _ => rfl) ?_
  refine t_ite (op := o_icmp 50 97 (fun x y => y ≤ x) (fun _ _ => inferInstance)) (fe_X7_joined 47) g_icmp (fun c1 => ?_) (fun c1 => ?_)
  · refine t_go (op := o_ci 98 1) (fe_X7_joined 97) (fun _ _ => rfl) ?_
    refine t_ret (op := o_zret) (fe_X7_joined 98) (g_zret (Or.inr rfl)) ?_
    exact hq
  · refine t_go (op := o_aload 51 0) (fe_X7_joined 50) (fun _ _ => rfl) ?_
    refine t_call (op := o_callV 54 80 1 6) (fe_X7_joined 51) (g_callV hS (show (lay 4).1 = 6 by decide) (by decide) rfl rfl rfl (Nat.le_of_ble_eq_true rfl)) ?_
    refine M_eq (c_levelHere hS hC) ?_
    obtain ⟨XL, eL⟩ : ∃ x, lvV (tkT ch len) s.1 = x := ⟨_, rfl⟩
    rw [eL]
    refine t_go (op := o_iload 55 2) (fe_X7_joined 54) (fun _ _ => rfl) ?_
    refine t_ite (op := o_icmp 97 58 (fun x y => x = y) (fun _ _ => inferInstance)) (fe_X7_joined 55) g_icmp (fun c2 => ?_) (fun c2 => ?_)
    · exact absurd ((lv_op hf hl3).mp (eL.trans c2)) hop
    · refine t_go (op := o_ci 98 1) (fe_X7_joined 97) (fun _ _ => rfl) ?_
      refine t_ret (op := o_zret) (fe_X7_joined 98) (g_zret (Or.inr rfl)) ?_
      exact hq
theorem k_j1 {d : Nat} {h0 h : AHP} {l dep lev : Nat} {ch : Nat → Nat} {len : Nat} {s : St} (hS0 : Std h0) (hl : (lay l).1 = 4) (hl5 : 5 ≤ l) (hs : KS h0 h l ch len s) {x6 : Option Value} {Q : Option Value → AHP → Prop} (hq : Q (some (.int 1)) h) : TT (d + 5) 79 43 [some (.ref 4), some (.ref l), some (.int (nI lev)), some (.int (nI dep)), some (.int (nI 1)), some (.int (nI 1)), x6] [] h Q := by
  have hS := hs.1.std hS0
  refine t_go (op := o_iload 45 5) (fe_X7_joined 43) (fun _ _ => rfl) ?_
  refine t_go (op := o_iload 47 4) (fe_X7_joined 45) (fun _ _ => rfl) ?_
  refine t_ite (op := o_icmp 50 97 (fun x y => y ≤ x) (fun _ _ => inferInstance)) (fe_X7_joined 47) g_icmp (fun c1 => ?_) (fun c1 => ?_)
  · refine t_go (op := o_ci 98 1) (fe_X7_joined 97) (fun _ _ => rfl) ?_
    refine t_ret (op := o_zret) (fe_X7_joined 98) (g_zret (Or.inr rfl)) ?_
    exact hq
  · exact absurd (Int32.le_refl _) c1
theorem k_jY {d : Nat} {h0 h : AHP} {l dep lev : Nat} {ch : Nat → Nat} {len : Nat} {s : St} (hS0 : Std h0) (hl : (lay l).1 = 4) (hl5 : 5 ≤ l) (hs : KS h0 h l ch len s) {i mo : Nat} {x6 : Option Value} (hl3 : lev ≤ 3) (him : i < mo) (hmo : mo ≤ 1000) (hf : s.2.1 = 0) (hop : opP (tkT ch len) lev s) {s1 : St} (hJ : ∀ h2, KS h0 h2 l ch len (nx1 s) → MM (d + 4) 79 [.ref 4, .ref l, .int (nI (lev + 1)), .int (nI dep)] h2 (KQ h0 l ch len s1)) (hq1 : s1.2.2.length < 1000) {Q : Option Value → AHP → Prop} (hqf : ¬ s1.2.1 = 0 → ∀ h2, KQ h0 l ch len s1 (some (.int 0)) h2 → Q (some (.int 0)) h2) (hq : ∀ (h2 : AHP) (x6 : Int32), s1.2.1 = 0 → KS h0 h2 l ch len (emS (opC (tkT ch len) lev s) 0 s1) → TT (d + 5) 79 43 [some (.ref 4), some (.ref l), some (.int (nI lev)), some (.int (nI dep)), some (.int (nI mo)), some (.int (nI (i + 1))), some (.int x6)] [] h2 Q) : TT (d + 5) 79 43 [some (.ref 4), some (.ref l), some (.int (nI lev)), some (.int (nI dep)), some (.int (nI mo)), some (.int (nI i)), x6] [] h Q := by
  have hS := hs.1.std hS0
  have hC := hs.2.1
  refine t_go (op := o_iload 45 5) (fe_X7_joined 43) (fun _ _ => rfl) ?_
  refine t_go (op := o_iload 47 4) (fe_X7_joined 45) (fun _ _ => rfl) ?_
  refine t_ite (op := o_icmp 50 97 (fun x y => y ≤ x) (fun _ _ => inferInstance)) (fe_X7_joined 47) g_icmp (fun c1 => ?_) (fun c1 => ?_)
  · exact absurd c1 (nI_ge him (by omega))
  · refine t_go (op := o_aload 51 0) (fe_X7_joined 50) (fun _ _ => rfl) ?_
    refine t_call (op := o_callV 54 80 1 6) (fe_X7_joined 51) (g_callV hS (show (lay 4).1 = 6 by decide) (by decide) rfl rfl rfl (Nat.le_of_ble_eq_true rfl)) ?_
    refine M_eq (c_levelHere hS hC) ?_
    rw [(lv_op hf hl3).mpr hop]
    refine t_go (op := o_iload 55 2) (fe_X7_joined 54) (fun _ _ => rfl) ?_
    refine t_ite (op := o_icmp 97 58 (fun x y => x = y) (fun _ _ => inferInstance)) (fe_X7_joined 55) g_icmp (fun c2 => ?_) (fun c2 => ?_)
    · refine t_go (op := o_aload 59 0) (fe_X7_joined 58) (fun _ _ => rfl) ?_
      refine t_call (op := o_callV 62 81 1 6) (fe_X7_joined 59) (g_callV hS (show (lay 4).1 = 6 by decide) (by decide) rfl rfl rfl (Nat.le_of_ble_eq_true rfl)) ?_
      refine M_eq (c_stepHere hS hC) ?_
      rw [sh_op hl3 hop]
      obtain ⟨X6, e6⟩ : ∃ x, stp (opC (tkT ch len) lev s, 0) = x := ⟨_, rfl⟩
      rw [e6]
      refine t_go (op := o_istore 64 6) (fe_X7_joined 62) (fun _ _ => rfl) ?_
      refine t_go (op := o_aload 65 0) (fe_X7_joined 64) (fun _ _ => rfl) ?_
      refine t_go (op := o_getR 68 6 0) (fe_X7_joined 65) (g_getR hS (show (lay 4).1 = 6 by decide) (by decide) (fr_6_0 hS) (by decide)) ?_
      refine t_call (op := o_callV 71 97 1 8) (fe_X7_joined 68) (g_callV hS (by decide) (by decide) rfl rfl rfl (Nat.le_of_ble_eq_true rfl)) ?_
      refine M_mono ?_ (c_toNext hS hC)
      rintro _ k2 ⟨rfl, hT, hC2⟩
      have hs1 := KS_nx hl5 hs hT hC2
      replace hS := hs1.1.std hS0
      refine t_go (op := o_aload 72 0) (fe_X7_joined 71) (fun _ _ => rfl) ?_
      refine t_go (op := o_aload 73 1) (fe_X7_joined 72) (fun _ _ => rfl) ?_
      refine t_go (op := o_iload 74 2) (fe_X7_joined 73) (fun _ _ => rfl) ?_
      refine t_go (op := o_ci 75 1) (fe_X7_joined 74) (fun _ _ => rfl) ?_
      refine t_go (op := o_i2 76 (fun x y => x + y)) (fe_X7_joined 75) (fun _ _ => rfl) ?_
      rw [show (fun x y : Int32 => x + y) (nI lev) 1 = nI (lev + 1) from nI_1 lev]
      refine t_go (op := o_iload 77 3) (fe_X7_joined 76) (fun _ _ => rfl) ?_
      refine t_call (op := o_callV 80 79 4 6) (fe_X7_joined 77) (g_callV hS (show (lay 4).1 = 6 by decide) (by decide) rfl rfl rfl (Nat.le_of_ble_eq_true rfl)) ?_
      refine M_mono ?_ (hJ _ hs1)
      rintro _ k3 ⟨rfl, hy, hno⟩
      refine t_ite (op := o_if 85 83 (fun x => x = 0) (fun _ => inferInstance)) (fe_X7_joined 80) g_if (fun c3 => ?_) (fun c3 => ?_)
      · replace c3 := b2i_z c3
        have hz := hno c3
        refine t_go (op := o_ci 84 0) (fe_X7_joined 83) (fun _ _ => rfl) ?_
        refine t_ret (op := o_zret) (fe_X7_joined 84) (g_zret (Or.inl rfl)) ?_
        exact hqf c3 _ (KQ_f rfl c3 hz.1 hz.2)
      · replace c3 := b2i_nn c3
        have hs3 := hy c3
        replace hS := hs3.1.std hS0
        refine t_go (op := o_aload 86 1) (fe_X7_joined 85) (fun _ _ => rfl) ?_
        refine t_go (op := o_iload 88 6) (fe_X7_joined 86) (fun _ _ => rfl) ?_
        refine t_call (op := o_callV 91 59 2 4) (fe_X7_joined 88) (g_callV hS hl (by decide) rfl rfl rfl (Nat.le_of_ble_eq_true rfl)) ?_
        refine M_eq (c_add (q := s1.2.2.length) hS hl hs3.2.2.1 hq1) ?_
        refine t_go (op := o_iinc 94 5 1) (fe_X7_joined 91) (fun _ _ => rfl) ?_
        refine t_go (op := o_goto 43) (fe_X7_joined 94) (fun _ _ => rfl) ?_
        rw [nI_1]
        exact hq _ _ c3 (by rw [← e6]; exact KS_add hl5 hs3)
    · exact absurd rfl c2
def CK (h0 : AHP) (l : Nat) (ch : Nat → Nat) (len n k : Nat) : Prop := ∀ (d lev dep : Nat) (s s2 : St) (h : AHP), lev ≤ 4 → dep ≤ 5 → KS h0 h l ch len s → s.2.1 = 0 → okR (tkT ch len) n s → pJ (tkT ch len) k lev dep s = some s2 → MM (d + (5 - dep) * 6 + (4 - lev) + 5) 79 [.ref 4, .ref l, .int (nI lev), .int (nI dep)] h (KQ h0 l ch len s2)
def CPt (h0 : AHP) (l : Nat) (ch : Nat → Nat) (len n k : Nat) : Prop := ∀ (d dep : Nat) (s s2 : St) (h : AHP), dep ≤ 5 → KS h0 h l ch len s → s.2.1 = 0 → okR (tkT ch len) n s → pJ (tkT ch len) k 4 dep s = some s2 → MM (d + (5 - dep) * 6 + 4) 82 [.ref 4, .ref l, .int (nI dep)] h (KQ h0 l ch len s2)
def CLo (h0 : AHP) (l : Nat) (ch : Nat → Nat) (len n k : Nat) : Prop := ∀ (d lev dep i : Nat) (s s2 : St) (h : AHP) (x6 : Option Value), lev ≤ 3 → ¬ lev = 1 → dep ≤ 5 → i ≤ s.1 → KS h0 h l ch len s → s.2.1 = 0 → okR (tkT ch len) n s → pJ (tkT ch len) k (10 + lev) dep s = some s2 → TT (d + (5 - dep) * 6 + (4 - lev) + 5) 79 43 [some (.ref 4), some (.ref l), some (.int (nI lev)), some (.int (nI dep)), some (.int (nI 1000)), some (.int (nI i)), x6] [] h (KQ h0 l ch len s2)
theorem kj_part {h0 : AHP} {l : Nat} {ch : Nat → Nat} {len n k : Nat} (hS0 : Std h0) (hl : (lay l).1 = 4) (hl5 : 5 ≤ l) (hE : (tkT ch len n).1 = 0) (hB : ∀ j, TKb (tkT ch len j)) (hn : n ≤ 1000) (ihJ : CK h0 l ch len n k) (ihP : CPt h0 l ch len n k) : CPt h0 l ch len n (k + 1) := by
  intro d dep s s2 h hd hs hf0 hk e
  rw [pJ_4] at e
  unfold pPt at e
  rw [cI_f (fun q => q hf0)] at e
  have eN : notP (tkT ch len) s ↔ isWd (tkT ch len) 16 s.1 0 := by unfold notP; rw [hf0]
  have eP : parP (tkT ch len) s ↔ isS (tkT ch len) 40 s.1 0 := by unfold parP; rw [hf0]
  have eF : facP (tkT ch len) s ↔ whP (tkT ch len) 19 s.1 0 4 := by unfold facP; rw [hf0]
  have hBs := hB s.1
  refine k_pA (d := d + (5 - dep) * 6) hS0 hl hl5 hs (fun x3 x4 x5 x6 h3 h4 h5 h6 => ?_)
  by_cases c2 : ¬ (numP (tkT ch len) s ∨ facP (tkT ch len) s ∨ notP (tkT ch len) s ∨ parP (tkT ch len) s)
  · rw [cI_t c2] at e; cases e
    refine k_pB1 hS0 hl hl5 hs ?_ ?_ ?_ ?_ (KQ_wr (by decide) hs hf0)
    · rw [h3]; exact b2i_f (fun q => c2 (Or.inr (Or.inr (Or.inl (eN.mpr q)))))
    · rw [h4]; exact b2i_f (fun q => c2 (Or.inr (Or.inr (Or.inr (eP.mpr q)))))
    · rw [h5]; exact b2i_f (fun q => c2 (Or.inl q))
    · rw [h6]; exact (ofF_w hBs).mpr (fun q => c2 (Or.inr (Or.inl (eF.mpr q))))
  · rw [cI_f c2] at e
    have c2' := Classical.not_not.mp c2
    have h0' : ¬ (tkT ch len s.1).1 = 0 := by
      rcases c2' with q | q | q | q
      · rw [show (tkT ch len s.1).1 = 2 from q]; decide
      · rw [q.2.1]; decide
      · rw [q.2.1]; decide
      · rw [q.2.1]; decide
    have hkn := okR_n1 hE hk h0'
    have hlt : s.1 < n := hkn.1
    have hsl : s.2.2.length ≤ s.1 := hk.2.2
    refine k_pB2 hS0 hl hl5 hs ?_ ?_
    · rcases c2' with q | q | q | q
      · exact Or.inr (Or.inr (Or.inl (by rw [h5, b2i_t (show (tkT ch len s.1).1 = 2 from q)]; decide)))
      · exact Or.inr (Or.inr (Or.inr (fun w => (ofF_w hBs).mp (h6.symm.trans w) (eF.mp q))))
      · exact Or.inl (by rw [h3, b2i_t (eN.mp q)]; decide)
      · exact Or.inr (Or.inl (by rw [h4, b2i_t (eP.mp q)]; decide))
    by_cases c3 : dep = 5
    · rw [cI_t c3] at e; cases e
      exact k_pC1 hS0 hl hl5 hs c3 (KQ_wr (by decide) hs hf0)
    · rw [cI_f c3] at e
      refine k_pC2 hS0 hl hl5 hs (by omega) (fun x7 h2 e7 e8 hs2 => ?_)
      by_cases c4 : notP (tkT ch len) s
      · rw [cI_t c4] at e
        obtain ⟨s1, e1, e2⟩ := Option.map_eq_some_iff.mp e
        have g1 := pJ_go hB hE k _ _ (nx1 s) s1 hkn.1 hkn.2.1 e1
        have hq1 : s1.2.2.length < 1000 := by
          have a : s1.2.2.length + (s.1 + 1) ≤ s1.1 + s.2.2.length := g1.2.2.2.1
          have b := g1.2.1
          omega
        refine k_pE3 (s := nx1 s) (s1 := s1) hS0 hl hl5 hs2 (by rw [h3, b2i_t (eN.mp c4)]; decide) (M_d (by omega) (ihP (d + 5) (dep + 1) (nx1 s) s1 h2 (by omega) hs2 hf0 hkn e1)) hq1 (fun v h3 q => ?_)
        rw [← e2]; exact q
      · rw [cI_f c4] at e
        have z3 : x3 = 0 := by rw [h3]; exact b2i_f (fun q => c4 (eN.mpr q))
        by_cases c5 : parP (tkT ch len) s
        · rw [cI_t c5] at e
          obtain ⟨s1, e1, e2⟩ := Option.map_eq_some_iff.mp e
          refine k_pE4 (s := nx1 s) (s1 := s1) hS0 hl hl5 hs2 z3 (by rw [h4, b2i_t (eP.mp c5)]; decide) (M_d (by omega) (ihJ d 0 (dep + 1) (nx1 s) s1 h2 (by omega) (by omega) hs2 hf0 hkn e1)) (fun v h3 q => ?_)
          rw [← e2]; exact q
        · rw [cI_f c5] at e
          have z4 : x4 = 0 := by rw [h4]; exact b2i_f (fun q => c5 (eP.mpr q))
          by_cases c6 : numP (tkT ch len) s
          · rw [cI_t c6] at e; cases e
            exact k_pE5 (s := nx1 s) (q := 0) (a := 1) (b := (tkT ch len s.1).2.2.1) hS0 hl hl5 hs2 z3 z4 (e8 (by rw [h5, b2i_t (show (tkT ch len s.1).1 = 2 from c6)]; decide) c6) (show s.2.2.length < 1000 by omega) (fun q => KQ_t hf0 q)
          · rw [cI_f c6] at e; cases e
            have c7 : facP (tkT ch len) s := by
              rcases c2' with q | q | q | q
              · exact absurd q c6
              · exact q
              · exact absurd q c4
              · exact absurd q c5
            have h7 : x7 = stp (2, (tkT ch len s.1).2.2.1 - 19) := by
              rw [e7 (by rw [h5]; exact b2i_f c6), h6]
              show _ = ofF ((tkT ch len s.1).2.2.1 - 19 + 19)
              rw [Nat.sub_add_cancel c7.2.2.1]
              unfold kyN
              rw [if_pos c7.2.1]
            exact k_pE5 (s := nx1 s) (q := 0) (a := 2) (b := (tkT ch len s.1).2.2.1 - 19) hS0 hl hl5 hs2 z3 z4 h7 (show s.2.2.length < 1000 by omega) (fun q => KQ_t hf0 q)
theorem KQ_same {h0 : AHP} {l : Nat} {ch : Nat → Nat} {len k lev dep : Nat} {s1 s2 : St} (hf : ¬ s1.2.1 = 0) (e : pJ (tkT ch len) k (10 + lev) dep s1 = some s2) : s2 = s1 := by
  cases k with
  | zero => cases e
  | succ k =>
    rw [pJ_o, cI_f (fun q => hf (opP_in q).1)] at e
    cases e
    rfl
theorem kj_loop {h0 : AHP} {l : Nat} {ch : Nat → Nat} {len n k : Nat} (hS0 : Std h0) (hl : (lay l).1 = 4) (hl5 : 5 ≤ l) (hE : (tkT ch len n).1 = 0) (hB : ∀ j, TKb (tkT ch len j)) (hn : n ≤ 1000) (ihJ : CK h0 l ch len n k) (ihL : CLo h0 l ch len n k) : CLo h0 l ch len n (k + 1) := by
  intro d lev dep i s s2 h x6 hl3 hl1 hd hi hs hf0 hk e
  rw [pJ_o] at e
  by_cases hop : opP (tkT ch len) lev s
  · rw [cI_t hop] at e
    obtain ⟨s1, e1, e2⟩ := Option.bind_eq_some_iff.mp e
    rw [if_neg (by omega)] at e2
    have h0' := opP_in hop
    have hkn := okR_n1 hE hk h0'.2
    have hlt : s.1 < n := hkn.1
    have hsl : s.2.2.length ≤ s.1 := hk.2.2
    have g1 := pJ_go hB hE k _ dep (nx1 s) s1 hkn.1 hkn.2.1 e1
    have ga : s1.2.2.length + (s.1 + 1) ≤ s1.1 + s.2.2.length := g1.2.2.2.1
    have gb := g1.2.1
    have gc : s.1 + 1 ≤ s1.1 := g1.1
    have hk2 : okR (tkT ch len) n (emS (opC (tkT ch len) lev s) 0 s1) := okR_go hk (goS_nx hE hk.1 h0'.2 h0'.1 g1).1
    refine k_jY (d := d + (5 - dep) * 6 + (4 - lev)) (mo := 1000) (s1 := s1) hS0 hl hl5 hs hl3 (by omega) (by omega) hf0 hop (fun h2 hs2 => M_d (by omega) (ihJ d (lev + 1) dep (nx1 s) s1 h2 (by omega) hd hs2 hf0 hkn e1)) (by omega) (fun hf h2 q => ?_) (fun h2 x6 hf hs2 => ?_)
    · have e3 := KQ_same (h0 := h0) (l := l) (show ¬ (emS (opC (tkT ch len) lev s) 0 s1).2.1 = 0 from hf) e2
      rw [e3]
      exact KQ_f (s1 := s1) rfl hf (q.2.2 hf).1 (q.2.2 hf).2
    · exact ihL d lev dep (i + 1) (emS (opC (tkT ch len) lev s) 0 s1) s2 h2 _ hl3 hl1 hd (show i + 1 ≤ s1.1 by omega) hs2 hf hk2 e2
  · rw [cI_f hop] at e
    cases e
    exact k_jN hS0 hl hl5 hs hl3 hf0 hop (KQ_t hf0 hs)
theorem kj_join {h0 : AHP} {l : Nat} {ch : Nat → Nat} {len n k : Nat} (hS0 : Std h0) (hl : (lay l).1 = 4) (hl5 : 5 ≤ l) (hE : (tkT ch len n).1 = 0) (hB : ∀ j, TKb (tkT ch len j)) (hn : n ≤ 1000) (ihJ : CK h0 l ch len n k) (ihL : CLo h0 l ch len n k) (hP : CPt h0 l ch len n (k + 1)) : CK h0 l ch len n (k + 1) := by
  intro d lev dep s s2 h hl4 hd hs hf0 hk e
  by_cases h4 : lev = 4
  · subst h4
    exact k_j4 (d := d + (5 - dep) * 6) hS0 hl hl5 hs (hP d dep s s2 h hd hs hf0 hk e) (fun v h2 q => q)
  · rw [pJ_l (by omega)] at e
    obtain ⟨s1, e1, e2⟩ := Option.bind_eq_some_iff.mp e
    have hk1 := okR_go hk (pJ_go hB hE k _ dep s s1 hk.1 hk.2.1 e1)
    refine k_jA (d := d + (5 - dep) * 6 + (4 - lev)) (s1 := s1) hS0 hl hl5 hs (by omega) (M_d (by omega) (ihJ d (lev + 1) dep s s1 h (by omega) hd hs hf0 hk e1)) (fun hf h2 q => ?_) (fun h2 x4 hf hs2 p1 p2 => ?_)
    · rw [KQ_same (h0 := h0) (l := l) hf e2]; exact q
    · by_cases h1 : lev = 1
      · subst h1
        rw [p1 rfl]
        clear p1 p2
        cases k with
        | zero => cases e2
        | succ k =>
          rw [pJ_o] at e2
          by_cases hop : opP (tkT ch len) 1 s1
          · rw [cI_t hop] at e2
            obtain ⟨s3, e3, e4⟩ := Option.bind_eq_some_iff.mp e2
            rw [if_pos rfl] at e4
            cases e4
            have h0' := opP_in hop
            have hkn := okR_n1 hE hk1 h0'.2
            have hlt : s1.1 < n := hkn.1
            have hsl : s1.2.2.length ≤ s1.1 := hk1.2.2
            have g1 := pJ_go hB hE k _ dep (nx1 s1) s3 hkn.1 hkn.2.1 e3
            have ga : s3.2.2.length + (s1.1 + 1) ≤ s3.1 + s1.2.2.length := g1.2.2.2.1
            have gb := g1.2.1
            refine k_jY (d := d + (5 - dep) * 6 + (4 - 1)) (i := 0) (mo := 1) (s1 := s3) hS0 hl hl5 hs2 (by omega) (by omega) (by omega) hf hop (fun h3 hs3 => M_d (by omega) (ihJ d 2 dep (nx1 s1) s3 h3 (by omega) hd hs3 hf hkn (pJ_up e3))) (by omega) (fun hf3 h3 q => ?_) (fun h3 x6 hf3 hs3 => ?_)
            · exact KQ_f (s1 := s3) rfl hf3 (q.2.2 hf3).1 (q.2.2 hf3).2
            · exact k_j1 hS0 hl hl5 hs3 (KQ_t hf3 hs3)
          · rw [cI_f hop] at e2
            cases e2
            exact k_jN hS0 hl hl5 hs2 (by omega) hf hop (KQ_t hf hs2)
      · rw [p2 h1]
        exact ihL d lev dep 0 s1 s2 h2 none (by omega) h1 hd (Nat.zero_le _) hs2 hf hk1 e2
theorem k_all {h0 : AHP} {l : Nat} {ch : Nat → Nat} {len n : Nat} {k : Nat} (hS0 : Std h0) (hl : (lay l).1 = 4) (hl5 : 5 ≤ l) (hE : (tkT ch len n).1 = 0) (hB : ∀ j, TKb (tkT ch len j)) (hn : n ≤ 1000) : CK h0 l ch len n k ∧ CPt h0 l ch len n k ∧ CLo h0 l ch len n k := by
  induction k with
  | zero =>
    refine ⟨?_, ?_, ?_⟩
    · intro d lev dep s s2 h _ _ _ _ _ e
      cases e
    · intro d dep s s2 h _ _ _ _ e
      cases e
    · intro d lev dep i s s2 h x6 _ _ _ _ _ _ _ e
      cases e
  | succ k ih =>
    have hP := kj_part hS0 hl hl5 hE hB hn ih.1 ih.2.1
    exact ⟨kj_join hS0 hl hl5 hE hB hn ih.1 ih.2.2 hP, hP, kj_loop hS0 hl hl5 hE hB hn ih.1 ih.2.2⟩
/-- the class reads a law -/
theorem c_law {d : Nat} {h0 h : AHP} {l : Nat} {ch : Nat → Nat} {len n : Nat} {s : St} (hS0 : Std h0) (hl : (lay l).1 = 4) (hl5 : 5 ≤ l) (hE : (tkT ch len n).1 = 0) (hB : ∀ j, TKb (tkT ch len j)) (hn : n ≤ 1000) (hs : KS h0 h l ch len s) (hf : s.2.1 = 0) (hk : okR (tkT ch len) n s) : MM (d + 39) 79 [.ref 4, .ref l, .int (nI 0), .int (nI 0)] h (KQ h0 l ch len (lawS (tkT ch len) n s)) :=
  (k_all (k := 8 * n + 8) hS0 hl hl5 hE hB hn).1 d 0 0 s _ h (by decide) (by decide) hs hf hk (lawS_eq hB hE hk.1 hk.2.1)
