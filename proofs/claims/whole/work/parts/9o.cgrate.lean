/-! ===== the class reads a grate: all of it ===== -/
theorem KGs_0 {h k2 : AHP} {g : Nat} {ch : Nat → Nat} {len : Nat} (hg5 : 5 ≤ g) (hV : FV 7 (fs h (g + 3))) (hT : Tf (sI (sI (sI (sI (sI (setF h (g + 3) (clearF (fs h (g + 3)))) (g + 8) 3 0) g 4 0) g 5 5) g 6 0) g 7 0) k2) (hC : CU k2 ch len 0) : KGs h k2 g ch len 0 ([], [], 0, []) := by
  have ra : ∀ a, a ≠ 2 → a ≠ g → a ≠ g + 8 → (a < g + 3 ∨ g + 3 + 5 ≤ a) → k2.1 a = h.1 a := fun a q1 q2 q3 q4 => by rw [hT.2.2.2.1 a q1, sI_ne q2, sI_ne q2, sI_ne q2, sI_ne q2, sI_ne q3, setF_row q4]
  have rg : k2.1 g = (sI (sI (sI (sI (sI (setF h (g + 3) (clearF (fs h (g + 3)))) (g + 8) 3 0) g 4 0) g 5 5) g 6 0) g 7 0).1 g := hT.2.2.2.1 g (by omega)
  refine ⟨⟨hT.1, fun a i q => hT.2.1 a i q, fun a q _ => hT.2.2.1 a q, fun a q1 q2 q3 => ra a q1 (by omega) (by omega) (by omega), ?_⟩, hC, ⟨?_, fun e he => absurd he (Nat.not_lt_zero _), ?_⟩, ⟨?_, fun e he => absurd he (Nat.not_lt_zero _)⟩, ⟨?_, ?_⟩, ⟨?_, fun e he => absurd he (Nat.not_lt_zero _)⟩⟩
  · rw [hT.2.2.2.2, sI_ne (by omega), sI_ne (by omega), sI_ne (by omega), sI_ne (by omega), sI_ne (by omega), setF_row (by omega)]
  · rw [rg, sI_nr (by decide), sI_nr (by decide), sI_nr (by decide), sI_eq]; rfl
  · have e1 : fs k2 (g + 3) = clearF (fs h (g + 3)) := by
      rw [show fs k2 (g + 3) = fs (setF h (g + 3) (clearF (fs h (g + 3)))) (g + 3) from fs_rows fun a q1 q2 => by rw [hT.2.2.2.1 a (by omega), sI_ne (by omega), sI_ne (by omega), sI_ne (by omega), sI_ne (by omega), sI_ne (by omega)], fs_setF]
    rw [e1]
    exact BG_0 hV
  · rw [rg, sI_eq]; rfl
  · rw [rg, sI_nr (by decide), sI_nr (by decide), sI_eq]; rfl
  · rw [rg, sI_nr (by decide), sI_eq]; rfl
  · rw [hT.2.2.2.1 (g + 8) (by omega), sI_ne (by omega), sI_ne (by omega), sI_ne (by omega), sI_ne (by omega), sI_eq]; rfl
theorem cSo_0 : ∀ s, s ≤ 4 → (nI (cSo s) = 0 ↔ s = 0) := by decide +kernel
theorem k_rgE {d : Nat} {h0 h : AHP} {g : Nat} {ch : Nat → Nat} {len i line : Nat} {G : GS} (hS0 : Std h0) (hg : (lay g).1 = 3) (hg5 : 5 ≤ g) (hs : KGs h0 h g ch len i G) (h0' : (tkT ch len i).1 = 0) {Q : Option Value → AHP → Prop} (hq : Q (some (.int 0)) h) : TT (d + 43) 69 13 [some (.ref 4), some (.ref g), some (.int (nI line))] [] h Q := by
  have hS := hs.1.std hS0
  have hC := hs.2.1
  have hB := hC.b i
  refine t_go (op := o_iload 14 2) (fe_X7_readGrate 13) (fun _ _ => rfl) ?_
  refine t_go (op := o_ci 17 1000) (fe_X7_readGrate 14) (fun _ _ => rfl) ?_
  refine t_ite (op := o_icmp 20 49 (fun x y => y ≤ x) (fun _ _ => inferInstance)) (fe_X7_readGrate 17) g_icmp (fun c1 => ?_) (fun c1 => ?_)
  · refine t_go (op := o_ci 50 0) (fe_X7_readGrate 49) (fun _ _ => rfl) ?_
    refine t_ret (op := o_iret) (fe_X7_readGrate 50) (fun _ _ => rfl) ?_
    exact hq
  · refine t_go (op := o_aload 21 0) (fe_X7_readGrate 20) (fun _ _ => rfl) ?_
    refine t_go (op := o_getR 24 6 0) (fe_X7_readGrate 21) (g_getR hS (show (lay 4).1 = 6 by decide) (by decide) (fr_6_0 hS) (by decide)) ?_
    refine t_go (op := o_getI 27 8 2) (fe_X7_readGrate 24) (g_getI hS (by decide) (by decide)) ?_
    rw [show h.1 2 2 = nI (cSo (tkT ch len i).1) from hC.2.2.2.1]
    refine t_ite (op := o_if 30 49 (fun x => x = 0) (fun _ => inferInstance)) (fe_X7_readGrate 27) g_if (fun c2 => ?_) (fun c2 => ?_)
    · refine t_go (op := o_ci 50 0) (fe_X7_readGrate 49) (fun _ _ => rfl) ?_
      refine t_ret (op := o_iret) (fe_X7_readGrate 50) (fun _ _ => rfl) ?_
      exact hq
    · exact absurd ((cSo_0 _ hB.1).mpr h0') c2
theorem k_rgL {d : Nat} {h0 h : AHP} {g : Nat} {ch : Nat → Nat} {len i line : Nat} {G : GS} (hS0 : Std h0) (hg : (lay g).1 = 3) (hg5 : 5 ≤ g) (hs : KGs h0 h g ch len i G) {r : Nat × Nat × GS} (h0' : ¬ (tkT ch len i).1 = 0) (hl : line < 1000) (hM : MM (d + 42) 75 [.ref 4, .ref g] h (KL h0 g ch len r)) {Q : Option Value → AHP → Prop} (hqf : ¬ r.1 = 0 → ∀ h2, KGF h0 h2 g r.1 → Q (some (.int (nI r.1))) h2) (hq : r.1 = 0 → ∀ h2, KGs h0 h2 g ch len r.2.1 r.2.2 → TT (d + 43) 69 13 [some (.ref 4), some (.ref g), some (.int (nI (line + 1)))] [] h2 Q) : TT (d + 43) 69 13 [some (.ref 4), some (.ref g), some (.int (nI line))] [] h Q := by
  have hS := hs.1.std hS0
  have hC := hs.2.1
  have hB := hC.b i
  refine t_go (op := o_iload 14 2) (fe_X7_readGrate 13) (fun _ _ => rfl) ?_
  refine t_go (op := o_ci 17 1000) (fe_X7_readGrate 14) (fun _ _ => rfl) ?_
  refine t_ite (op := o_icmp 20 49 (fun x y => y ≤ x) (fun _ _ => inferInstance)) (fe_X7_readGrate 17) g_icmp (fun c1 => ?_) (fun c1 => ?_)
  · exact absurd c1 (nI_ge hl (by decide))
  · refine t_go (op := o_aload 21 0) (fe_X7_readGrate 20) (fun _ _ => rfl) ?_
    refine t_go (op := o_getR 24 6 0) (fe_X7_readGrate 21) (g_getR hS (show (lay 4).1 = 6 by decide) (by decide) (fr_6_0 hS) (by decide)) ?_
    refine t_go (op := o_getI 27 8 2) (fe_X7_readGrate 24) (g_getI hS (by decide) (by decide)) ?_
    rw [show h.1 2 2 = nI (cSo (tkT ch len i).1) from hC.2.2.2.1]
    refine t_ite (op := o_if 30 49 (fun x => x = 0) (fun _ => inferInstance)) (fe_X7_readGrate 27) g_if (fun c2 => ?_) (fun c2 => ?_)
    · exact absurd ((cSo_0 _ hB.1).mp c2) h0'
    · refine t_go (op := o_aload 31 0) (fe_X7_readGrate 30) (fun _ _ => rfl) ?_
      refine t_go (op := o_aload 32 1) (fe_X7_readGrate 31) (fun _ _ => rfl) ?_
      refine t_call (op := o_callV 35 75 2 6) (fe_X7_readGrate 32) (g_callV hS (show (lay 4).1 = 6 by decide) (by decide) rfl rfl rfl (Nat.le_of_ble_eq_true rfl)) ?_
      refine M_mono ?_ hM
      rintro _ k3 ⟨rfl, hy, hno⟩
      refine t_ite (op := o_if 43 38 (fun x => x = 0) (fun _ => inferInstance)) (fe_X7_readGrate 35) g_if (fun c3 => ?_) (fun c3 => ?_)
      · replace c3 := b2i_z c3
        have hz := hno c3
        replace hS := hz.1.std hS0
        refine t_go (op := o_aload 39 0) (fe_X7_readGrate 38) (fun _ _ => rfl) ?_
        refine t_go (op := o_getI 42 6 1) (fe_X7_readGrate 39) (g_getI hS (show (lay 4).1 = 6 by decide) (by decide)) ?_
        rw [hz.2.1]
        refine t_ret (op := o_iret) (fe_X7_readGrate 42) (fun _ _ => rfl) ?_
        exact hqf c3 _ hz
      · replace c3 := b2i_nn c3
        refine t_go (op := o_iinc 46 2 1) (fe_X7_readGrate 43) (fun _ _ => rfl) ?_
        refine t_go (op := o_goto 13) (fe_X7_readGrate 46) (fun _ _ => rfl) ?_
        rw [nI_1]
        exact hq c3 _ (hy c3)
theorem k_lines {d : Nat} {h0 : AHP} {g : Nat} {ch : Nat → Nat} {len n : Nat} (hS0 : Std h0) (hg : (lay g).1 = 3) (hg5 : 5 ≤ g) (hE : (tkT ch len n).1 = 0) (hB : ∀ j, TKb (tkT ch len j)) (hn : n ≤ 1000) {Q : Option Value → AHP → Prop} : ∀ (k i line : Nat) (G : GS) (h : AHP), n - i < k → i ≤ n → line ≤ i → gOK G → KGs h0 h g ch len i G → ((gRun (tkT ch len) n k i G).1 = 0 → ∀ h2 i2, KGs h0 h2 g ch len i2 (gRun (tkT ch len) n k i G).2 → gOK (gRun (tkT ch len) n k i G).2 → Q (some (.int 0)) h2) → (¬ (gRun (tkT ch len) n k i G).1 = 0 → ∀ h2, KGF h0 h2 g (gRun (tkT ch len) n k i G).1 → Q (some (.int (nI (gRun (tkT ch len) n k i G).1))) h2) → TT (d + 43) 69 13 [some (.ref 4), some (.ref g), some (.int (nI line))] [] h Q := by
  intro k
  induction k with
  | zero => intro i line G h h1; omega
  | succ k ih =>
    intro i line G h hk hi hl hG hs hq0 hq1
    rw [gRun] at hq0 hq1
    by_cases c1 : (tkT ch len i).1 = 0
    · rw [cI_t c1] at hq0
      exact k_rgE hS0 hg hg5 hs c1 (hq0 rfl h i hs hG)
    rw [cI_f c1] at hq0 hq1
    have hlt := lt_end hE hi c1
    refine k_rgL hS0 hg hg5 hs c1 (by omega) (k_grateLine hS0 hg hg5 hs hG hE hB hn hi c1) (fun hF h2 q => ?_) (fun hF h2 hs2 => ?_)
    · rw [cI_f hF] at hq1
      exact hq1 hF h2 q
    · rw [cI_t hF] at hq0 hq1
      have g1 := gL_go hB hE hn hi c1 hG hF
      exact ih _ _ _ h2 (by omega) g1.2.1 (by omega) g1.2.2 hs2 hq0 hq1
theorem k_readGrate {d : Nat} {h : AHP} {g : Nat} {ch : Nat → Nat} {len n : Nat} {Q : Option Value → AHP → Prop} (hS : Std h) (hg : (lay g).1 = 3) (hg5 : 5 ≤ g) (hV : FV 7 (fs h (g + 3))) (h1 : CHr (h.1 3) ch len) (h2' : len ≤ 1000) (h3 : h.1 2 1 = nI len) (hE : (tkT ch len n).1 = 0) (hB : ∀ j, TKb (tkT ch len j)) (hn : n ≤ 1000) (hq0 : (gRun (tkT ch len) n (n + 1) 0 ([], [], 0, [])).1 = 0 → ∀ h2 i2, KGs h h2 g ch len i2 (gRun (tkT ch len) n (n + 1) 0 ([], [], 0, [])).2 → gOK (gRun (tkT ch len) n (n + 1) 0 ([], [], 0, [])).2 → Q (some (.int 0)) h2) (hq1 : ¬ (gRun (tkT ch len) n (n + 1) 0 ([], [], 0, [])).1 = 0 → ∀ h2, KGF h h2 g (gRun (tkT ch len) n (n + 1) 0 ([], [], 0, [])).1 → Q (some (.int (nI (gRun (tkT ch len) n (n + 1) 0 ([], [], 0, [])).1))) h2) : MM (d + 43) 69 [.ref 4, .ref g] h (fun v h2 => Q v h2) := by
  refine ⟨Nat.le_of_ble_eq_true rfl, ?_⟩
  refine t_go (op := o_aload 1 1) (fe_X7_readGrate 0) (fun _ _ => rfl) ?_
  refine t_call (op := o_callV 4 50 1 3) (fe_X7_readGrate 1) (g_callV hS hg (by decide) rfl rfl rfl (Nat.le_of_ble_eq_true rfl)) ?_
  refine M_eq (c_forget hS hg) ?_
  refine t_go (op := o_aload 5 0) (fe_X7_readGrate 4) (fun _ _ => rfl) ?_
  refine t_go (op := o_getR 8 6 0) (fe_X7_readGrate 5) (g_getR hS (show (lay 4).1 = 6 by decide) (by decide) (fr_6_0 hS) (by decide)) ?_
  refine t_call (op := o_callV 11 96 1 8) (fe_X7_readGrate 8) (g_callV hS (by decide) (by decide) rfl rfl rfl (Nat.le_of_ble_eq_true rfl)) ?_
  refine M_mono ?_ (c_toFirst (h := sI (sI (sI (sI (sI (setF h (g + 3) (clearF (fs h (g + 3)))) (g + 8) 3 0) g 4 0) g 5 5) g 6 0) g 7 0) hS (ch := ch) (len := len) ?_ h2' ?_)
  rotate_left
  · rw [sI_ne (by omega), sI_ne (by omega), sI_ne (by omega), sI_ne (by omega), sI_ne (by omega), setF_row (by omega)]; exact h1
  · rw [sI_ne (by omega), sI_ne (by omega), sI_ne (by omega), sI_ne (by omega), sI_ne (by omega), setF_row (by omega)]; exact h3
  rintro _ k2 ⟨rfl, hT, hC⟩
  have hs0 := KGs_0 hg5 hV hT hC
  refine t_go (op := o_ci 12 0) (fe_X7_readGrate 11) (fun _ _ => rfl) ?_
  refine t_go (op := o_istore 13 2) (fe_X7_readGrate 12) (fun _ _ => rfl) ?_
  exact k_lines hS hg hg5 hE hB hn (n + 1) 0 0 _ k2 (by omega) (Nat.zero_le _) (Nat.le_refl _) gOK_0 hs0 hq0 hq1
/-! ===== EmberLand.grate ===== -/
theorem Std_sR7 {h : AHP} {i v : Nat} (hi : i = 7 ∨ i = 8 ∨ i = 9 ∨ i = 10) (hS : Std h) : Std (sR h 1 i v) := by
  have hf : ∀ q ∈ finL, ¬ (q.1 = 1 ∧ (q.2.1 = 7 ∨ q.2.1 = 8 ∨ q.2.1 = 9 ∨ q.2.1 = 10)) := by decide +kernel
  refine ⟨hS.1, fun q hq => ?_⟩
  have h1 := hf q hq
  show up2 h.2.2.1 1 i v q.1 q.2.1 = q.2.2
  unfold up2
  by_cases q1 : q.1 = 1
  · rw [if_pos q1, if_neg (fun w => h1 ⟨q1, by omega⟩)]
    exact hS.2 q hq
  · rw [if_neg q1]
    exact hS.2 q hq
theorem sR_eq {h : AHP} {a i v : Nat} : (sR h a i v).2.2.1 a i = v := by simp [sR, up2]
theorem sR_nr {h : AHP} {a i j v : Nat} (q : j ≠ i) : (sR h a i v).2.2.1 a j = h.2.2.1 a j := by simp [sR, up2, q]
theorem sR_ne {h : AHP} {a b i j v : Nat} (q : b ≠ a) : (sR h a i v).2.2.1 b j = h.2.2.1 b j := by simp [sR, up2, q]
theorem c_evForget {d : Nat} {h : AHP} {e : Nat} (hS : Std h) (he : (lay e).1 = 0) : MM d 3 [.ref e] h (fun v h2 => v = none ∧ h2 = sI h e 3 0) := by
  refine ⟨Nat.le_of_ble_eq_true rfl, ?_⟩
  refine t_go (op := o_aload 1 0) (fe_X0_forget 0) (fun _ _ => rfl) ?_
  refine t_go (op := o_ci 2 0) (fe_X0_forget 1) (fun _ _ => rfl) ?_
  refine t_go (op := o_putI 5 0 3) (fe_X0_forget 2) (g_putI hS he (by decide)) ?_
  refine t_ret (op := o_vret) (fe_X0_forget 5) (fun _ _ => rfl) ?_
  exact ⟨rfl, rfl⟩
theorem c_empty {d : Nat} {h : AHP} (hS : Std h) : MM d 95 [.ref 2] h (fun v h2 => v = none ∧ h2 = sI h 2 1 0) := by
  refine ⟨Nat.le_of_ble_eq_true rfl, ?_⟩
  refine t_go (op := o_aload 1 0) (fe_X9_empty 0) (fun _ _ => rfl) ?_
  refine t_go (op := o_ci 2 0) (fe_X9_empty 1) (fun _ _ => rfl) ?_
  refine t_go (op := o_putI 5 8 1) (fe_X9_empty 2) (g_putI hS (show (lay 2).1 = 8 by decide) (by decide)) ?_
  refine t_ret (op := o_vret) (fe_X9_empty 5) (fun _ _ => rfl) ?_
  exact ⟨rfl, rfl⟩
theorem c_beginAnew {d : Nat} {h : AHP} {g e : Nat} (hS : Std h) (hz : NZ h) (hg : (lay g).1 = 3) (hg7 : h.2.2.1 1 7 = g) (he : (lay e).1 = 0) (he9 : h.2.2.1 1 9 = e) : MM (d + 2) 149 [.ref 1] h (fun v h2 => v = none ∧ h2 = (it unlS 4 0 (sI (sI (sI (setF h 5 (fs h (g + 3))) e 3 0) 10 3 0) 14 5 0))) := by
  refine ⟨Nat.le_of_ble_eq_true rfl, ?_⟩
  have hgi := grate_scr hg
  have hei := even_id he
  have hnz := NZ_F hS hz (f := g + 3) (lay_fst (ly_3_3 hg))
  have hn5 := NZ_F hS hz (f := 5) (by decide)
  refine t_go (op := o_aload 1 0) (fe_X11_beginAnew 0) (fun _ _ => rfl) ?_
  refine t_go (op := o_getR 4 10 2) (fe_X11_beginAnew 1) (g_getR hS (show (lay 1).1 = 10 by decide) (by decide) (fr_10_2 hS) (by decide)) ?_
  refine t_go (op := o_aload 5 0) (fe_X11_beginAnew 4) (fun _ _ => rfl) ?_
  refine t_go (op := o_getR 8 10 7) (fe_X11_beginAnew 5) (g_getR hS (show (lay 1).1 = 10 by decide) (by decide) hg7 (by omega)) ?_
  refine t_go (op := o_getR 11 3 2) (fe_X11_beginAnew 8) (g_getR hS hg (by decide) (fr_3_2 hS hg) (Nat.succ_pos _)) ?_
  refine t_call (op := o_callV 14 7 2 1) (fe_X11_beginAnew 11) (g_callV hS (by decide) (by decide) rfl rfl rfl (Nat.le_of_ble_eq_true rfl)) ?_
  refine M_eq (M_heap (h' := setF h 5 (fs h 5)) setF_fs (m_become hS (by decide) (lay_fst (ly_3_3 hg)) (by omega) hnz.2)) ?_
  rw [bec_eq hn5.1 hnz.1]
  refine t_go (op := o_aload 15 0) (fe_X11_beginAnew 14) (fun _ _ => rfl) ?_
  refine t_go (op := o_getR 18 10 9) (fe_X11_beginAnew 15) (g_getR hS (show (lay 1).1 = 10 by decide) (by decide) he9 (by omega)) ?_
  refine t_call (op := o_callV 21 3 1 0) (fe_X11_beginAnew 18) (g_callV hS he (by decide) rfl rfl rfl (Nat.le_of_ble_eq_true rfl)) ?_
  refine M_eq (c_evForget (h := setF h 5 (fs h (g + 3))) hS he) ?_
  refine t_go (op := o_aload 22 0) (fe_X11_beginAnew 21) (fun _ _ => rfl) ?_
  refine t_go (op := o_getR 25 10 3) (fe_X11_beginAnew 22) (g_getR hS (show (lay 1).1 = 10 by decide) (by decide) (fr_10_3 hS) (by decide)) ?_
  refine t_call (op := o_callV 28 106 1 9) (fe_X11_beginAnew 25) (g_callV hS (by decide) (by decide) rfl rfl rfl (Nat.le_of_ble_eq_true rfl)) ?_
  refine M_eq (m_toldForget (h := sI (setF h 5 (fs h (g + 3))) e 3 0) hS (by decide)) ?_
  refine t_go (op := o_aload 29 0) (fe_X11_beginAnew 28) (fun _ _ => rfl) ?_
  refine t_go (op := o_getR 32 10 4) (fe_X11_beginAnew 29) (g_getR hS (show (lay 1).1 = 10 by decide) (by decide) (fr_10_4 hS) (by decide)) ?_
  refine t_call (op := o_callV 35 67 1 5) (fe_X11_beginAnew 32) (g_callV hS (by decide) (by decide) rfl rfl rfl (Nat.le_of_ble_eq_true rfl)) ?_
  refine M_eq (m_pastForget (h := sI (sI (setF h 5 (fs h (g + 3))) e 3 0) 10 3 0) hS) ?_
  refine t_ret (op := o_vret) (fe_X11_beginAnew 35) (fun _ _ => rfl) ?_
  exact ⟨rfl, rfl⟩
theorem unl_r {h : AHP} {a : Nat} (ha : a ≠ 18) : ∀ (j i : Nat) (S : AHP), S.1 a = h.1 a → (it unlS j i S).1 a = h.1 a := by
  intro j
  induction j with
  | zero => intro i S e; exact e
  | succ j ih => intro i S e; rw [it_step]; exact ih (i + 1) _ ((sI_ne ha).trans e)
theorem unl_2 : ∀ (j i : Nat) (S : AHP), (it unlS j i S).2 = S.2 := by
  intro j
  induction j with
  | zero => intro i S; rfl
  | succ j ih => intro i S; rw [it_step]; exact ih (i + 1) _
theorem unl_18 {S : AHP} {q : Nat} (hq : q < 4) : (it unlS 4 0 S).1 18 q = 0 := by
  show (sI (sI (sI (sI S 18 0 0) 18 1 0) 18 2 0) 18 3 0).1 18 q = 0
  rcases (show q = 0 ∨ q = 1 ∨ q = 2 ∨ q = 3 by omega) with e | e | e | e
  · subst e; rw [sI_nr (by decide), sI_nr (by decide), sI_nr (by decide), sI_eq]
  · subst e; rw [sI_nr (by decide), sI_nr (by decide), sI_eq]
  · subst e; rw [sI_nr (by decide), sI_eq]
  · subst e; rw [sI_eq]
theorem c_grateF {d : Nat} {h : AHP} {g g2 e F : Nat} (hS : Std h) (h8 : h.2.2.1 1 8 = g2) (hg2 : (lay g2).1 = 3) (hF : ¬ nI F = 0) {P : AHP → Prop} (hM : MM (d + 43) 69 [.ref 4, .ref g2] h (fun v h2 => v = some (.int (nI F)) ∧ Std h2 ∧ P h2)) : MM (d + 44) 110 [.ref 1] h (fun v h2 => v = some (.int (nI F)) ∧ ∃ h1, P h1 ∧ h2 = sI h1 2 1 0) := by
  refine ⟨Nat.le_of_ble_eq_true rfl, ?_⟩
  have hgi2 := grate_scr hg2
  refine t_go (op := o_aload 1 0) (fe_X11_grate 0) (fun _ _ => rfl) ?_
  refine t_go (op := o_getR 4 10 1) (fe_X11_grate 1) (g_getR hS (show (lay 1).1 = 10 by decide) (by decide) (fr_10_1 hS) (by decide)) ?_
  refine t_go (op := o_aload 5 0) (fe_X11_grate 4) (fun _ _ => rfl) ?_
  refine t_go (op := o_getR 8 10 8) (fe_X11_grate 5) (g_getR hS (show (lay 1).1 = 10 by decide) (by decide) h8 (by omega)) ?_
  refine t_call (op := o_callV 11 69 2 6) (fe_X11_grate 8) (g_callV hS (by decide) (by decide) rfl rfl rfl (Nat.le_of_ble_eq_true rfl)) ?_
  refine M_mono ?_ hM
  rintro _ k1 ⟨rfl, hS1, hP⟩
  replace hS := hS1
  refine t_go (op := o_istore 12 1) (fe_X11_grate 11) (fun _ _ => rfl) ?_
  refine t_go (op := o_aload 13 0) (fe_X11_grate 12) (fun _ _ => rfl) ?_
  refine t_go (op := o_getR 16 10 0) (fe_X11_grate 13) (g_getR hS (show (lay 1).1 = 10 by decide) (by decide) (fr_10_0 hS) (by decide)) ?_
  refine t_call (op := o_callV 19 95 1 8) (fe_X11_grate 16) (g_callV hS (by decide) (by decide) rfl rfl rfl (Nat.le_of_ble_eq_true rfl)) ?_
  refine M_eq (c_empty hS) ?_
  refine t_go (op := o_iload 20 1) (fe_X11_grate 19) (fun _ _ => rfl) ?_
  refine t_ite (op := o_if 45 23 (fun x => x = 0) (fun _ => inferInstance)) (fe_X11_grate 20) g_if (fun c1 => ?_) (fun c1 => ?_)
  · exact absurd c1 hF
  · refine t_go (op := o_iload 46 1) (fe_X11_grate 45) (fun _ _ => rfl) ?_
    refine t_ret (op := o_iret) (fe_X11_grate 46) (fun _ _ => rfl) ?_
    exact ⟨rfl, _, hP, rfl⟩
theorem NZ_sR {h : AHP} {a i v : Nat} (hz : NZ h) : NZ (sR h a i v) := hz
theorem c_grateY {d : Nat} {h : AHP} {g g2 e F : Nat} (hS : Std h) (h8 : h.2.2.1 1 8 = g2) (hg2 : (lay g2).1 = 3) (hg : (lay g).1 = 3) (he : (lay e).1 = 0) {P : AHP → Prop} (hM : MM (d + 43) 69 [.ref 4, .ref g2] h (fun v h2 => v = some (.int 0) ∧ Std h2 ∧ NZ h2 ∧ h2.2.2.1 1 7 = g ∧ h2.2.2.1 1 8 = g2 ∧ h2.2.2.1 1 9 = e ∧ P h2)) : MM (d + 44) 110 [.ref 1] h (fun v h2 => v = some (.int 0) ∧ ∃ h1, P h1 ∧ h2 = it unlS 4 0 (sI (sI (sI (setF (sR (sR (sI h1 2 1 0) 1 8 g) 1 7 g2) 5 (fs h1 (g2 + 3))) e 3 0) 10 3 0) 14 5 0)) := by
  refine ⟨Nat.le_of_ble_eq_true rfl, ?_⟩
  have hgi2 := grate_scr hg2
  have hgi := grate_scr hg
  refine t_go (op := o_aload 1 0) (fe_X11_grate 0) (fun _ _ => rfl) ?_
  refine t_go (op := o_getR 4 10 1) (fe_X11_grate 1) (g_getR hS (show (lay 1).1 = 10 by decide) (by decide) (fr_10_1 hS) (by decide)) ?_
  refine t_go (op := o_aload 5 0) (fe_X11_grate 4) (fun _ _ => rfl) ?_
  refine t_go (op := o_getR 8 10 8) (fe_X11_grate 5) (g_getR hS (show (lay 1).1 = 10 by decide) (by decide) h8 (by omega)) ?_
  refine t_call (op := o_callV 11 69 2 6) (fe_X11_grate 8) (g_callV hS (by decide) (by decide) rfl rfl rfl (Nat.le_of_ble_eq_true rfl)) ?_
  refine M_mono ?_ hM
  rintro _ k1 ⟨rfl, hS1, hz1, q7, q8, q9, hP⟩
  replace hS := hS1
  refine t_go (op := o_istore 12 1) (fe_X11_grate 11) (fun _ _ => rfl) ?_
  refine t_go (op := o_aload 13 0) (fe_X11_grate 12) (fun _ _ => rfl) ?_
  refine t_go (op := o_getR 16 10 0) (fe_X11_grate 13) (g_getR hS (show (lay 1).1 = 10 by decide) (by decide) (fr_10_0 hS) (by decide)) ?_
  refine t_call (op := o_callV 19 95 1 8) (fe_X11_grate 16) (g_callV hS (by decide) (by decide) rfl rfl rfl (Nat.le_of_ble_eq_true rfl)) ?_
  refine M_eq (c_empty hS) ?_
  refine t_go (op := o_iload 20 1) (fe_X11_grate 19) (fun _ _ => rfl) ?_
  refine t_ite (op := o_if 45 23 (fun x => x = 0) (fun _ => inferInstance)) (fe_X11_grate 20) g_if (fun c1 => ?_) (fun c1 => ?_)
  · refine t_go (op := o_aload 24 0) (fe_X11_grate 23) (fun _ _ => rfl) ?_
    refine t_go (op := o_getR 27 10 8) (fe_X11_grate 24) (g_getR hS (show (lay 1).1 = 10 by decide) (by decide) q8 (by omega)) ?_
    refine t_go (op := o_astore 28 2) (fe_X11_grate 27) (fun _ _ => rfl) ?_
    refine t_go (op := o_aload 29 0) (fe_X11_grate 28) (fun _ _ => rfl) ?_
    refine t_go (op := o_aload 30 0) (fe_X11_grate 29) (fun _ _ => rfl) ?_
    refine t_go (op := o_getR 33 10 7) (fe_X11_grate 30) (g_getR hS (show (lay 1).1 = 10 by decide) (by decide) q7 (by omega)) ?_
    refine t_go (op := o_putR 36 10 8) (fe_X11_grate 33) (g_putR hS (show (lay 1).1 = 10 by decide) (by decide) (by omega)) ?_
    replace hS := Std_sR7 (h := sI k1 2 1 0) (i := 8) (v := g) (by decide) hS
    refine t_go (op := o_aload 37 0) (fe_X11_grate 36) (fun _ _ => rfl) ?_
    refine t_go (op := o_aload 38 2) (fe_X11_grate 37) (fun _ _ => rfl) ?_
    refine t_go (op := o_putR 41 10 7) (fe_X11_grate 38) (g_putR hS (show (lay 1).1 = 10 by decide) (by decide) (by omega)) ?_
    replace hS := Std_sR7 (h := sR (sI k1 2 1 0) 1 8 g) (i := 7) (v := g2) (by decide) hS
    refine t_go (op := o_aload 42 0) (fe_X11_grate 41) (fun _ _ => rfl) ?_
    refine t_call (op := o_callV 45 149 1 10) (fe_X11_grate 42) (g_callV hS (show (lay 1).1 = 10 by decide) (by decide) rfl rfl rfl (Nat.le_of_ble_eq_true rfl)) ?_
    refine M_eq (c_beginAnew (h := (sR (sR (sI k1 2 1 0) 1 8 g) 1 7 g2)) (g := g2) (e := e) hS ?_ hg2 sR_eq he ?_) ?_
    · exact NZ_sR (NZ_sR (NZ_putI hz1 (okc_s (h := k1) (a := 2) (c := 8) hS1 (by decide) (by decide)) (by decide)))
    · rw [sR_nr (by decide), sR_nr (by decide)]; exact q9
    refine t_go (op := o_iload 46 1) (fe_X11_grate 45) (fun _ _ => rfl) ?_
    refine t_ret (op := o_iret) (fe_X11_grate 46) (fun _ _ => rfl) ?_
    exact ⟨rfl, k1, hP, by rw [show fs (sR (sR (sI k1 2 1 0) 1 8 g) 1 7 g2) (g2 + 3) = fs k1 (g2 + 3) from fs_rows fun a q1 q2 => (show (sI k1 2 1 0).1 a = k1.1 a from sI_ne (by omega))]⟩
  · exact absurd rfl c1
