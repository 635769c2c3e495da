/-! ===== the class reads an evening: lines ===== -/
theorem k_vsg {d : Nat} {h0 h : AHP} {e g : Nat} {ch : Nat → Nat} {len i m : Nat} {W : Nat → List Nat} {L : ES} (hS0 : Std h0) (he : (lay e).1 = 0) (he5 : 5 ≤ e) (hg : (lay g).1 = 3) (hg5 : 5 ≤ g) (hge : g + 12 < e) (hK0 : NK h0 g W m) (hs : KVs h0 h e ch len i L) {a ix x : Nat} {y z : Int32} {Q : Option Value → AHP → Prop} (hz1 : ¬ z = -1) (h40 : L.length < 40) (hy : 1 ≤ a → a ≤ 3 → y = nI ix ∧ z = nI x) (hq : ∀ v h2, KW_ h0 e ch len (sgF (tkT ch len) i, i + 1, L ++ [(a, ix, x)]) v h2 → Q v h2) : TT (d + 5) 83 103 [some (.ref 4), some (.ref e), some (.ref g), some (.int (nI a)), some (.int y), some (.int z)] [] h Q := by
  by_cases hw : isS (tkT ch len) 59 i 0
  · exact k_vY hS0 he he5 hg hg5 hge hK0 hs hz1 hw h40 hy (fun h2 q => hq _ _ (KW_t (cI_t hw) q))
  · exact k_vN hS0 he he5 hg hg5 hge hK0 hs hz1 hw (fun h2 q => hq _ _ (KW_f (cI_f hw) (wrF_p (by decide)) q))
theorem k_eveningLine {d : Nat} {h0 h : AHP} {e g : Nat} {ch : Nat → Nat} {len i m : Nat} {W : Nat → List Nat} {L : ES} (hS0 : Std h0) (he : (lay e).1 = 0) (he5 : 5 ≤ e) (hg : (lay g).1 = 3) (hg5 : 5 ≤ g) (hge : g + 12 < e) (hK0 : NK h0 g W m) (hs : KVs h0 h e ch len i L) (hL : vOK m L) : MM (d + 5) 83 [.ref 4, .ref e, .ref g] h (KW_ h0 e ch len (vL W m (tkT ch len) i L)) := by
  unfold vL
  by_cases c1 : ¬ whP (tkT ch len) 7 i 0 5
  · rw [cI_t c1]
    exact k_v1 hS0 he he5 hg hg5 hge hK0 hs c1 (fun h2 q => KW_f rfl (wrF_p (by decide)) q)
  rw [cI_f c1]
  have c1' := Classical.not_not.mp c1
  have c5 := c1'.2.2
  by_cases c2 : L.length = 40
  · rw [cI_t c2]
    exact k_v5 hS0 he he5 hg hg5 hge hK0 hs c1' c2 (fun h2 q => KW_f rfl (wrF_p (by decide)) q)
  rw [cI_f c2]
  have h40 : L.length < 40 := by have := hL.1; omega
  by_cases c3 : (tkT ch len i).2.2.1 = 7 ∨ (tkT ch len i).2.2.1 = 11
  · rw [cI_t c3]
    rcases c3 with q | q
    · rw [show (tkT ch len i).2.2.1 - 7 = 0 by omega]
      exact k_q0 hS0 he he5 hg hg5 hge hK0 hs h40 ⟨rfl, c1'.2.1, q⟩ (fun h2 hs1 => k_vsg (a := 0) (ix := 0) (x := 0) hS0 he he5 hg hg5 hge hK0 hs1 (by decide) h40 (fun w => absurd w (by decide)) (fun v h3 q => q))
    · rw [show (tkT ch len i).2.2.1 - 7 = 4 by omega]
      exact k_q4 hS0 he he5 hg hg5 hge hK0 hs h40 ⟨rfl, c1'.2.1, q⟩ (fun h2 hs1 => k_vsg (a := 4) (ix := 0) (x := 0) hS0 he he5 hg hg5 hge hK0 hs1 (by decide) h40 (fun _ w => absurd w (by decide)) (fun v h3 q => q))
  rw [cI_f c3]
  by_cases c4 : (tkT ch len i).2.2.1 = 8
  · rw [cI_t c4]
    by_cases d1 : ¬ nmP (tkT ch len) (i + 1)
    · have ee : ebF W m (tkT ch len) (i + 1) = wrF (tkT ch len) 1 (i + 1) 0 := cI_t d1
      have e0 : ¬ ebF W m (tkT ch len) (i + 1) = 0 := by rw [ee]; exact wrF_p (by decide)
      exact k_q11 hS0 he he5 hg hg5 hge hK0 hs h40 ⟨rfl, c1'.2.1, c4⟩ d1 (fun h2 q => KW_f ((cI_f e0).trans ee) (wrF_p (by decide)) q)
    have d1' := Classical.not_not.mp d1
    by_cases d2 : ¬ ixV W (tkT ch len (i + 1)).2.2.2.1 m 0 < m
    · have ee : ebF W m (tkT ch len) (i + 1) = wrF (tkT ch len) 2 (i + 1) 0 := (cI_f d1).trans (cI_t d2)
      have e0 : ¬ ebF W m (tkT ch len) (i + 1) = 0 := by rw [ee]; exact wrF_p (by decide)
      exact k_q12 hS0 he he5 hg hg5 hge hK0 hs h40 ⟨rfl, c1'.2.1, c4⟩ d1' d2 (fun h2 q => KW_f ((cI_f e0).trans ee) (wrF_p (by decide)) q)
    have d2' := Classical.not_not.mp d2
    have ee : ebF W m (tkT ch len) (i + 1) = 0 := (cI_f d1).trans (cI_f d2)
    rw [cI_t ee]
    exact k_q1Y hS0 he he5 hg hg5 hge hK0 hs h40 ⟨rfl, c1'.2.1, c4⟩ d1' d2' (fun h2 hs1 => k_vsg (a := 1) (ix := ixV W (tkT ch len (i + 1)).2.2.2.1 m 0) (x := 0) hS0 he he5 hg hg5 hge hK0 hs1 (by decide) h40 (fun _ _ => ⟨rfl, rfl⟩) (fun v h3 q => q))
  rw [cI_f c4]
  rcases (show (tkT ch len i).2.2.1 = 9 ∨ (tkT ch len i).2.2.1 = 10 by omega) with ca | ca
  · rw [show (tkT ch len i).2.2.1 - 7 = 2 by omega]
    by_cases d1 : ¬ nmP (tkT ch len) (i + 1)
    · have ee : ebF W m (tkT ch len) (i + 1) = wrF (tkT ch len) 1 (i + 1) 0 := cI_t d1
      have e0 : ¬ ebF W m (tkT ch len) (i + 1) = 0 := by rw [ee]; exact wrF_p (by decide)
      exact k_q21 hS0 he he5 hg hg5 hge hK0 hs h40 ⟨rfl, c1'.2.1, ca⟩ d1 (fun h2 q => KW_f ((cI_f e0).trans ee) (wrF_p (by decide)) q)
    have d1' := Classical.not_not.mp d1
    by_cases d2 : ¬ ixV W (tkT ch len (i + 1)).2.2.2.1 m 0 < m
    · have ee : ebF W m (tkT ch len) (i + 1) = wrF (tkT ch len) 2 (i + 1) 0 := (cI_f d1).trans (cI_t d2)
      have e0 : ¬ ebF W m (tkT ch len) (i + 1) = 0 := by rw [ee]; exact wrF_p (by decide)
      exact k_q22 hS0 he he5 hg hg5 hge hK0 hs h40 ⟨rfl, c1'.2.1, ca⟩ d1' d2 (fun h2 q => KW_f ((cI_f e0).trans ee) (wrF_p (by decide)) q)
    have d2' := Classical.not_not.mp d2
    have ee : ebF W m (tkT ch len) (i + 1) = 0 := (cI_f d1).trans (cI_f d2)
    rw [cI_t ee]
    by_cases d3 : nuP (tkT ch len) 0 11 (i + 2) 0
    · have en : nbF (tkT ch len) 2 (i + 2) = sgF (tkT ch len) (i + 3) := cI_t d3
      rw [en]
      exact k_q2Y hS0 he he5 hg hg5 hge hK0 hs h40 ⟨rfl, c1'.2.1, ca⟩ d1' d2' d3 (fun h2 hs1 => k_vsg (a := 2) (ix := ixV W (tkT ch len (i + 1)).2.2.2.1 m 0) (x := (tkT ch len (i + 2)).2.2.1) hS0 he he5 hg hg5 hge hK0 hs1 (nI_m1 (by have := d3.2.2.2; omega)) h40 (fun _ _ => ⟨rfl, rfl⟩) (fun v h3 q => q))
    · have en : nbF (tkT ch len) 2 (i + 2) = wrF (tkT ch len) (nmF (tkT ch len) (i + 2)) (i + 2) 0 := cI_f d3
      exact k_q2N hS0 he he5 hg hg5 hge hK0 hs h40 ⟨rfl, c1'.2.1, ca⟩ d1' d2' d3 (fun h2 q => KW_f en (wrF_p nmF_5.1) q)
  · rw [show (tkT ch len i).2.2.1 - 7 = 3 by omega]
    by_cases d1 : ¬ nmP (tkT ch len) (i + 1)
    · have ee : ebF W m (tkT ch len) (i + 1) = wrF (tkT ch len) 1 (i + 1) 0 := cI_t d1
      have e0 : ¬ ebF W m (tkT ch len) (i + 1) = 0 := by rw [ee]; exact wrF_p (by decide)
      exact k_q31 hS0 he he5 hg hg5 hge hK0 hs h40 ⟨rfl, c1'.2.1, ca⟩ d1 (fun h2 q => KW_f ((cI_f e0).trans ee) (wrF_p (by decide)) q)
    have d1' := Classical.not_not.mp d1
    by_cases d2 : ¬ ixV W (tkT ch len (i + 1)).2.2.2.1 m 0 < m
    · have ee : ebF W m (tkT ch len) (i + 1) = wrF (tkT ch len) 2 (i + 1) 0 := (cI_f d1).trans (cI_t d2)
      have e0 : ¬ ebF W m (tkT ch len) (i + 1) = 0 := by rw [ee]; exact wrF_p (by decide)
      exact k_q32 hS0 he he5 hg hg5 hge hK0 hs h40 ⟨rfl, c1'.2.1, ca⟩ d1' d2 (fun h2 q => KW_f ((cI_f e0).trans ee) (wrF_p (by decide)) q)
    have d2' := Classical.not_not.mp d2
    have ee : ebF W m (tkT ch len) (i + 1) = 0 := (cI_f d1).trans (cI_f d2)
    rw [cI_t ee]
    by_cases d3 : nuP (tkT ch len) 1 9 (i + 2) 0
    · have en : nbF (tkT ch len) 3 (i + 2) = sgF (tkT ch len) (i + 3) := cI_t d3
      rw [en]
      exact k_q3Y hS0 he he5 hg hg5 hge hK0 hs h40 ⟨rfl, c1'.2.1, ca⟩ d1' d2' d3 (fun h2 hs1 => k_vsg (a := 3) (ix := ixV W (tkT ch len (i + 1)).2.2.2.1 m 0) (x := (tkT ch len (i + 2)).2.2.1) hS0 he he5 hg hg5 hge hK0 hs1 (nI_m1 (by have := d3.2.2.2; omega)) h40 (fun _ _ => ⟨rfl, rfl⟩) (fun v h3 q => q))
    · have en : nbF (tkT ch len) 3 (i + 2) = wrF (tkT ch len) (nmF (tkT ch len) (i + 2)) (i + 2) 0 := cI_f d3
      exact k_q3N hS0 he he5 hg hg5 hge hK0 hs h40 ⟨rfl, c1'.2.1, ca⟩ d1' d2' d3 (fun h2 q => KW_f en (wrF_p nmF_5.1) q)
theorem k_reE {d : Nat} {h0 h : AHP} {e g : Nat} {ch : Nat → Nat} {len i m line : Nat} {W : Nat → List Nat} {L : ES} (hS0 : Std h0) (he : (lay e).1 = 0) (he5 : 5 ≤ e) (hg : (lay g).1 = 3) (hg5 : 5 ≤ g) (hge : g + 12 < e) (hK0 : NK h0 g W m) (hs : KVs h0 h e ch len i L) (h0' : (tkT ch len i).1 = 0) {Q : Option Value → AHP → Prop} (hq : Q (some (.int 0)) h) : TT (d + 6) 70 13 [some (.ref 4), some (.ref e), some (.ref g), some (.int (nI line))] [] h Q := by
  have hS := hs.1.std hS0
  have hC := hs.2.1
  have hB := hC.b i
  refine t_go (op := o_iload 14 3) (fe_X7_readEvening 13) (fun _ _ => rfl) ?_
  refine t_go (op := o_ci 16 40) (fe_X7_readEvening 14) (fun _ _ => rfl) ?_
  refine t_ite (op := o_icmp 19 49 (fun x y => y < x) (fun _ _ => inferInstance)) (fe_X7_readEvening 16) g_icmp (fun c1 => ?_) (fun c1 => ?_)
  · refine t_go (op := o_ci 50 0) (fe_X7_readEvening 49) (fun _ _ => rfl) ?_
    refine t_ret (op := o_iret) (fe_X7_readEvening 50) (fun _ _ => rfl) ?_
    exact hq
  · refine t_go (op := o_aload 20 0) (fe_X7_readEvening 19) (fun _ _ => rfl) ?_
    refine t_go (op := o_getR 23 6 0) (fe_X7_readEvening 20) (g_getR hS (show (lay 4).1 = 6 by decide) (by decide) (fr_6_0 hS) (by decide)) ?_
    refine t_go (op := o_getI 26 8 2) (fe_X7_readEvening 23) (g_getI hS (by decide) (by decide)) ?_
    rw [show h.1 2 2 = nI (cSo (tkT ch len i).1) from hC.2.2.2.1]
    refine t_ite (op := o_if 29 49 (fun x => x = 0) (fun _ => inferInstance)) (fe_X7_readEvening 26) g_if (fun c2 => ?_) (fun c2 => ?_)
    · refine t_go (op := o_ci 50 0) (fe_X7_readEvening 49) (fun _ _ => rfl) ?_
      refine t_ret (op := o_iret) (fe_X7_readEvening 50) (fun _ _ => rfl) ?_
      exact hq
    · exact absurd ((cSo_0 _ hB.1).mpr h0') c2
theorem k_reL {d : Nat} {h0 h : AHP} {e g : Nat} {ch : Nat → Nat} {len i m line : Nat} {W : Nat → List Nat} {L : ES} (hS0 : Std h0) (he : (lay e).1 = 0) (he5 : 5 ≤ e) (hg : (lay g).1 = 3) (hg5 : 5 ≤ g) (hge : g + 12 < e) (hK0 : NK h0 g W m) (hs : KVs h0 h e ch len i L) {r : Nat × Nat × ES} (h0' : ¬ (tkT ch len i).1 = 0) (hl : line ≤ 40) (hM : MM (d + 5) 83 [.ref 4, .ref e, .ref g] h (KW_ h0 e ch len r)) {Q : Option Value → AHP → Prop} (hqf : ¬ r.1 = 0 → ∀ h2, KVF h0 h2 e r.1 → Q (some (.int (nI r.1))) h2) (hq : r.1 = 0 → ∀ h2, KVs h0 h2 e ch len r.2.1 r.2.2 → TT (d + 6) 70 13 [some (.ref 4), some (.ref e), some (.ref g), some (.int (nI (line + 1)))] [] h2 Q) : TT (d + 6) 70 13 [some (.ref 4), some (.ref e), some (.ref g), some (.int (nI line))] [] h Q := by
  have hS := hs.1.std hS0
  have hC := hs.2.1
  have hB := hC.b i
  refine t_go (op := o_iload 14 3) (fe_X7_readEvening 13) (fun _ _ => rfl) ?_
  refine t_go (op := o_ci 16 40) (fe_X7_readEvening 14) (fun _ _ => rfl) ?_
  refine t_ite (op := o_icmp 19 49 (fun x y => y < x) (fun _ _ => inferInstance)) (fe_X7_readEvening 16) g_icmp (fun c1 => ?_) (fun c1 => ?_)
  · exact absurd c1 (Int32.not_lt.mpr (nI_le (b := 40) hl (by decide)))
  · refine t_go (op := o_aload 20 0) (fe_X7_readEvening 19) (fun _ _ => rfl) ?_
    refine t_go (op := o_getR 23 6 0) (fe_X7_readEvening 20) (g_getR hS (show (lay 4).1 = 6 by decide) (by decide) (fr_6_0 hS) (by decide)) ?_
    refine t_go (op := o_getI 26 8 2) (fe_X7_readEvening 23) (g_getI hS (by decide) (by decide)) ?_
    rw [show h.1 2 2 = nI (cSo (tkT ch len i).1) from hC.2.2.2.1]
    refine t_ite (op := o_if 29 49 (fun x => x = 0) (fun _ => inferInstance)) (fe_X7_readEvening 26) g_if (fun c2 => ?_) (fun c2 => ?_)
    · exact absurd ((cSo_0 _ hB.1).mp c2) h0'
    · refine t_go (op := o_aload 30 0) (fe_X7_readEvening 29) (fun _ _ => rfl) ?_
      refine t_go (op := o_aload 31 1) (fe_X7_readEvening 30) (fun _ _ => rfl) ?_
      refine t_go (op := o_aload 32 2) (fe_X7_readEvening 31) (fun _ _ => rfl) ?_
      refine t_call (op := o_callV 35 83 3 6) (fe_X7_readEvening 32) (g_callV hS (show (lay 4).1 = 6 by decide) (by decide) rfl rfl rfl (Nat.le_of_ble_eq_true rfl)) ?_
      refine M_mono ?_ hM
      rintro _ k3 ⟨rfl, hy, hno⟩
      refine t_ite (op := o_if 43 38 (fun x => x = 0) (fun _ => inferInstance)) (fe_X7_readEvening 35) g_if (fun c3 => ?_) (fun c3 => ?_)
      · replace c3 := b2i_z c3
        have hz := hno c3
        replace hS := hz.1.std hS0
        refine t_go (op := o_aload 39 0) (fe_X7_readEvening 38) (fun _ _ => rfl) ?_
        refine t_go (op := o_getI 42 6 1) (fe_X7_readEvening 39) (g_getI hS (show (lay 4).1 = 6 by decide) (by decide)) ?_
        rw [hz.2]
        refine t_ret (op := o_iret) (fe_X7_readEvening 42) (fun _ _ => rfl) ?_
        exact hqf c3 _ hz
      · replace c3 := b2i_nn c3
        refine t_go (op := o_iinc 46 3 1) (fe_X7_readEvening 43) (fun _ _ => rfl) ?_
        refine t_go (op := o_goto 13) (fe_X7_readEvening 46) (fun _ _ => rfl) ?_
        rw [nI_1]
        exact hq c3 _ (hy c3)
theorem k_vlines {d : Nat} {h0 : AHP} {e g : Nat} {ch : Nat → Nat} {len n m : Nat} {W : Nat → List Nat} (hS0 : Std h0) (he : (lay e).1 = 0) (he5 : 5 ≤ e) (hg : (lay g).1 = 3) (hg5 : 5 ≤ g) (hge : g + 12 < e) (hK0 : NK h0 g W m) (hE : (tkT ch len n).1 = 0) {Q : Option Value → AHP → Prop} : ∀ (k i : Nat) (L : ES) (h : AHP), n - i < k → i ≤ n → vOK m L → KVs h0 h e ch len i L → ((vRun W m (tkT ch len) k i L).1 = 0 → ∀ h2 i2, KVs h0 h2 e ch len i2 (vRun W m (tkT ch len) k i L).2 → vOK m (vRun W m (tkT ch len) k i L).2 → Q (some (.int 0)) h2) → (¬ (vRun W m (tkT ch len) k i L).1 = 0 → ∀ h2, KVF h0 h2 e (vRun W m (tkT ch len) k i L).1 → Q (some (.int (nI (vRun W m (tkT ch len) k i L).1))) h2) → TT (d + 6) 70 13 [some (.ref 4), some (.ref e), some (.ref g), some (.int (nI L.length))] [] h Q := by
  intro k
  induction k with
  | zero => intro i L h h1; omega
  | succ k ih =>
    intro i L h hk hi hL hs hq0 hq1
    rw [vRun] at hq0 hq1
    by_cases c1 : (tkT ch len i).1 = 0
    · rw [cI_t c1] at hq0
      exact k_reE hS0 he he5 hg hg5 hge hK0 hs c1 (hq0 rfl h i hs hL)
    rw [cI_f c1] at hq0 hq1
    refine k_reL hS0 he he5 hg hg5 hge hK0 hs c1 hL.1 (k_eveningLine hS0 he he5 hg hg5 hge hK0 hs hL) (fun hF h2 q => ?_) (fun hF h2 hs2 => ?_)
    · rw [cI_f hF] at hq1
      exact hq1 hF h2 q
    · rw [cI_t hF] at hq0 hq1
      have g1 := vL_go hE hi c1 hL hF
      rw [← g1.2.2.2]
      exact ih _ _ h2 (by omega) g1.2.1 g1.2.2.1 hs2 hq0 hq1
theorem KVs_0 {h k2 : AHP} {e : Nat} {ch : Nat → Nat} {len : Nat} (he5 : 5 ≤ e) (hT : Tf (sI h e 3 0) k2) (hC : CU k2 ch len 0) : KVs h k2 e ch len 0 [] := by
  refine ⟨⟨hT.1, fun a i q => hT.2.1 a i q, fun a q => hT.2.2.1 a q, fun a q1 q2 q3 => by rw [hT.2.2.2.1 a q1, sI_ne (by omega)], by rw [hT.2.2.2.2, sI_ne (by omega)]⟩, hC, ?_, fun j hj => absurd hj (Nat.not_lt_zero _)⟩
  rw [hT.2.2.2.1 e (by omega), sI_eq]; rfl
theorem k_readEvening {d : Nat} {h : AHP} {e g : Nat} {ch : Nat → Nat} {len n m : Nat} {W : Nat → List Nat} {Q : Option Value → AHP → Prop} (hS : Std h) (he : (lay e).1 = 0) (he5 : 5 ≤ e) (hg : (lay g).1 = 3) (hg5 : 5 ≤ g) (hge : g + 12 < e) (hK0 : NK h g W m) (h1 : CHr (h.1 3) ch len) (h2' : len ≤ 1000) (h3 : h.1 2 1 = nI len) (hE : (tkT ch len n).1 = 0) (hq0 : (vRun W m (tkT ch len) (n + 1) 0 []).1 = 0 → ∀ h2 i2, KVs h h2 e ch len i2 (vRun W m (tkT ch len) (n + 1) 0 []).2 → vOK m (vRun W m (tkT ch len) (n + 1) 0 []).2 → Q (some (.int 0)) h2) (hq1 : ¬ (vRun W m (tkT ch len) (n + 1) 0 []).1 = 0 → ∀ h2, KVF h h2 e (vRun W m (tkT ch len) (n + 1) 0 []).1 → Q (some (.int (nI (vRun W m (tkT ch len) (n + 1) 0 []).1))) h2) : MM (d + 6) 70 [.ref 4, .ref e, .ref g] h (fun v h2 => Q v h2) := by
  refine ⟨Nat.le_of_ble_eq_true rfl, ?_⟩
  refine t_go (op := o_aload 1 1) (fe_X7_readEvening 0) (fun _ _ => rfl) ?_
  refine t_call (op := o_callV 4 3 1 0) (fe_X7_readEvening 1) (g_callV hS he (by decide) rfl rfl rfl (Nat.le_of_ble_eq_true rfl)) ?_
  refine M_eq (c_evForget hS he) ?_
  refine t_go (op := o_aload 5 0) (fe_X7_readEvening 4) (fun _ _ => rfl) ?_
  refine t_go (op := o_getR 8 6 0) (fe_X7_readEvening 5) (g_getR hS (show (lay 4).1 = 6 by decide) (by decide) (fr_6_0 hS) (by decide)) ?_
  refine t_call (op := o_callV 11 96 1 8) (fe_X7_readEvening 8) (g_callV hS (by decide) (by decide) rfl rfl rfl (Nat.le_of_ble_eq_true rfl)) ?_
  refine M_mono ?_ (c_toFirst (h := sI h e 3 0) hS (ch := ch) (len := len) ?_ h2' ?_)
  rotate_left
  · rw [sI_ne (by omega)]; exact h1
  · rw [sI_ne (by omega)]; exact h3
  rintro _ k2 ⟨rfl, hT, hC⟩
  have hs0 := KVs_0 he5 hT hC
  refine t_go (op := o_ci 12 0) (fe_X7_readEvening 11) (fun _ _ => rfl) ?_
  refine t_go (op := o_istore 13 3) (fe_X7_readEvening 12) (fun _ _ => rfl) ?_
  exact k_vlines hS he he5 hg hg5 hge hK0 hE (n + 1) 0 [] k2 (by omega) (Nat.zero_le _) ⟨by decide, fun j hj => absurd hj (Nat.not_lt_zero _)⟩ hs0 hq0 hq1
theorem c_eveningF {d : Nat} {h : AHP} {g e e2 F : Nat} (hS : Std h) (h7 : h.2.2.1 1 7 = g) (hg : (lay g).1 = 3) (h10 : h.2.2.1 1 10 = e2) (he2 : (lay e2).1 = 0) (hF : ¬ nI F = 0) {P : AHP → Prop} (hM : MM (d + 6) 70 [.ref 4, .ref e2, .ref g] h (fun v h2 => v = some (.int (nI F)) ∧ Std h2 ∧ P h2)) : MM (d + 7) 111 [.ref 1] h (fun v h2 => v = some (.int (nI F)) ∧ ∃ h1, P h1 ∧ h2 = sI h1 2 1 0) := by
  refine ⟨Nat.le_of_ble_eq_true rfl, ?_⟩
  have hgi := grate_scr hg
  have hei := even_id he2
  refine t_go (op := o_aload 1 0) (fe_X11_evening 0) (fun _ _ => rfl) ?_
  refine t_go (op := o_getR 4 10 1) (fe_X11_evening 1) (g_getR hS (show (lay 1).1 = 10 by decide) (by decide) (fr_10_1 hS) (by decide)) ?_
  refine t_go (op := o_aload 5 0) (fe_X11_evening 4) (fun _ _ => rfl) ?_
  refine t_go (op := o_getR 8 10 10) (fe_X11_evening 5) (g_getR hS (show (lay 1).1 = 10 by decide) (by decide) h10 (by omega)) ?_
  refine t_go (op := o_aload 9 0) (fe_X11_evening 8) (fun _ _ => rfl) ?_
  refine t_go (op := o_getR 12 10 7) (fe_X11_evening 9) (g_getR hS (show (lay 1).1 = 10 by decide) (by decide) h7 (by omega)) ?_
  refine t_call (op := o_callV 15 70 3 6) (fe_X11_evening 12) (g_callV hS (by decide) (by decide) rfl rfl rfl (Nat.le_of_ble_eq_true rfl)) ?_
  refine M_mono ?_ hM
  rintro _ k1 ⟨rfl, hS1, hP⟩
  replace hS := hS1
  refine t_go (op := o_istore 16 1) (fe_X11_evening 15) (fun _ _ => rfl) ?_
  refine t_go (op := o_aload 17 0) (fe_X11_evening 16) (fun _ _ => rfl) ?_
  refine t_go (op := o_getR 20 10 0) (fe_X11_evening 17) (g_getR hS (show (lay 1).1 = 10 by decide) (by decide) (fr_10_0 hS) (by decide)) ?_
  refine t_call (op := o_callV 23 95 1 8) (fe_X11_evening 20) (g_callV hS (by decide) (by decide) rfl rfl rfl (Nat.le_of_ble_eq_true rfl)) ?_
  refine M_eq (c_empty hS) ?_
  refine t_go (op := o_iload 24 1) (fe_X11_evening 23) (fun _ _ => rfl) ?_
  refine t_ite (op := o_if 45 27 (fun x => x = 0) (fun _ => inferInstance)) (fe_X11_evening 24) g_if (fun c1 => ?_) (fun c1 => ?_)
  · exact absurd c1 hF
  · refine t_go (op := o_iload 46 1) (fe_X11_evening 45) (fun _ _ => rfl) ?_
    refine t_ret (op := o_iret) (fe_X11_evening 46) (fun _ _ => rfl) ?_
    exact ⟨rfl, _, hP, rfl⟩
theorem c_eveningY {d : Nat} {h : AHP} {g e e2 F : Nat} (hS : Std h) (h7 : h.2.2.1 1 7 = g) (hg : (lay g).1 = 3) (h10 : h.2.2.1 1 10 = e2) (he2 : (lay e2).1 = 0) (he : (lay e).1 = 0) {P : AHP → Prop} (hM : MM (d + 6) 70 [.ref 4, .ref e2, .ref g] h (fun v h2 => v = some (.int 0) ∧ Std h2 ∧ h2.2.2.1 1 9 = e ∧ h2.2.2.1 1 10 = e2 ∧ P h2)) : MM (d + 7) 111 [.ref 1] h (fun v h2 => v = some (.int 0) ∧ ∃ h1, P h1 ∧ h2 = sR (sR (sI h1 2 1 0) 1 10 e) 1 9 e2) := by
  refine ⟨Nat.le_of_ble_eq_true rfl, ?_⟩
  have hgi := grate_scr hg
  have hei := even_id he2
  have hei2 := even_id he
  refine t_go (op := o_aload 1 0) (fe_X11_evening 0) (fun _ _ => rfl) ?_
  refine t_go (op := o_getR 4 10 1) (fe_X11_evening 1) (g_getR hS (show (lay 1).1 = 10 by decide) (by decide) (fr_10_1 hS) (by decide)) ?_
  refine t_go (op := o_aload 5 0) (fe_X11_evening 4) (fun _ _ => rfl) ?_
  refine t_go (op := o_getR 8 10 10) (fe_X11_evening 5) (g_getR hS (show (lay 1).1 = 10 by decide) (by decide) h10 (by omega)) ?_
  refine t_go (op := o_aload 9 0) (fe_X11_evening 8) (fun _ _ => rfl) ?_
  refine t_go (op := o_getR 12 10 7) (fe_X11_evening 9) (g_getR hS (show (lay 1).1 = 10 by decide) (by decide) h7 (by omega)) ?_
  refine t_call (op := o_callV 15 70 3 6) (fe_X11_evening 12) (g_callV hS (by decide) (by decide) rfl rfl rfl (Nat.le_of_ble_eq_true rfl)) ?_
  refine M_mono ?_ hM
  rintro _ k1 ⟨rfl, hS1, q9, q10, hP⟩
  replace hS := hS1
  refine t_go (op := o_istore 16 1) (fe_X11_evening 15) (fun _ _ => rfl) ?_
  refine t_go (op := o_aload 17 0) (fe_X11_evening 16) (fun _ _ => rfl) ?_
  refine t_go (op := o_getR 20 10 0) (fe_X11_evening 17) (g_getR hS (show (lay 1).1 = 10 by decide) (by decide) (fr_10_0 hS) (by decide)) ?_
  refine t_call (op := o_callV 23 95 1 8) (fe_X11_evening 20) (g_callV hS (by decide) (by decide) rfl rfl rfl (Nat.le_of_ble_eq_true rfl)) ?_
  refine M_eq (c_empty hS) ?_
  refine t_go (op := o_iload 24 1) (fe_X11_evening 23) (fun _ _ => rfl) ?_
  refine t_ite (op := o_if 45 27 (fun x => x = 0) (fun _ => inferInstance)) (fe_X11_evening 24) g_if (fun c1 => ?_) (fun c1 => ?_)
  · refine t_go (op := o_aload 28 0) (fe_X11_evening 27) (fun _ _ => rfl) ?_
    refine t_go (op := o_getR 31 10 10) (fe_X11_evening 28) (g_getR hS (show (lay 1).1 = 10 by decide) (by decide) q10 (by omega)) ?_
    refine t_go (op := o_astore 32 2) (fe_X11_evening 31) (fun _ _ => rfl) ?_
    refine t_go (op := o_aload 33 0) (fe_X11_evening 32) (fun _ _ => rfl) ?_
    refine t_go (op := o_aload 34 0) (fe_X11_evening 33) (fun _ _ => rfl) ?_
    refine t_go (op := o_getR 37 10 9) (fe_X11_evening 34) (g_getR hS (show (lay 1).1 = 10 by decide) (by decide) q9 (by omega)) ?_
    refine t_go (op := o_putR 40 10 10) (fe_X11_evening 37) (g_putR hS (show (lay 1).1 = 10 by decide) (by decide) (by omega)) ?_
    replace hS := Std_sR7 (h := sI k1 2 1 0) (i := 10) (v := e) (by decide) hS
    refine t_go (op := o_aload 41 0) (fe_X11_evening 40) (fun _ _ => rfl) ?_
    refine t_go (op := o_aload 42 2) (fe_X11_evening 41) (fun _ _ => rfl) ?_
    refine t_go (op := o_putR 45 10 9) (fe_X11_evening 42) (g_putR hS (show (lay 1).1 = 10 by decide) (by decide) (by omega)) ?_
    replace hS := Std_sR7 (h := sR (sI k1 2 1 0) 1 10 e) (i := 9) (v := e2) (by decide) hS
    refine t_go (op := o_iload 46 1) (fe_X11_evening 45) (fun _ _ => rfl) ?_
    refine t_ret (op := o_iret) (fe_X11_evening 46) (fun _ _ => rfl) ?_
    exact ⟨rfl, _, hP, rfl⟩
  · exact absurd rfl c1
/-- an evening was read, or none: all else stands as it did -/
theorem CI_ev {T : Nat} {h h3 : AHP} {v2 : Nat} (hC : CI T h) (hS : Std h3) (hz : NZ h3) (hv2 : (lay v2).1 = 0)
  (eR : h3.2.2.1 1 7 = h.2.2.1 1 7 ∧ h3.2.2.1 1 8 = h.2.2.1 1 8) (eJ : ∀ a, a ≠ 2 → a ≠ 187 → h3.2.1 a = h.2.1 a)
  (eI : ∀ a, a ≠ 2 → a ≠ 4 → a ≠ 183 → a ≠ 185 → a ≠ 186 → a ≠ 194 → (a < v2 ∨ v2 + 3 < a) → h3.1 a = h.1 a)
  (e3 : h3.1 183 16 = h.1 183 16 ∧ h3.1 183 23 = h.1 183 23) (hEv : ∀ m, h.1 183 16 = nI m → m ≤ 7 → ∃ v ln, EvC h3 v ln m)
  (eT : h3.1 2 1 = 0 ∧ h3.1 183 2 = 0) : CI (T + 1) h3 := by
  obtain ⟨hS0, _, g, n, m, v, ln, tn, N, u, len, c1, c2, c3, c4, c5, c6, c7⟩ := hC
  obtain ⟨hg, h7, ⟨g2', hg2', hne, h8', hV2⟩, hn, hl, hm, hP, hVg, hRg, hN1, hN2, hN3⟩ := c1
  obtain ⟨hv, h9, ⟨v2', hv2', hnv, h10'⟩, hln, hLV, hLN⟩ := c2
  obtain ⟨v9, ln9, hEv9⟩ := hEv m hN1 hP.1.2.2.1
  have gi := grate_scr hg
  have gi2 := grate_scr hg2'
  have vi := even_id hv
  have vi2 := even_id hv2
  have rr : ∀ a, a ≠ 2 → a ≠ 4 → a ≠ 183 → a ≠ 185 → a ≠ 186 → a ≠ 189 → a ≠ 190 → a ≠ 191 → a ≠ 194 → a < 149 → h3.1 a = h.1 a := fun a q1 q2 q3 q4 q5 q6 q7 q8 q9 q10 => eI a q1 q2 q3 q4 q5 q9 (by omega)
  have rg : ∀ a, g ≤ a → a ≤ g + 12 → h3.1 a = h.1 a := fun a q1 q2 => eI a (by omega) (by omega) (by omega) (by omega) (by omega) (by omega) (by omega)
  have e9 : ∀ j, j < 50 → h3.1 189 j = h.1 189 j := fun j _ => by rw [eI 189 (by decide) (by decide) (by decide) (by decide) (by decide) (by decide) (by omega)]
  have e0 : ∀ j, j < 1100 → h3.1 190 j = h.1 190 j ∧ h3.1 191 j = h.1 191 j := fun j _ => by rw [eI 190 (by decide) (by decide) (by decide) (by decide) (by decide) (by decide) (by omega), eI 191 (by decide) (by decide) (by decide) (by decide) (by decide) (by decide) (by omega)]; exact ⟨rfl, rfl⟩
  have hV : FV 7 (fs h3 (g2' + 3)) := by rw [show fs h3 (g2' + 3) = fs h (g2' + 3) from fs_rows fun a q1 q2 => eI a (by omega) (by omega) (by omega) (by omega) (by omega) (by omega) (by omega)]; exact hV2
  have rh : ∀ a, 195 ≤ a → h3.1 a = h.1 a := fun a q1 => eI a (by omega) (by omega) (by omega) (by omega) (by omega) (by omega) (by omega)
  have hm7 : m ≤ 7 := hP.1.2.2.1
  have hfg : fs h3 (g + 3) = fs h (g + 3) := fs_rows fun a q1 q2 => rg a (by omega) (by omega)
  refine ⟨hS, hz, g, n, m, v9, ln9, tn, N, u, 0, ⟨hg, ?_, ⟨g2', hg2', hne, ?_, hV⟩, hn, ?_, ?_, ?_, ?_, ?_, ?_, fun e he => ?_, fun j hj => ?_⟩, hEv9, ⟨?_, ?_⟩, ⟨?_, ?_, ?_⟩, ?_, ?_, ⟨by decide, eT.1, eT.2, fun i hi => absurd hi (Nat.not_lt_zero _)⟩⟩
  · rw [eR.1]; exact h7
  · rw [eR.2]; exact h8'
  · rw [rg (g + 8) (by omega) (by omega)]; exact hl
  · rw [rg g (by omega) (by omega)]; exact hm
  · refine CP_rows hg (h := h) (fun a ha => rg a (by omega) (by omega)) ?_
    obtain ⟨⟨p1, p2, p3, p4, p5, p6⟩, q, q1, q2, q3, q4⟩ := hP
    refine ⟨⟨hS, by rw [e9 0 (by decide)]; exact p2, p3, fun e he => by rw [e9 _ (by omega)]; exact p4 e he, by rw [e9 2 (by decide)]; exact p5, ?_⟩, q, q1, q2, by rw [e9 1 (by decide)]; exact q3, fun t ht => ?_⟩
    · rcases p6 with ⟨w1, w2⟩ | ⟨w1, w2, w3, w4, w5, w6⟩
      · exact Or.inl ⟨w1, by rw [e9 3 (by decide)]; exact w2⟩
      · exact Or.inr ⟨w1, w2, by rw [e9 3 (by decide)]; exact w3, w4, fun i hi => by rw [(e0 i (by omega)).1, (e0 i (by omega)).2]; exact w5 i hi, by rw [(e0 n (by omega)).1]; exact w6⟩
    · have := Nat.mod_lt t (show 0 < q by omega)
      rw [e9 _ (by omega)]; exact q4 t ht
  · rw [hfg]; exact hVg
  · rw [hfg]
    obtain ⟨r1, r2, r3⟩ := hRg
    refine ⟨fun e he => ?_, r2, r3⟩
    rw [e9 _ (by omega), e9 _ (by omega), e9 _ (by omega)]; exact r1 e he
  · rw [e3.1]; exact hN1
  · obtain ⟨w, w1, w2, w3⟩ := hN2 e he
    exact ⟨w, w1, by rw [eJ (g + 1) (by omega) (by omega)]; exact w2, by rw [eJ 192 (by decide) (by decide)]; exact w3⟩
  · rw [eJ 188 (by decide) (by decide)]; exact hN3 j hj
  · rw [show fs h3 5 = fs h 5 from fs_rows fun a q1 q2 => rr a (by omega) (by omega) (by omega) (by omega) (by omega) (by omega) (by omega) (by omega) (by omega) (by omega)]; exact FW_up c3.1
  · rw [show fs h3 5 = fs h 5 from fs_rows fun a q1 q2 => rr a (by omega) (by omega) (by omega) (by omega) (by omega) (by omega) (by omega) (by omega) (by omega) (by omega), rh 197 (by decide)]; exact c3.2
  · rw [rr 10 (by decide) (by decide) (by decide) (by decide) (by decide) (by decide) (by decide) (by decide) (by decide) (by decide)]; exact c4.1
  · rw [rr 11 (by decide) (by decide) (by decide) (by decide) (by decide) (by decide) (by decide) (by decide) (by decide) (by decide), rr 12 (by decide) (by decide) (by decide) (by decide) (by decide) (by decide) (by decide) (by decide) (by decide) (by decide), rr 13 (by decide) (by decide) (by decide) (by decide) (by decide) (by decide) (by decide) (by decide) (by decide) (by decide)]; exact c4.2.1
  · rw [rr 11 (by decide) (by decide) (by decide) (by decide) (by decide) (by decide) (by decide) (by decide) (by decide) (by decide), rr 12 (by decide) (by decide) (by decide) (by decide) (by decide) (by decide) (by decide) (by decide) (by decide) (by decide), rr 13 (by decide) (by decide) (by decide) (by decide) (by decide) (by decide) (by decide) (by decide) (by decide) (by decide), rh 197 (by decide)]; exact c4.2.2
  · have c5' := PaC_up c5
    unfold PaC at c5' ⊢
    have ek : kf h3 N u = kf h N u := funext fun a => kf_w (fun a h2 h3 => rr a (by omega) (by omega) (by omega) (by omega) (by omega) (by omega) (by omega) (by omega) (by omega) (by omega)) N u a
    rw [rr 14 (by decide) (by decide) (by decide) (by decide) (by decide) (by decide) (by decide) (by decide) (by decide) (by decide), e3.2, ek, rh 197 (by decide)]
    exact c5'
  · have c6' := MaC_up c6
    intro q hq
    have r2 : ∀ a, 99 ≤ a → a < 135 → h3.1 a = h.1 a := fun a q1 q2 => rr a (by omega) (by omega) (by omega) (by omega) (by omega) (by omega) (by omega) (by omega) (by omega) (by omega)
    rw [rr 18 (by decide) (by decide) (by decide) (by decide) (by decide) (by decide) (by decide) (by decide) (by decide) (by decide), rh 198 (by decide), show fs h3 (99 + 9 * q) = fs h (99 + 9 * q) from fs_rows fun a q1 q2 => r2 a (by omega) (by omega), r2 (104 + 9 * q) (by omega) (by omega), r2 (105 + 9 * q) (by omega) (by omega), r2 (106 + 9 * q) (by omega) (by omega), r2 (107 + 9 * q) (by omega) (by omega), rh 197 (by decide)]
    exact c6' q hq
theorem p_evening {T d : Nat} {h : AHP} (hC : CI T h) : PairI (d + 50) 111 187 [] h T := by
  have hC0 := hC
  obtain ⟨hS, hz, g, nl, m, ev, ln, tn, N, u, len, c1, c2, c3, c4, c5, c6, c7⟩ := hC
  obtain ⟨hg, h7, ⟨g2, hg2, hne, h8, hV2⟩, hn, hl, hm, hP, hVg, hRg, hN1, hN2, hN3⟩ := c1
  obtain ⟨hv, h9, ⟨v2, hv2, hnv, h10⟩, hln, hLV, hLN⟩ := c2
  obtain ⟨t1, t2, t3, t4⟩ := c7
  have hm7 : m ≤ 7 := hP.1.2.2.1
  have gi := grate_scr hg
  have vi := even_id hv
  have vi2 := even_id hv2
  have hCH : CHr (h.1 3) (fun i => (h.1 3 i).toNatClampNeg) len := CHr_of (fun i hi => (t4 i hi).2)
  have hCH4 : CHr (h.1 184) (fun i => (h.1 3 i).toNatClampNeg) len := fun i hi => by rw [← (t4 i hi).1]; exact hCH i hi
  obtain ⟨ch, ech⟩ : ∃ c, c = (fun i => (h.1 3 i).toNatClampNeg) := ⟨_, rfl⟩
  rw [← ech] at hCH hCH4
  obtain ⟨n, hN⟩ := endN_ex (ch := ch) (len := len)
  have hB : ∀ j, TKb (tkT ch len j) := tk_b hCH t1
  obtain ⟨W, hWW⟩ : ∃ W : Nat → List Nat, ∀ e, e < m → okW (W e) ∧ h.2.1 (g + 1) e = lN (n32 (W e)) ∧ h.2.1 192 e = lN (n37 (W e)) := by
    have hch : ∀ e, ∃ w, e < m → okW w ∧ h.2.1 (g + 1) e = lN (n32 w) ∧ h.2.1 192 e = lN (n37 w) := fun e => by
      by_cases q : e < m
      · obtain ⟨w, hw⟩ := hN2 e q
        exact ⟨w, fun _ => hw⟩
      · exact ⟨[], fun w => absurd w q⟩
    exact ⟨fun e => Classical.choose (hch e), fun e he => Classical.choose_spec (hch e) he⟩
  have hK0 : NK h g W m := ⟨hm, hm7, fun k hk => ⟨(hWW k hk).1, (hWW k hk).2.1⟩⟩
  obtain ⟨R, hRR⟩ : ∃ R, R = vRun W m (tkT ch len) (n + 1) 0 [] := ⟨_, rfl⟩
  have hRb : R.1 < 100000 := by rw [hRR]; exact vRun_b hB (n + 1) 0 _
  by_cases hF : R.1 = 0
  · have hM0 : MM (d + 43 + 6) 70 [.ref 4, .ref v2, .ref g] h (fun w h2 => w = some (.int 0) ∧ Std h2 ∧ h2.2.2.1 1 9 = ev ∧ h2.2.2.1 1 10 = v2 ∧ ∃ i2, KVs h h2 v2 ch len i2 R.2 ∧ vOK m R.2) := k_readEvening (d := d + 43) hS hv2 (by omega) hg (by omega) (by omega) hK0 hCH t1 t2 hN.2.1 (fun _ h2 i2 hs hok => ⟨rfl, hs.1.std hS, (hs.1.2.1 1 9 (by decide)).trans h9, (hs.1.2.1 1 10 (by decide)).trans h10, i2, by rw [hRR]; exact hs, by rw [hRR]; exact hok⟩) (fun hF2 => absurd (by rw [← hRR]; exact hF) hF2)
    refine M_mono ?_ (M_nz hz (c_eveningY (d := d + 43) (e := ev) (F := 0) hS h7 hg h10 hv2 hv hM0))
    rintro _ h2 ⟨⟨rfl, h1, ⟨i2, hs, hok⟩, eh2⟩, hz2⟩
    refine ⟨0, rfl, ?_⟩
    have k1 : ∀ a, a ≠ 2 → a ≠ 4 → (a < v2 ∨ v2 + 3 < a) → h1.1 a = h.1 a := fun a q1 q2 q3 => hs.1.2.2.2.1 a q1 q2 q3
    have r2 : ∀ a, a ≠ 2 → h2.1 a = h1.1 a := fun a q => by rw [eh2]; exact (show (sI h1 2 1 0).1 a = h1.1 a from sI_ne q)
    have hJ : h2.2.1 = h1.2.1 := by rw [eh2]; rfl
    have hS2 : Std h2 := by
      rw [eh2]
      exact Std_sR7 (i := 9) (by decide) (Std_sR7 (h := sI h1 2 1 0) (i := 10) (by decide) (hs.1.std hS))
    have hC2 : CHr (h2.1 184) ch len := by rw [r2 184 (by decide), k1 184 (by decide) (by decide) (by omega)]; exact hCH4
    have hl2 : h2.1 183 2 = nI len := by rw [r2 183 (by decide), k1 183 (by decide) (by decide) (by omega)]; exact t3
    have hWd2 : WdR h2 := fun j hj => by rw [hJ, hs.1.2.2.1 188 (by decide)]; exact hN3 j hj
    have hW2 : NW h2 W m := ⟨by rw [r2 183 (by decide), k1 183 (by decide) (by decide) (by omega)]; exact hN1, hm7, fun k hk => ⟨(hWW k hk).1, by rw [hJ, hs.1.2.2.1 192 (by decide)]; exact (hWW k hk).2.2⟩⟩
    refine M_mono ?_ (M_nz hz2 (r_evening (d := d + 44) (k := h2) (Q := fun w h3 => w = some (.int 0) ∧ FV4 h2 h3 ∧ h3.1 194 0 = nI R.2.length ∧ (∀ i, i < R.2.length → h3.1 194 (1 + 3 * i) = nI (R.2.getD i (0, 0, 0)).1 ∧ h3.1 194 (2 + 3 * i) = nI (R.2.getD i (0, 0, 0)).2.1 ∧ h3.1 194 (3 + 3 * i) = nI (R.2.getD i (0, 0, 0)).2.2)) hS2 hC2 t1 hl2 hWd2 hW2 hB hN hRR (fun q => absurd hF q) (fun _ _ h3 a b c => ⟨rfl, a, b, c⟩)))
    rintro _ h3 ⟨⟨rfl, fr, b0, bl⟩, hz3⟩
    have hS3 : Std h3 := by
      have := hS2
      unfold Std at this ⊢
      rw [fr.1]
      exact this
    have r3 : ∀ a, a ≠ 2 → a ≠ 4 → a ≠ 183 → a ≠ 185 → a ≠ 186 → a ≠ 194 → (a < v2 ∨ v2 + 3 < a) → h3.1 a = h.1 a := fun a q1 q2 q3 q4 q5 q6 q7 => by rw [fr.2.2.1 a q3 q4 q5 q6, r2 a q1]; exact k1 a q1 q2 q7
    have rv : ∀ a, v2 ≤ a → a ≤ v2 + 3 → h3.1 a = h1.1 a := fun a q1 q2 => by rw [fr.2.2.1 a (by omega) (by omega) (by omega) (by omega), r2 a (by omega)]
    have sr : ∀ a i, ¬ (a = 1 ∧ (i = 9 ∨ i = 10)) → h2.2.2.1 a i = h1.2.2.1 a i := fun a i q => by
      rw [eh2]
      show up2 (up2 h1.2.2.1 1 10 ev) 1 9 v2 a i = _
      unfold up2
      by_cases q1 : a = 1
      · rw [if_pos q1, if_neg (fun w => q ⟨q1, Or.inl w⟩), if_pos q1.symm.symm, if_neg (fun w => q ⟨q1, Or.inr w⟩)]
      · rw [if_neg q1, if_neg q1]
    refine ⟨rfl, CI_ev (v2 := v2) hC0 hS3 hz3 hv2 ⟨?_, ?_⟩ (fun a p1 p2 => by rw [fr.2.1 a p2, hJ]; exact hs.1.2.2.1 a p1) r3 ⟨?_, ?_⟩ (fun m' e16 hm' => ?_) ⟨?_, fr.2.2.2.2⟩⟩
    · rw [fr.1, sr 1 7 (by decide)]; exact hs.1.2.1 1 7 (by decide)
    · rw [fr.1, sr 1 8 (by decide)]; exact hs.1.2.1 1 8 (by decide)
    · rw [fr.2.2.2.1 16 (by decide) (by decide) (by decide) (by decide) (by decide), r2 183 (by decide), k1 183 (by decide) (by decide) (by omega)]
    · rw [fr.2.2.2.1 23 (by decide) (by decide) (by decide) (by decide) (by decide), r2 183 (by decide), k1 183 (by decide) (by decide) (by omega)]
    · have em : m' = m := (nI_eq (by omega) (by omega)).mp (e16.symm.trans hN1)
      subst em
      have kd := hs.2.2
      refine ⟨v2, R.2.length, hv2, by rw [fr.1, eh2]; exact sR_eq, ⟨ev, hv, fun w => hnv w.symm, by rw [fr.1, eh2]; exact (sR_nr (by decide)).trans sR_eq⟩, by rw [rv v2 (by omega) (by omega)]; exact kd.1, ⟨hok.1, fun i hi => ?_⟩, b0, fun i hi => ?_⟩
      · rw [rv (v2 + 1) (by omega) (by omega), rv (v2 + 2) (by omega) (by omega), rv (v2 + 3) (by omega) (by omega)]
        have k9 := kd.2 i hi
        rcases hok.2 i hi with q | q | ⟨q1, q2⟩ | ⟨q1, q2, q3⟩ | ⟨q1, q2, q3, q4⟩
        · left; rw [k9.1, q]; rfl
        · right; right; right; right; rw [k9.1, q]; rfl
        · have k10 := k9.2 (by omega) (by omega)
          right; left; exact ⟨by rw [k9.1, q1]; rfl, _, q2, k10.1⟩
        · have k10 := k9.2 (by omega) (by omega)
          right; right; left; exact ⟨by rw [k9.1, q1]; rfl, ⟨_, q2, k10.1⟩, _, q3, k10.2⟩
        · have k10 := k9.2 (by omega) (by omega)
          right; right; right; left; exact ⟨by rw [k9.1, q1]; rfl, ⟨_, q2, k10.1⟩, _, q3, q4, k10.2⟩
      · rw [rv (v2 + 1) (by omega) (by omega), rv (v2 + 2) (by omega) (by omega), rv (v2 + 3) (by omega) (by omega)]
        have k9 := kd.2 i hi
        have b9 := bl i hi
        refine ⟨by rw [b9.1, k9.1], fun w => ?_⟩
        have hx : 1 ≤ (R.2.getD i (0, 0, 0)).1 ∧ (R.2.getD i (0, 0, 0)).1 ≤ 3 := by
          have hb : (R.2.getD i (0, 0, 0)).1 ≤ 4 := by rcases hok.2 i hi with q | q | ⟨q1, q2⟩ | ⟨q1, q2, q3⟩ | ⟨q1, q2, q3, q4⟩ <;> omega
          rw [k9.1] at w
          rcases w with q | q | q
          · have := (nI_eq (b := 1) (by omega) (by decide)).mp q; omega
          · have := (nI_eq (b := 2) (by omega) (by decide)).mp q; omega
          · have := (nI_eq (b := 3) (by omega) (by decide)).mp q; omega
        have k10 := k9.2 hx.1 hx.2
        exact ⟨by rw [b9.2.1, k10.1], by rw [b9.2.2, k10.2]⟩
    · rw [fr.2.2.1 2 (by decide) (by decide) (by decide) (by decide), eh2]; exact (show (sI h1 2 1 0).1 2 1 = 0 from sI_eq)
  · have hM0 : MM (d + 43 + 6) 70 [.ref 4, .ref v2, .ref g] h (fun w h2 => w = some (.int (nI R.1)) ∧ Std h2 ∧ KVF h h2 v2 R.1) := k_readEvening (d := d + 43) hS hv2 (by omega) hg (by omega) (by omega) hK0 hCH t1 t2 hN.2.1 (fun hF2 => absurd (by rw [hRR]; exact hF2) hF) (fun _ h2 q => by rw [← hRR] at q ⊢; exact ⟨rfl, q.1.std hS, q⟩)
    refine M_mono ?_ (M_nz hz (c_eveningF (d := d + 43) (e := ev) (F := R.1) hS h7 hg h10 hv2 (fun q => hF ((nI_eq (b := 0) (by omega) (by decide)).mp q)) hM0))
    rintro _ h2 ⟨⟨rfl, h1, hq, eh2⟩, hz2⟩
    refine ⟨_, rfl, ?_⟩
    obtain ⟨hf, hq4⟩ := hq
    have k1 : ∀ a, a ≠ 2 → a ≠ 4 → (a < v2 ∨ v2 + 3 < a) → h1.1 a = h.1 a := fun a q1 q2 q3 => hf.2.2.2.1 a q1 q2 q3
    have r2 : ∀ a, a ≠ 2 → h2.1 a = h1.1 a := fun a q => by rw [eh2]; exact sI_ne q
    have e22 : h2.2 = h1.2 := by rw [eh2]; rfl
    have hS2 : Std h2 := by rw [eh2]; exact hf.std hS
    have hC2 : CHr (h2.1 184) ch len := by rw [r2 184 (by decide), k1 184 (by decide) (by decide) (by omega)]; exact hCH4
    have hl2 : h2.1 183 2 = nI len := by rw [r2 183 (by decide), k1 183 (by decide) (by decide) (by omega)]; exact t3
    have hWd2 : WdR h2 := fun j hj => by rw [e22, hf.2.2.1 188 (by decide)]; exact hN3 j hj
    have hW2 : NW h2 W m := ⟨by rw [r2 183 (by decide), k1 183 (by decide) (by decide) (by omega)]; exact hN1, hm7, fun k hk => ⟨(hWW k hk).1, by rw [e22, hf.2.2.1 192 (by decide)]; exact (hWW k hk).2.2⟩⟩
    refine M_mono ?_ (M_nz hz2 (r_evening (d := d + 44) (k := h2) (Q := fun w h3 => w = some (.int (nI R.1)) ∧ FV4 h2 h3 ∧ ∀ j, j < 125 → h3.1 194 j = h2.1 194 j) hS2 hC2 t1 hl2 hWd2 hW2 hB hN hRR (fun _ h3 a b => ⟨rfl, a, b⟩) (fun q => absurd q hF)))
    rintro _ h3 ⟨⟨rfl, fr, b4⟩, hz3⟩
    have hS3 : Std h3 := by
      have := hS2
      unfold Std at this ⊢
      rw [fr.1]
      exact this
    have r3 : ∀ a, a ≠ 2 → a ≠ 4 → a ≠ 183 → a ≠ 185 → a ≠ 186 → a ≠ 194 → (a < v2 ∨ v2 + 3 < a) → h3.1 a = h.1 a := fun a q1 q2 q3 q4 q5 q6 q7 => by rw [fr.2.2.1 a q3 q4 q5 q6, r2 a q1]; exact k1 a q1 q2 q7
    refine ⟨rfl, CI_ev (v2 := v2) hC0 hS3 hz3 hv2 ⟨?_, ?_⟩ (fun a p1 p2 => by rw [fr.2.1 a p2, e22]; exact hf.2.2.1 a p1) r3 ⟨?_, ?_⟩ (fun m' e16 hm' => ?_) ⟨?_, fr.2.2.2.2⟩⟩
    · rw [fr.1, e22]; exact hf.2.1 1 7 (by decide)
    · rw [fr.1, e22]; exact hf.2.1 1 8 (by decide)
    · rw [fr.2.2.2.1 16 (by decide) (by decide) (by decide) (by decide) (by decide), r2 183 (by decide), k1 183 (by decide) (by decide) (by omega)]
    · rw [fr.2.2.2.1 23 (by decide) (by decide) (by decide) (by decide) (by decide), r2 183 (by decide), k1 183 (by decide) (by decide) (by omega)]
    · have em : m' = m := (nI_eq (by omega) (by omega)).mp (e16.symm.trans hN1)
      subst em
      have rv : ∀ a, ev ≤ a → a ≤ ev + 3 → h3.1 a = h.1 a := fun a q1 q2 => r3 a (by omega) (by omega) (by omega) (by omega) (by omega) (by omega) (by omega)
      have b5 : ∀ j, j < 125 → h3.1 194 j = h.1 194 j := fun j hj => by rw [b4 j hj, r2 194 (by decide), k1 194 (by decide) (by decide) (by omega)]
      refine ⟨ev, ln, hv, by rw [fr.1, e22]; exact (hf.2.1 1 9 (by decide)).trans h9, ⟨v2, hv2, hnv, by rw [fr.1, e22]; exact (hf.2.1 1 10 (by decide)).trans h10⟩, by rw [rv ev (by omega) (by omega)]; exact hln, ?_, ?_⟩
      · rw [rv (ev + 1) (by omega) (by omega), rv (ev + 2) (by omega) (by omega), rv (ev + 3) (by omega) (by omega)]; exact hLV
      · rw [rv (ev + 1) (by omega) (by omega), rv (ev + 2) (by omega) (by omega), rv (ev + 3) (by omega) (by omega)]
        have hb := hLV.1
        refine ⟨by rw [b5 0 (by decide)]; exact hLN.1, fun i hi => ?_⟩
        rw [b5 _ (by omega), b5 _ (by omega), b5 _ (by omega)]; exact hLN.2 i hi
    · rw [fr.2.2.1 2 (by decide) (by decide) (by decide) (by decide), eh2]; exact sI_eq
