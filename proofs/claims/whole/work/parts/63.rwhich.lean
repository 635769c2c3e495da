/-! ===== the reference: which, look ===== -/
/-- a fire in which one has been given the full heat -/
noncomputable abbrev FL (F : FS) (e : Nat) : FS := it (fullS (1 <<< (nI e &&& 31))) 7 0 F
theorem one_bit {e a : Nat} (he : e < 32) (ha : a < 32) : bitI (1 <<< (nI e &&& 31)) (nI a) ↔ a = e := by
  rw [bitI_bt ha, b_one he ha]
  exact ⟨of_decide_eq_true, fun q => decide_eq_true q⟩
theorem full_go {F : FS} {e : Nat} (he : e < 7) (hh : hasF F (nI e)) : ∀ (j i : Nat) (G : FS), i + j ≤ 7 → G.1 = F.1 → it (fullS (1 <<< (nI e &&& 31))) j i G = if i ≤ e ∧ e < i + j then (G.1, fup G.2.1 e 20, G.2.2) else G := by
  intro j
  induction j with
  | zero => intro i G _ _; rw [if_neg (by omega)]; rfl
  | succ j ih =>
    intro i G h1 hG
    rw [it_step]
    by_cases hie : i = e
    · subst hie
      rw [full_t (by omega) ((one_bit (by omega) (by omega)).mpr rfl) ((hasF_cg (by omega) (by rw [hG])).mpr hh), ih (i + 1) (G.1, fup G.2.1 i 20, G.2.2) (by omega) hG, if_neg (by omega), if_pos (by omega)]
    · rw [full_f (fun q => hie ((one_bit (by omega) (by omega)).mp q)), ih (i + 1) _ (by omega) hG]
      by_cases h2 : i ≤ e ∧ e < i + (j + 1)
      · rw [if_pos h2, if_pos (by omega)]
      · rw [if_neg h2, if_neg (by omega)]
theorem FL_eq {F : FS} {e : Nat} (he : e < 7) (hh : hasF F (nI e)) : FL F e = (F.1, fup F.2.1 e 20, F.2.2) := by
  rw [FL, full_go he hh 7 0 F (by omega) rfl, if_pos (by omega)]
theorem FW_FL {m T e : Nat} {F : FS} (hW : FW m T F) : FW m T (FL F e) := FW_fulls hW
/-- what was told, in a row of the reference -/
def RT (s : Nat → Int32) (b tn : Nat) (E H L : Nat → Int32) : Prop := s (b + 23) = nI tn ∧ ∀ k, k < tn → s (b + 24 + 3 * k) = E k ∧ s (b + 25 + 3 * k) = H k ∧ s (b + 26 + 3 * k) = L k
def TV (m tn : Nat) (E H L : Nat → Int32) : Prop := tn ≤ 6 ∧ ∀ k, k < tn → (∃ e : Nat, e < m ∧ E k = nI e) ∧ (∃ q : Nat, q ≤ 12 ∧ H k = nI q) ∧ (L k = 0 ∨ L k = 1)
theorem RT.zf {A : Nat → Prop} {k S : AHP} {b tn : Nat} {E H L : Nat → Int32} (hB : RT (k.1 197) b tn E H L) (hz : Zf A k S) (htn : tn ≤ 6) (hA : ∀ i, b ≤ i → i < b + 42 → ¬ A i) : RT (S.1 197) b tn E H L := by
  have hz2 := hz.2.2.2.2
  refine ⟨(hz2 _ (hA _ (by omega) (by omega))).trans hB.1, fun j hj => ?_⟩
  obtain ⟨h1, h2, h3⟩ := hB.2 j hj
  exact ⟨(hz2 _ (hA _ (by omega) (by omega))).trans h1, (hz2 _ (hA _ (by omega) (by omega))).trans h2, (hz2 _ (hA _ (by omega) (by omega))).trans h3⟩
theorem trl42 : ∀ i, 0 ≤ i → i < 0 + 42 → ¬ trl i := fun i _ h q => by have := q.1; omega
noncomputable def fitK (h : AHP) (g n : Nat) (F : FS) (E H L : Nat → Int32) (e k : Nat) : Prop := (litH h g n (HN h g n (H k).toNatClampNeg (FL F e)) >>> (E k &&& 31)) &&& 1 = L k
noncomputable def susP (h : AHP) (g n : Nat) (F : FS) (tn : Nat) (E H L : Nat → Int32) (e : Nat) : Prop := hasF F (nI e) ∧ ∀ k, k < tn → fitK h g n F E H L e k
theorem lit_b2i {G : FS} {K : Nat → Int32} {C : Int32} {e : Nat} (he : e < 7) : (litB G K C >>> (nI e &&& 31)) &&& 1 = b2i (glP G K C e) := by
  rw [bit_and (by omega)]
  by_cases h : glP G K C e
  · rw [b2i_t h, if_pos ((bitI_bt (by omega)).mp ((litB_bit he).mpr h))]
  · rw [b2i_f h, if_neg (fun q => h ((litB_bit he).mp ((bitI_bt (by omega)).mpr q)))]
theorem lr_litFor {d : Nat} {k h : AHP} {m n g T : Nat} {F : FS} (hP : CP k h g n m) (hW : FW m T F) (hT : T < 90000) {q : Nat} (hq6 : q ≤ 50) {e : Nat} {Q : Option Value → AHP → Prop} : ∀ (j i : Nat) (S : AHP), i + j = q → Zf trl k S → RB (S.1 197) 882 (HN h g n i F) → (∀ S2, Zf trl k S2 → RB (S2.1 197) 882 (HN h g n q F) → TT (d + 5) 250 37 [some (.ref 183), some (.int (nI e)), some (.int (nI q)), some (.int (nI q))] [] S2 Q) → TT (d + 5) 250 18 [some (.ref 183), some (.int (nI e)), some (.int (nI q)), some (.int (nI i))] [] S Q := by
  intro j
  induction j with
  | zero =>
    intro i S hi hz hBt hq
    have hN : i = q := by omega
    have hm := hP.1.2.2.1
    have hS := (hP.zf hz).1.1
    have hE := (hP.zf hz).1.2.1
    have hWt := FW_HN (h := h) (g := g) (n := n) hm hW i
    refine t_go (op := o_iload 19 3) (fe_X12_litFor 18) (fun _ _ => rfl) ?_
    refine t_go (op := o_iload 20 2) (fe_X12_litFor 19) (fun _ _ => rfl) ?_
    refine t_ite (op := o_icmp 23 37 (fun x y => y ≤ x) (fun _ _ => inferInstance)) (fe_X12_litFor 20) g_icmp (fun c1 => ?_) (fun c1 => ?_)
    · have eN : nI i = nI q := by rw [hN]
      rw [eN]
      exact hq S hz (by rw [← hN]; exact hBt)
    · exact absurd (by rw [hN]; exact Int32.le_refl _) c1
  | succ j ih =>
    intro i S hi hz hBt hq
    have hi7 : i < q := by omega
    have hm := hP.1.2.2.1
    have hS := (hP.zf hz).1.1
    have hE := (hP.zf hz).1.2.1
    have hWt := FW_HN (h := h) (g := g) (n := n) hm hW i
    refine t_go (op := o_iload 19 3) (fe_X12_litFor 18) (fun _ _ => rfl) ?_
    refine t_go (op := o_iload 20 2) (fe_X12_litFor 19) (fun _ _ => rfl) ?_
    refine t_ite (op := o_icmp 23 37 (fun x y => y ≤ x) (fun _ _ => inferInstance)) (fe_X12_litFor 20) g_icmp (fun c1 => ?_) (fun c1 => ?_)
    · exact absurd c1 (nI_ge hi7 (by omega))
    · refine t_go (op := o_aload 24 0) (fe_X12_litFor 23) (fun _ _ => rfl) ?_
      refine t_go (op := o_ci 27 882) (fe_X12_litFor 24) (fun _ _ => rfl) ?_
      refine t_call (op := o_callV 30 215 2 11) (fe_X12_litFor 27) (g_callV hS (show (lay 183).1 = 11 by decide) (by decide) rfl rfl rfl (Nat.le_of_ble_eq_true rfl)) ?_
      refine M_mono ?_ (r_hour (b := 882) (hP.zf hz) hWt hBt (by decide) (by omega))
      rintro _ h2 ⟨rfl, hz2, hB2⟩
      replace hz := hz.tr (hz2.mono trl_b)
      clear hz2
      have hS := (hP.zf hz).1.1
      have hE := (hP.zf hz).1.2.1
      refine t_go (op := o_popI 31) (fe_X12_litFor 30) (fun _ _ => rfl) ?_
      refine t_go (op := o_iinc 34 3 1) (fe_X12_litFor 31) (fun _ _ => rfl) ?_
      refine t_go (op := o_goto 18) (fe_X12_litFor 34) (fun _ _ => rfl) ?_
      rw [nI_1]
      rw [← HN_succ] at hB2
      exact ih (i + 1) _ (by omega) hz hB2 hq
theorem r_litFor {d : Nat} {k h : AHP} {m n g T : Nat} {F : FS} (hP : CP k h g n m) (hW : FW m T F) (hB0 : RB (k.1 197) 0 F) (hT : T < 90000) {e q : Nat} (he : e < m) (hh : hasF F (nI e)) (hq6 : q ≤ 12) : MM (d + 5) 250 [.ref 183, .int (nI e), .int (nI q)] k (fun v h2 => v = none ∧ Zf trl k h2 ∧ RB (h2.1 197) 882 (HN h g n q (FL F e))) := by
  refine ⟨Nat.le_of_ble_eq_true rfl, ?_⟩
  have hm := hP.1.2.2.1
  have hS := hP.1.1
  have hE := hP.1.2.1
  have hz : Zf trl k k := Zf.rf
  refine t_go (op := o_aload 1 0) (fe_X12_litFor 0) (fun _ _ => rfl) ?_
  refine t_call (op := o_callV 4 229 1 11) (fe_X12_litFor 1) (g_callV hS (show (lay 183).1 = 11 by decide) (by decide) rfl rfl rfl (Nat.le_of_ble_eq_true rfl)) ?_
  refine M_mono ?_ (r_triesNow (hP.zf hz).1.1 (hB0.zf hz trl0))
  rintro _ h2 ⟨rfl, hz2, hBt⟩
  replace hz := hz.tr hz2
  clear hz2
  have hS := (hP.zf hz).1.1
  have hE := (hP.zf hz).1.2.1
  refine t_go (op := o_aload 5 0) (fe_X12_litFor 4) (fun _ _ => rfl) ?_
  refine t_go (op := o_getR 8 11 22) (fe_X12_litFor 5) (g_getR hS (show (lay 183).1 = 11 by decide) (by decide) (fr_11_22 hS) (by decide)) ?_
  refine t_go (op := o_ci 11 891) (fe_X12_litFor 8) (fun _ _ => rfl) ?_
  refine t_go (op := o_iload 12 1) (fe_X12_litFor 11) (fun _ _ => rfl) ?_
  refine t_go (op := o_i2 13 (fun x y => x + y)) (fe_X12_litFor 12) (fun _ _ => rfl) ?_
  refine t_go (op := o_ci 15 20) (fe_X12_litFor 13) (fun _ _ => rfl) ?_
  refine t_go (op := o_iast 16) (fe_X12_litFor 15) (g_iastN hS (show lay 197 = (20, 966) by decide) (nIa (nIl 891) rfl) (by omega) (by decide)) ?_
  have hz3 : Zf trl k (sI h2 197 (891 + e) 20) := Zf_st hz (by constructor <;> omega)
  have hBt2 : RB ((sI h2 197 (891 + e) 20).1 197) 882 (FL F e) := by
    rw [FL_eq (by omega) hh]
    exact RB_heat hBt (show e < 7 by omega)
  replace hz := hz3
  clear hz3
  replace hBt := hBt2
  clear hBt2
  have hWt : FW m T (FL F e) := FW_FL hW
  have hS := (hP.zf hz).1.1
  have hE := (hP.zf hz).1.2.1
  refine t_go (op := o_ci 17 0) (fe_X12_litFor 16) (fun _ _ => rfl) ?_
  refine t_go (op := o_istore 18 3) (fe_X12_litFor 17) (fun _ _ => rfl) ?_
  refine lr_litFor (F := FL F e) (hP.zf hz) hWt hT (q := q) (by omega) q 0 _ (by omega) Zf.rf hBt fun S2 hz2 hBt => ?_
  replace hz := hz.tr hz2
  clear hz2
  refine t_ret (op := o_vret) (fe_X12_litFor 37) (fun _ _ => rfl) ?_
  exact ⟨rfl, hz, hBt⟩
theorem lr_whI {d : Nat} {k h : AHP} {m n g T : Nat} {F : FS} (hP : CP k h g n m) (hW : FW m T F) (hB0 : RB (k.1 197) 0 F) (hT : T < 90000) {tn : Nat} {E H L : Nat → Int32} (hTV : TV m tn E H L) (hRT : RT (k.1 197) 0 tn E H L) {e : Nat} (he : e < m) {s : Int32} {Q : Option Value → AHP → Prop} : ∀ (j i : Nat) (S : AHP) (y : Int32) (x5 : Option Value), i + j = tn → Zf trl k S → y = b2i (hasF F (nI e) ∧ ∀ k', k' < i → fitK h g n F E H L e k') → (∀ S2 y x4 x5, Zf trl k S2 → y = b2i (susP h g n F tn E H L e) → TT (d + 6) 251 108 [some (.ref 183), some (.int s), some (.int (nI e)), some (.int y), x4, x5] [] S2 Q) → TT (d + 6) 251 22 [some (.ref 183), some (.int s), some (.int (nI e)), some (.int y), some (.int (nI i)), x5] [] S Q := by
  intro j
  induction j with
  | zero =>
    intro i S y x5 hi hz hy hq
    have hN : i = tn := by omega
    have hm := hP.1.2.2.1
    have hS := (hP.zf hz).1.1
    have hE := (hP.zf hz).1.2.1
    have h6 := hTV.1
    refine t_go (op := o_iload 24 4) (fe_X12_whichNow 22) (fun _ _ => rfl) ?_
    refine t_go (op := o_aload 25 0) (fe_X12_whichNow 24) (fun _ _ => rfl) ?_
    refine t_go (op := o_getR 28 11 22) (fe_X12_whichNow 25) (g_getR hS (show (lay 183).1 = 11 by decide) (by decide) (fr_11_22 hS) (by decide)) ?_
    refine t_go (op := o_ci 30 23) (fe_X12_whichNow 28) (fun _ _ => rfl) ?_
    refine t_go (op := o_iald 31) (fe_X12_whichNow 30) (g_ialdN hS (show lay 197 = (20, 966) by decide) (nIl 23) (by omega) (by decide)) ?_
    rw [show S.1 197 23 = nI tn from (hRT.zf hz hTV.1 trl42).1]
    refine t_ite (op := o_icmp 34 108 (fun x y => y ≤ x) (fun _ _ => inferInstance)) (fe_X12_whichNow 31) g_icmp (fun c1 => ?_) (fun c1 => ?_)
    · have hN2 : i = tn := by omega
      exact hq S y _ _ hz (by rw [hy, hN2]; rfl)
    · exact absurd (by rw [hN]; exact Int32.le_refl _) c1
  | succ j ih =>
    intro i S y x5 hi hz hy hq
    have hi7 : i < tn := by omega
    have hm := hP.1.2.2.1
    have hS := (hP.zf hz).1.1
    have hE := (hP.zf hz).1.2.1
    have h6 := hTV.1
    refine t_go (op := o_iload 24 4) (fe_X12_whichNow 22) (fun _ _ => rfl) ?_
    refine t_go (op := o_aload 25 0) (fe_X12_whichNow 24) (fun _ _ => rfl) ?_
    refine t_go (op := o_getR 28 11 22) (fe_X12_whichNow 25) (g_getR hS (show (lay 183).1 = 11 by decide) (by decide) (fr_11_22 hS) (by decide)) ?_
    refine t_go (op := o_ci 30 23) (fe_X12_whichNow 28) (fun _ _ => rfl) ?_
    refine t_go (op := o_iald 31) (fe_X12_whichNow 30) (g_ialdN hS (show lay 197 = (20, 966) by decide) (nIl 23) (by omega) (by decide)) ?_
    rw [show S.1 197 23 = nI tn from (hRT.zf hz hTV.1 trl42).1]
    refine t_ite (op := o_icmp 34 108 (fun x y => y ≤ x) (fun _ _ => inferInstance)) (fe_X12_whichNow 31) g_icmp (fun c1 => ?_) (fun c1 => ?_)
    · exact absurd c1 (nI_ge hi7 (by have := hTV.1; omega))
    · refine t_go (op := o_iload 35 3) (fe_X12_whichNow 34) (fun _ _ => rfl) ?_
      refine t_ite (op := o_if 38 108 (fun x => x = 0) (fun _ => inferInstance)) (fe_X12_whichNow 35) g_if (fun c2 => ?_) (fun c2 => ?_)
      · exact hq S y _ _ hz (by
          have h0 : ¬ (hasF F (nI e) ∧ ∀ k', k' < i → fitK h g n F E H L e k') := b2i_z (hy.symm.trans c2)
          rw [c2]
          exact (b2i_f fun q => h0 ⟨q.1, fun k' hk => q.2 k' (by omega)⟩).symm)
      · have hp := b2i_nn (fun z => c2 (hy.trans z))
        obtain ⟨⟨em, hem, eE⟩, ⟨qh, hqh, eH⟩, eL⟩ := hTV.2 i hi7
        have hr := (hRT.zf hz hTV.1 trl42).2 i hi7
        rw [Nat.zero_add, Nat.zero_add, Nat.zero_add] at hr
        refine t_go (op := o_ci 40 24) (fe_X12_whichNow 38) (fun _ _ => rfl) ?_
        refine t_go (op := o_ci 41 3) (fe_X12_whichNow 40) (fun _ _ => rfl) ?_
        refine t_go (op := o_iload 43 4) (fe_X12_whichNow 41) (fun _ _ => rfl) ?_
        refine t_go (op := o_i2 44 (fun x y => x * y)) (fe_X12_whichNow 43) (fun _ _ => rfl) ?_
        refine t_go (op := o_i2 45 (fun x y => x + y)) (fe_X12_whichNow 44) (fun _ _ => rfl) ?_
        refine t_go (op := o_istore 47 5) (fe_X12_whichNow 45) (fun _ _ => rfl) ?_
        refine t_go (op := o_aload 48 0) (fe_X12_whichNow 47) (fun _ _ => rfl) ?_
        refine t_go (op := o_iload 49 2) (fe_X12_whichNow 48) (fun _ _ => rfl) ?_
        refine t_go (op := o_aload 50 0) (fe_X12_whichNow 49) (fun _ _ => rfl) ?_
        refine t_go (op := o_getR 53 11 22) (fe_X12_whichNow 50) (g_getR hS (show (lay 183).1 = 11 by decide) (by decide) (fr_11_22 hS) (by decide)) ?_
        refine t_go (op := o_iload 55 5) (fe_X12_whichNow 53) (fun _ _ => rfl) ?_
        refine t_go (op := o_ci 56 1) (fe_X12_whichNow 55) (fun _ _ => rfl) ?_
        refine t_go (op := o_i2 57 (fun x y => x + y)) (fe_X12_whichNow 56) (fun _ _ => rfl) ?_
        refine t_go (op := o_iald 58) (fe_X12_whichNow 57) (g_ialdN hS (show lay 197 = (20, 966) by decide) (nIa (nIa (nIl 24) (nIm (nIl 3) rfl)) (nIl 1)) (by omega) (by decide)) ?_
        rw [show S.1 197 (24 + 3 * i + 1) = nI qh from by have := hr.2.1; rw [eH, show 25 + 3 * i = 24 + 3 * i + 1 by omega] at this; exact this]
        refine t_call (op := o_callV 61 250 3 11) (fe_X12_whichNow 58) (g_callV hS (show (lay 183).1 = 11 by decide) (by decide) rfl rfl rfl (Nat.le_of_ble_eq_true rfl)) ?_
        refine M_mono ?_ (r_litFor (hP.zf hz) hW (hB0.zf hz trl0) hT (e := e) (q := qh) (by omega) hp.1 (by omega))
        rintro _ h2 ⟨rfl, hz2, hBt⟩
        replace hz := hz.tr hz2
        clear hz2
        have hWt := FW_HN (h := h) (g := g) (n := n) hm (FW_FL (e := e) hW) qh
        have hS := (hP.zf hz).1.1
        have hE := (hP.zf hz).1.2.1
        refine t_go (op := o_aload 62 0) (fe_X12_whichNow 61) (fun _ _ => rfl) ?_
        refine t_go (op := o_ci 65 882) (fe_X12_whichNow 62) (fun _ _ => rfl) ?_
        refine t_go (op := o_aload 66 0) (fe_X12_whichNow 65) (fun _ _ => rfl) ?_
        refine t_go (op := o_getR 69 11 22) (fe_X12_whichNow 66) (g_getR hS (show (lay 183).1 = 11 by decide) (by decide) (fr_11_22 hS) (by decide)) ?_
        refine t_go (op := o_iload 71 5) (fe_X12_whichNow 69) (fun _ _ => rfl) ?_
        refine t_go (op := o_iald 72) (fe_X12_whichNow 71) (g_ialdN hS (show lay 197 = (20, 966) by decide) (nIa (nIl 24) (nIm (nIl 3) rfl)) (by omega) (by decide)) ?_
        rw [show h2.1 197 (24 + 3 * i) = nI em from by have := ((hRT.zf hz hTV.1 trl42).2 i hi7).1; rw [Nat.zero_add, eE] at this; exact this]
        refine t_call (op := o_callV 75 204 3 11) (fe_X12_whichNow 72) (g_callV hS (show (lay 183).1 = 11 by decide) (by decide) rfl rfl rfl (Nat.le_of_ble_eq_true rfl)) ?_
        refine M_eq (r_isAlight (b := 882) hS hWt.1 hBt (by decide) (e := em) (by omega) hm ((hP.zf hz).1.2.2.2.1 _ (by omega)) (hP.zf hz).1.2.2.2.2.1) ?_
        refine t_go (op := o_aload 76 0) (fe_X12_whichNow 75) (fun _ _ => rfl) ?_
        refine t_go (op := o_getR 79 11 22) (fe_X12_whichNow 76) (g_getR hS (show (lay 183).1 = 11 by decide) (by decide) (fr_11_22 hS) (by decide)) ?_
        refine t_go (op := o_iload 81 5) (fe_X12_whichNow 79) (fun _ _ => rfl) ?_
        refine t_go (op := o_ci 82 2) (fe_X12_whichNow 81) (fun _ _ => rfl) ?_
        refine t_go (op := o_i2 83 (fun x y => x + y)) (fe_X12_whichNow 82) (fun _ _ => rfl) ?_
        refine t_go (op := o_iald 84) (fe_X12_whichNow 83) (g_ialdN hS (show lay 197 = (20, 966) by decide) (nIa (nIa (nIl 24) (nIm (nIl 3) rfl)) (nIl 2)) (by omega) (by decide)) ?_
        rw [show h2.1 197 (24 + 3 * i + 2) = L i from by have := ((hRT.zf hz hTV.1 trl42).2 i hi7).2.2; rw [Nat.zero_add, show 26 + 3 * i = 24 + 3 * i + 2 by omega] at this; exact this]
        refine t_go (op := o_ci 85 1) (fe_X12_whichNow 84) (fun _ _ => rfl) ?_
        refine t_ite (op := o_icmp 92 88 (fun x y => x = y) (fun _ _ => inferInstance)) (fe_X12_whichNow 85) g_icmp (fun c3 => ?_) (fun c3 => ?_)
        · refine t_go (op := o_ci 89 1) (fe_X12_whichNow 88) (fun _ _ => rfl) ?_
          refine t_go (op := o_goto 93) (fe_X12_whichNow 89) (fun _ _ => rfl) ?_
          refine t_ite (op := o_icmp 100 96 (fun x y => x = y) (fun _ _ => inferInstance)) (fe_X12_whichNow 93) g_icmp (fun c4 => ?_) (fun c4 => ?_)
          · refine t_go (op := o_ci 97 1) (fe_X12_whichNow 96) (fun _ _ => rfl) ?_
            refine t_go (op := o_goto 101) (fe_X12_whichNow 97) (fun _ _ => rfl) ?_
            refine t_go (op := o_istore 102 3) (fe_X12_whichNow 101) (fun _ _ => rfl) ?_
            refine t_go (op := o_iinc 105 4 1) (fe_X12_whichNow 102) (fun _ _ => rfl) ?_
            refine t_go (op := o_goto 22) (fe_X12_whichNow 105) (fun _ _ => rfl) ?_
            rw [nI_1]
            refine ih (i + 1) _ _ _ (by omega) hz ?_ hq
            have eF : fitK h g n F E H L e i ↔ b2i (glP (HN h g n qh (FL F e)) (h.1 (g + 2)) (h.1 g 5) em) = L i := by
              unfold fitK
              rw [eE, eH, nI_clamp (by omega)]
              show (litB _ _ _ >>> _) &&& 1 = _ ↔ _
              rw [lit_b2i (by omega)]
            have eL2 : L i = 1 := c3
            have hs : (hasF F (nI e) ∧ ∀ k', k' < i + 1 → fitK h g n F E H L e k') ↔ fitK h g n F E H L e i := ⟨fun q => q.2 i (by omega), fun q => ⟨hp.1, fun k' hk => by
              by_cases hki : k' = i
              · rw [hki]; exact q
              · exact hp.2 k' (by omega)⟩⟩
            rw [b2i_cg hs, b2i_cg eF, eL2]
            exact (b2i_t c4).symm
          · refine t_go (op := o_ci 101 0) (fe_X12_whichNow 100) (fun _ _ => rfl) ?_
            refine t_go (op := o_istore 102 3) (fe_X12_whichNow 101) (fun _ _ => rfl) ?_
            refine t_go (op := o_iinc 105 4 1) (fe_X12_whichNow 102) (fun _ _ => rfl) ?_
            refine t_go (op := o_goto 22) (fe_X12_whichNow 105) (fun _ _ => rfl) ?_
            rw [nI_1]
            refine ih (i + 1) _ _ _ (by omega) hz ?_ hq
            have eF : fitK h g n F E H L e i ↔ b2i (glP (HN h g n qh (FL F e)) (h.1 (g + 2)) (h.1 g 5) em) = L i := by
              unfold fitK
              rw [eE, eH, nI_clamp (by omega)]
              show (litB _ _ _ >>> _) &&& 1 = _ ↔ _
              rw [lit_b2i (by omega)]
            have eL2 : L i = 1 := c3
            have hs : (hasF F (nI e) ∧ ∀ k', k' < i + 1 → fitK h g n F E H L e k') ↔ fitK h g n F E H L e i := ⟨fun q => q.2 i (by omega), fun q => ⟨hp.1, fun k' hk => by
              by_cases hki : k' = i
              · rw [hki]; exact q
              · exact hp.2 k' (by omega)⟩⟩
            rw [b2i_cg hs, b2i_cg eF, eL2]
            exact (b2i_f c4).symm
        · refine t_go (op := o_ci 93 0) (fe_X12_whichNow 92) (fun _ _ => rfl) ?_
          refine t_ite (op := o_icmp 100 96 (fun x y => x = y) (fun _ _ => inferInstance)) (fe_X12_whichNow 93) g_icmp (fun c5 => ?_) (fun c5 => ?_)
          · refine t_go (op := o_ci 97 1) (fe_X12_whichNow 96) (fun _ _ => rfl) ?_
            refine t_go (op := o_goto 101) (fe_X12_whichNow 97) (fun _ _ => rfl) ?_
            refine t_go (op := o_istore 102 3) (fe_X12_whichNow 101) (fun _ _ => rfl) ?_
            refine t_go (op := o_iinc 105 4 1) (fe_X12_whichNow 102) (fun _ _ => rfl) ?_
            refine t_go (op := o_goto 22) (fe_X12_whichNow 105) (fun _ _ => rfl) ?_
            rw [nI_1]
            refine ih (i + 1) _ _ _ (by omega) hz ?_ hq
            have eF : fitK h g n F E H L e i ↔ b2i (glP (HN h g n qh (FL F e)) (h.1 (g + 2)) (h.1 g 5) em) = L i := by
              unfold fitK
              rw [eE, eH, nI_clamp (by omega)]
              show (litB _ _ _ >>> _) &&& 1 = _ ↔ _
              rw [lit_b2i (by omega)]
            have eL2 : L i = 0 := (eL.resolve_right c3)
            have hs : (hasF F (nI e) ∧ ∀ k', k' < i + 1 → fitK h g n F E H L e k') ↔ fitK h g n F E H L e i := ⟨fun q => q.2 i (by omega), fun q => ⟨hp.1, fun k' hk => by
              by_cases hki : k' = i
              · rw [hki]; exact q
              · exact hp.2 k' (by omega)⟩⟩
            rw [b2i_cg hs, b2i_cg eF, eL2]
            exact (b2i_t c5).symm
          · refine t_go (op := o_ci 101 0) (fe_X12_whichNow 100) (fun _ _ => rfl) ?_
            refine t_go (op := o_istore 102 3) (fe_X12_whichNow 101) (fun _ _ => rfl) ?_
            refine t_go (op := o_iinc 105 4 1) (fe_X12_whichNow 102) (fun _ _ => rfl) ?_
            refine t_go (op := o_goto 22) (fe_X12_whichNow 105) (fun _ _ => rfl) ?_
            rw [nI_1]
            refine ih (i + 1) _ _ _ (by omega) hz ?_ hq
            have eF : fitK h g n F E H L e i ↔ b2i (glP (HN h g n qh (FL F e)) (h.1 (g + 2)) (h.1 g 5) em) = L i := by
              unfold fitK
              rw [eE, eH, nI_clamp (by omega)]
              show (litB _ _ _ >>> _) &&& 1 = _ ↔ _
              rw [lit_b2i (by omega)]
            have eL2 : L i = 0 := (eL.resolve_right c3)
            have hs : (hasF F (nI e) ∧ ∀ k', k' < i + 1 → fitK h g n F E H L e k') ↔ fitK h g n F E H L e i := ⟨fun q => q.2 i (by omega), fun q => ⟨hp.1, fun k' hk => by
              by_cases hki : k' = i
              · rw [hki]; exact q
              · exact hp.2 k' (by omega)⟩⟩
            rw [b2i_cg hs, b2i_cg eF, eL2]
            exact (b2i_f c5).symm
noncomputable def susG (h : AHP) (g n : Nat) (F : FS) (tn : Nat) (E H L : Nat → Int32) (e : Nat) (s : Int32) : Int32 := @ite _ (susP h g n F tn E H L e) (Classical.propDecidable _) (s ||| (1 <<< (nI e &&& 31))) s
theorem sus_m {h : AHP} {g n m tn : Nat} {F : FS} {E H L : Nat → Int32} (hV : FV m F) (hm : m ≤ 7) : it (susG h g n F tn E H L) 7 0 0 = it (susG h g n F tn E H L) m 0 0 := it_more hm fun t s h1 h2 => if_neg fun q => FV_no hV h2 h1 q.1
theorem lr_whO {d : Nat} {k h : AHP} {m n g T : Nat} {F : FS} (hP : CP k h g n m) (hW : FW m T F) (hB0 : RB (k.1 197) 0 F) (hT : T < 90000) {tn : Nat} {E H L : Nat → Int32} (hTV : TV m tn E H L) (hRT : RT (k.1 197) 0 tn E H L) {Q : Option Value → AHP → Prop} : ∀ (j i : Nat) (S : AHP) (s : Int32) (x3 x4 x5 : Option Value), i + j = m → Zf trl k S → (∀ S2, Zf trl k S2 → Q (some (.int (it (susG h g n F tn E H L) j i s))) S2) → TT (d + 6) 251 4 [some (.ref 183), some (.int s), some (.int (nI i)), x3, x4, x5] [] S Q := by
  intro j
  induction j with
  | zero =>
    intro i S s x3 x4 x5 hi hz hq
    have hN : i = m := by omega
    have hm := hP.1.2.2.1
    have hS := (hP.zf hz).1.1
    have hE := (hP.zf hz).1.2.1
    refine t_go (op := o_iload 5 2) (fe_X12_whichNow 4) (fun _ _ => rfl) ?_
    refine t_go (op := o_aload 6 0) (fe_X12_whichNow 5) (fun _ _ => rfl) ?_
    refine t_call (op := o_callV 9 200 1 11) (fe_X12_whichNow 6) (g_callV hS (show (lay 183).1 = 11 by decide) (by decide) rfl rfl rfl (Nat.le_of_ble_eq_true rfl)) ?_
    refine M_eq (r_embers hS hE) ?_
    refine t_ite (op := o_icmp 12 128 (fun x y => y ≤ x) (fun _ _ => inferInstance)) (fe_X12_whichNow 9) g_icmp (fun c1 => ?_) (fun c1 => ?_)
    · refine t_go (op := o_iload 129 1) (fe_X12_whichNow 128) (fun _ _ => rfl) ?_
      refine t_ret (op := o_iret) (fe_X12_whichNow 129) (fun _ _ => rfl) ?_
      exact hq S hz
    · exact absurd (by rw [hN]; exact Int32.le_refl _) c1
  | succ j ih =>
    intro i S s x3 x4 x5 hi hz hq
    have hi7 : i < m := by omega
    have hm := hP.1.2.2.1
    have hS := (hP.zf hz).1.1
    have hE := (hP.zf hz).1.2.1
    refine t_go (op := o_iload 5 2) (fe_X12_whichNow 4) (fun _ _ => rfl) ?_
    refine t_go (op := o_aload 6 0) (fe_X12_whichNow 5) (fun _ _ => rfl) ?_
    refine t_call (op := o_callV 9 200 1 11) (fe_X12_whichNow 6) (g_callV hS (show (lay 183).1 = 11 by decide) (by decide) rfl rfl rfl (Nat.le_of_ble_eq_true rfl)) ?_
    refine M_eq (r_embers hS hE) ?_
    refine t_ite (op := o_icmp 12 128 (fun x y => y ≤ x) (fun _ _ => inferInstance)) (fe_X12_whichNow 9) g_icmp (fun c1 => ?_) (fun c1 => ?_)
    · exact absurd c1 (nI_ge hi7 (by omega))
    · refine t_go (op := o_aload 13 0) (fe_X12_whichNow 12) (fun _ _ => rfl) ?_
      refine t_go (op := o_ci 14 0) (fe_X12_whichNow 13) (fun _ _ => rfl) ?_
      refine t_go (op := o_iload 15 2) (fe_X12_whichNow 14) (fun _ _ => rfl) ?_
      refine t_call (op := o_callV 18 203 3 11) (fe_X12_whichNow 15) (g_callV hS (show (lay 183).1 = 11 by decide) (by decide) rfl rfl rfl (Nat.le_of_ble_eq_true rfl)) ?_
      refine M_eq (r_isThere (b := 0) hS hW.1 (hB0.zf hz trl0) (by decide) (e := i) (by omega)) ?_
      refine t_go (op := o_istore 19 3) (fe_X12_whichNow 18) (fun _ _ => rfl) ?_
      refine t_go (op := o_ci 20 0) (fe_X12_whichNow 19) (fun _ _ => rfl) ?_
      refine t_go (op := o_istore 22 4) (fe_X12_whichNow 20) (fun _ _ => rfl) ?_
      refine lr_whI hP hW hB0 hT hTV hRT (e := i) (by omega) tn 0 _ _ _ (by omega) hz (b2i_cg ⟨fun q => ⟨q, fun _ hk => absurd hk (Nat.not_lt_zero _)⟩, fun q => q.1⟩) fun S2 y x4 x5 hz hy => ?_
      have hS := (hP.zf hz).1.1
      have hE := (hP.zf hz).1.2.1
      refine t_go (op := o_iload 109 1) (fe_X12_whichNow 108) (fun _ _ => rfl) ?_
      refine t_go (op := o_iload 110 3) (fe_X12_whichNow 109) (fun _ _ => rfl) ?_
      refine t_ite (op := o_if 113 119 (fun x => x = 0) (fun _ => inferInstance)) (fe_X12_whichNow 110) g_if (fun c2 => ?_) (fun c2 => ?_)
      · refine t_go (op := o_ci 120 0) (fe_X12_whichNow 119) (fun _ _ => rfl) ?_
        refine t_go (op := o_i2 121 (fun x y => x ||| y)) (fe_X12_whichNow 120) (fun _ _ => rfl) ?_
        refine t_go (op := o_istore 122 1) (fe_X12_whichNow 121) (fun _ _ => rfl) ?_
        refine t_go (op := o_iinc 125 2 1) (fe_X12_whichNow 122) (fun _ _ => rfl) ?_
        refine t_go (op := o_goto 4) (fe_X12_whichNow 125) (fun _ _ => rfl) ?_
        have eS : susG h g n F tn E H L i s = _ := if_neg (b2i_z (hy.symm.trans c2))
        rw [it_step, eS] at hq
        rw [← Int32.or_zero (a := s)] at hq
        rw [nI_1]
        exact ih (i + 1) _ _ _ _ _ (by omega) hz hq
      · refine t_go (op := o_ci 114 1) (fe_X12_whichNow 113) (fun _ _ => rfl) ?_
        refine t_go (op := o_iload 115 2) (fe_X12_whichNow 114) (fun _ _ => rfl) ?_
        refine t_go (op := o_i2 116 (fun x y => x <<< (y &&& 31))) (fe_X12_whichNow 115) (fun _ _ => rfl) ?_
        refine t_go (op := o_goto 120) (fe_X12_whichNow 116) (fun _ _ => rfl) ?_
        refine t_go (op := o_i2 121 (fun x y => x ||| y)) (fe_X12_whichNow 120) (fun _ _ => rfl) ?_
        refine t_go (op := o_istore 122 1) (fe_X12_whichNow 121) (fun _ _ => rfl) ?_
        refine t_go (op := o_iinc 125 2 1) (fe_X12_whichNow 122) (fun _ _ => rfl) ?_
        refine t_go (op := o_goto 4) (fe_X12_whichNow 125) (fun _ _ => rfl) ?_
        have eS : susG h g n F tn E H L i s = _ := if_pos (b2i_nn (fun z => c2 (hy.trans z)))
        rw [it_step, eS] at hq
        rw [nI_1]
        exact ih (i + 1) _ _ _ _ _ (by omega) hz hq
theorem r_whichNow {d : Nat} {k h : AHP} {m n g T : Nat} {F : FS} (hP : CP k h g n m) (hW : FW m T F) (hB0 : RB (k.1 197) 0 F) (hT : T < 90000) {tn : Nat} {E H L : Nat → Int32} (hTV : TV m tn E H L) (hRT : RT (k.1 197) 0 tn E H L) : MM (d + 6) 251 [.ref 183] k (fun v h2 => v = some (.int (it (susG h g n F tn E H L) 7 0 0)) ∧ Zf trl k h2) := by
  refine ⟨Nat.le_of_ble_eq_true rfl, ?_⟩
  have hm := hP.1.2.2.1
  have hS := hP.1.1
  have hE := hP.1.2.1
  have hz : Zf trl k k := Zf.rf
  refine t_go (op := o_ci 1 0) (fe_X12_whichNow 0) (fun _ _ => rfl) ?_
  refine t_go (op := o_istore 2 1) (fe_X12_whichNow 1) (fun _ _ => rfl) ?_
  refine t_go (op := o_ci 3 0) (fe_X12_whichNow 2) (fun _ _ => rfl) ?_
  refine t_go (op := o_istore 4 2) (fe_X12_whichNow 3) (fun _ _ => rfl) ?_
  exact lr_whO hP hW hB0 hT hTV hRT m 0 _ 0 _ _ _ (by omega) hz fun S2 hz => ⟨by rw [sus_m hW.1 hm], hz⟩
theorem r_which {d : Nat} {k h : AHP} {m n g T : Nat} {F : FS} (hP : CP k h g n m) (hW : FW m T F) (hB0 : RB (k.1 197) 0 F) (hT : T < 90000)  {tn : Nat} {E H L : Nat → Int32} (hTV : TV m tn E H L) (hRT : RT (k.1 197) 0 tn E H L) : MM (d + 7) 252 [.ref 183] k (fun v h2 => v = some (.int (it (susG h g n F tn E H L) 7 0 0)) ∧ Zf trl k h2) := by
  refine ⟨Nat.le_of_ble_eq_true rfl, ?_⟩
  have hm := hP.1.2.2.1
  have hS := hP.1.1
  have hE := hP.1.2.1
  refine t_go (op := o_aload 1 0) (fe_X12_which 0) (fun _ _ => rfl) ?_
  refine t_go (op := o_ci 2 0) (fe_X12_which 1) (fun _ _ => rfl) ?_
  refine t_go (op := o_putI 5 11 0) (fe_X12_which 2) (g_putI hS (show (lay 183).1 = 11 by decide) (by decide)) ?_
  have hz : Zf trl k (sI k 183 0 0) := Zf_thr Zf.rf
  have hS := (hP.zf hz).1.1
  have hE := (hP.zf hz).1.2.1
  refine t_go (op := o_aload 6 0) (fe_X12_which 5) (fun _ _ => rfl) ?_
  refine t_call (op := o_callV 9 251 1 11) (fe_X12_which 6) (g_callV hS (show (lay 183).1 = 11 by decide) (by decide) rfl rfl rfl (Nat.le_of_ble_eq_true rfl)) ?_
  refine M_mono ?_ (r_whichNow (hP.zf hz) hW (hB0.zf hz trl0) hT hTV (hRT.zf hz hTV.1 trl42))
  rintro _ h2 ⟨rfl, hz2⟩
  replace hz := hz.tr hz2
  clear hz2
  have hS := (hP.zf hz).1.1
  have hE := (hP.zf hz).1.2.1
  refine t_ret (op := o_iret) (fe_X12_which 9) (fun _ _ => rfl) ?_
  exact ⟨rfl, hz⟩
