/-! ===== the reference: judged ===== -/
theorem lr_judge {d : Nat} {k h : AHP} {m n g T ln : Nat} {A E X : Nat → Int32} (hP : CP k h g n m) (hL : LN k ln A E X) (hV : LV m ln A E X) (hT : T < 90000) {y : Int32} {Q : Option Value → AHP → Prop} : ∀ (j i : Nat) (S : AHP) (a c : Int32) (G : FS) (x5 x6 x7 x8 : Option Value), i + j = ln → Zf trl k S → RB (S.1 197) 882 G → FW m (T + i) G → wrP a → wrP c → (∀ S2 x5 x6 x7 x8, Zf trl k S2 → RB (S2.1 197) 882 (it (jdS h g n A E X) j i (a, c, G)).2.2 → FW m (T + ln) (it (jdS h g n A E X) j i (a, c, G)).2.2 → TT (d + 5) 228 31 [some (.ref 183), some (.int y), some (.int (it (jdS h g n A E X) j i (a, c, G)).1), some (.int (it (jdS h g n A E X) j i (a, c, G)).2.1), some (.int (nI ln)), x5, x6, x7, x8] [] S2 Q) → TT (d + 5) 228 31 [some (.ref 183), some (.int y), some (.int a), some (.int c), some (.int (nI i)), x5, x6, x7, x8] [] S Q := by
  intro j
  induction j with
  | zero =>
    intro i S a c G x5 x6 x7 x8 hi hz hBt hWt ha hc hq
    have e : i = ln := by omega
    subst e
    exact hq S _ _ _ _ hz hBt hWt
  | succ j ih =>
    intro i S a c G x5 x6 x7 x8 hi hz hBt hWt ha hc hq
    have hi7 : i < ln := by omega
    have hq2 : ∀ S2 a2 c2 G2 x5 x6 x7 x8, jdS h g n A E X i (a, c, G) = (a2, c2, G2) → Zf trl k S2 → RB (S2.1 197) 882 G2 → FW m (T + (i + 1)) G2 → wrP a2 → wrP c2 → TT (d + 5) 228 31 [some (.ref 183), some (.int y), some (.int a2), some (.int c2), some (.int (nI (i + 1))), x5, x6, x7, x8] [] S2 Q := by
      intro S2 a2 c2 G2 x5 x6 x7 x8 eS hz2 hB2 hW2 ha2 hc2
      refine ih (i + 1) S2 a2 c2 G2 x5 x6 x7 x8 (by omega) hz2 hB2 hW2 ha2 hc2 ?_
      rw [it_step, eS] at hq
      exact hq
    rcases hV.2 i hi7 with h0 | ⟨h0, e, he, hE2⟩ | ⟨h0, ⟨e, he, hE2⟩, x, hx, hX⟩ | ⟨h0, ⟨e, he, hE2⟩, x, hx1, hx, hX⟩ | h0
    · exact jd_go0 hP hL hV.1 hT hi7 hz hBt hWt ha hc h0 hq2
    · exact jd_go1 hP hL hV.1 hT hi7 hz hBt hWt ha hc h0 he hE2 hq2
    · exact jd_go2 hP hL hV.1 hT hi7 hz hBt hWt ha hc h0 he hE2 hx hX hq2
    · exact jd_go3 hP hL hV.1 hT hi7 hz hBt hWt ha hc h0 he hE2 hx1 hx hX hq2
    · exact jd_go4 hP hL hV.1 hT hi7 hz hBt hWt ha hc h0 hq2
noncomputable def jdR (h : AHP) (g n : Nat) (F : FS) (A E X : Nat → Int32) (ln : Nat) (w : Int32) : Int32 := if w = 0 then (it (jdS h g n A E X) ln 0 (-1, -1, F)).1 else if w = 1 then (it (jdS h g n A E X) ln 0 (-1, -1, F)).2.1 else heatV (it (jdS h g n A E X) ln 0 (-1, -1, F)).2.2
set_option maxRecDepth 8000 in
theorem r_judged {d : Nat} {k h : AHP} {m n g T ln : Nat} {F : FS} {A E X : Nat → Int32} (hP : CP k h g n m) (hG : RG k m F) (hW : FW m T F) (hL : LN k ln A E X) (hV : LV m ln A E X) (hT : T < 90000) {y : Int32} (hy : ¬ y < 0 ∧ ¬ 2 < y) : MM (d + 5) 228 [.ref 183, .int y] k (fun v h2 => v = some (.int (jdR h g n F A E X ln y)) ∧ Zf trl k h2) := by
  refine ⟨Nat.le_of_ble_eq_true rfl, ?_⟩
  have hm := hP.1.2.2.1
  have hS := hP.1.1
  have hE := hP.1.2.1
  refine t_go (op := o_aload 1 0) (fe_X12_judged 0) (fun _ _ => rfl) ?_
  refine t_go (op := o_ci 2 0) (fe_X12_judged 1) (fun _ _ => rfl) ?_
  refine t_go (op := o_putI 5 11 0) (fe_X12_judged 2) (g_putI hS (show (lay 183).1 = 11 by decide) (by decide)) ?_
  have hz : Zf trl k (sI k 183 0 0) := Zf_thr Zf.rf
  have hS := (hP.zf hz).1.1
  have hE := (hP.zf hz).1.2.1
  refine t_go (op := o_iload 6 1) (fe_X12_judged 5) (fun _ _ => rfl) ?_
  refine t_go (op := o_ci 7 0) (fe_X12_judged 6) (fun _ _ => rfl) ?_
  refine t_go (op := o_ci 8 2) (fe_X12_judged 7) (fun _ _ => rfl) ?_
  refine t_call (op := o_callS 11 173 3) (fe_X12_judged 8) (g_callS rfl rfl rfl (Nat.le_of_ble_eq_true rfl)) ?_
  refine M_eq r_within ?_
  refine t_ite (op := o_if 17 14 (fun x => x = 0) (fun _ => inferInstance)) (fe_X12_judged 11) g_if (fun c1 => ?_) (fun c1 => ?_)
  · exact absurd hy (b2i_z c1)
  · replace c1 := b2i_nn c1
    refine t_go (op := o_aload 18 0) (fe_X12_judged 17) (fun _ _ => rfl) ?_
    refine t_go (op := o_ci 21 882) (fe_X12_judged 18) (fun _ _ => rfl) ?_
    refine t_call (op := o_callV 24 197 2 11) (fe_X12_judged 21) (g_callV hS (show (lay 183).1 = 11 by decide) (by decide) rfl rfl rfl (Nat.le_of_ble_eq_true rfl)) ?_
    refine M_mono ?_ (r_starts (b := 882) hS hE hm (hG.zf hz) (by decide))
    rintro _ h2 ⟨rfl, hz2, hBt⟩
    replace hz := hz.tr (hz2.mono trl_b)
    clear hz2
    have hS := (hP.zf hz).1.1
    have hE := (hP.zf hz).1.2.1
    refine t_go (op := o_ci 25 (-1)) (fe_X12_judged 24) (fun _ _ => rfl) ?_
    refine t_go (op := o_istore 26 2) (fe_X12_judged 25) (fun _ _ => rfl) ?_
    refine t_go (op := o_ci 27 (-1)) (fe_X12_judged 26) (fun _ _ => rfl) ?_
    refine t_go (op := o_istore 28 3) (fe_X12_judged 27) (fun _ _ => rfl) ?_
    refine t_go (op := o_ci 29 0) (fe_X12_judged 28) (fun _ _ => rfl) ?_
    refine t_go (op := o_istore 31 4) (fe_X12_judged 29) (fun _ _ => rfl) ?_
    refine lr_judge hP hL hV hT ln 0 _ (-1) (-1) F _ _ _ _ (by omega) hz hBt (FW_le hW (by omega)) (Or.inl rfl) (Or.inl rfl) fun S2 x5 x6 x7 x8 hz hBt hWt => ?_
    have hS := (hP.zf hz).1.1
    have hE := (hP.zf hz).1.2.1
    refine t_go (op := o_iload 33 4) (fe_X12_judged 31) (fun _ _ => rfl) ?_
    refine t_go (op := o_aload 34 0) (fe_X12_judged 33) (fun _ _ => rfl) ?_
    refine t_go (op := o_getR 37 11 19) (fe_X12_judged 34) (g_getR hS (show (lay 183).1 = 11 by decide) (by decide) (fr_11_19 hS) (by decide)) ?_
    refine t_go (op := o_ci 38 0) (fe_X12_judged 37) (fun _ _ => rfl) ?_
    refine t_go (op := o_iald 39) (fe_X12_judged 38) (g_ialdN hS (show lay 194 = (20, 250) by decide) (nIl 0) (by omega) (by decide)) ?_
    rw [show S2.1 194 0 = nI ln from (hL.zf hz).1]
    refine t_ite (op := o_icmp 42 271 (fun x y => y ≤ x) (fun _ _ => inferInstance)) (fe_X12_judged 39) g_icmp (fun c2 => ?_) (fun c2 => ?_)
    · refine t_go (op := o_iload 272 1) (fe_X12_judged 271) (fun _ _ => rfl) ?_
      refine t_ite (op := o_if 279 275 (fun x => x = 0) (fun _ => inferInstance)) (fe_X12_judged 272) g_if (fun c3 => ?_) (fun c3 => ?_)
      · refine t_go (op := o_iload 276 2) (fe_X12_judged 275) (fun _ _ => rfl) ?_
        refine t_go (op := o_goto 295) (fe_X12_judged 276) (fun _ _ => rfl) ?_
        refine t_ret (op := o_iret) (fe_X12_judged 295) (fun _ _ => rfl) ?_
        exact ⟨congrArg (fun z => some (Value.int z)) (show jdR _ _ _ _ _ _ _ _ _ = _ from (if_pos c3)).symm, hz⟩
      · refine t_go (op := o_iload 280 1) (fe_X12_judged 279) (fun _ _ => rfl) ?_
        refine t_go (op := o_ci 281 1) (fe_X12_judged 280) (fun _ _ => rfl) ?_
        refine t_ite (op := o_icmp 288 284 (fun x y => x = y) (fun _ _ => inferInstance)) (fe_X12_judged 281) g_icmp (fun c4 => ?_) (fun c4 => ?_)
        · refine t_go (op := o_iload 285 3) (fe_X12_judged 284) (fun _ _ => rfl) ?_
          refine t_go (op := o_goto 295) (fe_X12_judged 285) (fun _ _ => rfl) ?_
          refine t_ret (op := o_iret) (fe_X12_judged 295) (fun _ _ => rfl) ?_
          exact ⟨congrArg (fun z => some (Value.int z)) (show jdR _ _ _ _ _ _ _ _ _ = _ from (Eq.trans (if_neg c3) (if_pos c4))).symm, hz⟩
        · refine t_go (op := o_aload 289 0) (fe_X12_judged 288) (fun _ _ => rfl) ?_
          refine t_go (op := o_ci 292 882) (fe_X12_judged 289) (fun _ _ => rfl) ?_
          refine t_call (op := o_callV 295 216 2 11) (fe_X12_judged 292) (g_callV hS (show (lay 183).1 = 11 by decide) (by decide) rfl rfl rfl (Nat.le_of_ble_eq_true rfl)) ?_
          refine M_eq (r_heatOfAll (b := 882) (hP.zf hz).1 hWt.1 hBt (by decide)) ?_
          refine t_ret (op := o_iret) (fe_X12_judged 295) (fun _ _ => rfl) ?_
          exact ⟨congrArg (fun z => some (Value.int z)) (show jdR _ _ _ _ _ _ _ _ _ = _ from (Eq.trans (if_neg c3) (if_neg c4))).symm, hz⟩
    · exact absurd (Int32.le_refl _) c2
set_option maxRecDepth 8000 in
theorem r_judgedF {d : Nat} {k h : AHP} {m n g T ln : Nat} {F : FS} {A E X : Nat → Int32} (hP : CP k h g n m) (hG : RG k m F) (hW : FW m T F) (hL : LN k ln A E X) (hV : LV m ln A E X) (hT : T < 90000) {y : Int32} (hn : ¬ (¬ y < 0 ∧ ¬ 2 < y)) : MM (d + 5) 228 [.ref 183, .int y] k (fun v h2 => v = some (.int (-2)) ∧ Zf trl k h2) := by
  refine ⟨Nat.le_of_ble_eq_true rfl, ?_⟩
  have hm := hP.1.2.2.1
  have hS := hP.1.1
  have hE := hP.1.2.1
  refine t_go (op := o_aload 1 0) (fe_X12_judged 0) (fun _ _ => rfl) ?_
  refine t_go (op := o_ci 2 0) (fe_X12_judged 1) (fun _ _ => rfl) ?_
  refine t_go (op := o_putI 5 11 0) (fe_X12_judged 2) (g_putI hS (show (lay 183).1 = 11 by decide) (by decide)) ?_
  have hz : Zf trl k (sI k 183 0 0) := Zf_thr Zf.rf
  have hS := (hP.zf hz).1.1
  have hE := (hP.zf hz).1.2.1
  refine t_go (op := o_iload 6 1) (fe_X12_judged 5) (fun _ _ => rfl) ?_
  refine t_go (op := o_ci 7 0) (fe_X12_judged 6) (fun _ _ => rfl) ?_
  refine t_go (op := o_ci 8 2) (fe_X12_judged 7) (fun _ _ => rfl) ?_
  refine t_call (op := o_callS 11 173 3) (fe_X12_judged 8) (g_callS rfl rfl rfl (Nat.le_of_ble_eq_true rfl)) ?_
  refine M_eq r_within ?_
  refine t_ite (op := o_if 17 14 (fun x => x = 0) (fun _ => inferInstance)) (fe_X12_judged 11) g_if (fun c1 => ?_) (fun c1 => ?_)
  · replace c1 := b2i_z c1
    refine t_go (op := o_ci 16 (-2)) (fe_X12_judged 14) (fun _ _ => rfl) ?_
    refine t_ret (op := o_iret) (fe_X12_judged 16) (fun _ _ => rfl) ?_
    exact ⟨rfl, hz⟩
  · exact absurd (b2i_nn c1) hn
/-! ===== the reference: keeping ===== -/
abbrev pst (i : Nat) : Prop := 210 ≤ i ∧ i < 882
theorem pst0 : ∀ i, 0 ≤ i → i < 0 + 23 → ¬ pst i := fun i _ h q => by have := q.1; omega
theorem M_args2 {d k : Nat} {x y x' y' : Int32} {z : Value} {h : AHP} {P : Option Value → AHP → Prop} (e1 : x = x') (e2 : y = y') (hm : MM d k [.ref 183, .int x', .int y', z] h P) : MM d k [.ref 183, .int x, .int y, z] h P := by rw [e1, e2]; exact hm
theorem Zf.s23 {A : Nat → Prop} {k S : AHP} {u v : Int32} (hz : Zf A (sI k 183 23 u) S) : Zf A (sI k 183 23 v) (sI S 183 23 v) := by
  refine ⟨hz.1, hz.2.1, fun a ha => ?_, fun i hi => ?_, fun i hi => ?_⟩
  · rw [sI_ne (by omega), sI_ne (by omega)]
    have := hz.2.2.1 a ha
    rw [sI_ne (by omega)] at this
    exact this
  · by_cases h : i = 23
    · subst h; rw [sI_eq, sI_eq]
    · rw [sI_nr h, sI_nr h]
      have := hz.2.2.2.1 i hi
      rw [sI_nr h] at this
      exact this
  · rw [sI_ne (by decide), sI_ne (by decide)]
    have := hz.2.2.2.2 i hi
    rw [sI_ne (by decide)] at this
    exact this
theorem sI_id {k : AHP} {a i : Nat} : sI k a i (k.1 a i) = k := by
  refine AHP_ext (fun b j => ?_) rfl
  simp only [sI, up2]
  by_cases h : b = a
  · by_cases h2 : j = i
    · simp [h, h2]
    · simp [h, h2]
  · simp [h]
theorem RB_far {A : Nat → Prop} {k S : AHP} {b : Nat} {F : FS} (hB : RB (k.1 197) b F) (hz : Zf A k S) (hA : ∀ i, b ≤ i → i < b + 23 → ¬ A i) : RB (S.1 197) b F := hB.zf hz hA
def kpP (P : Nat → FS) (F : FS) (u a : Nat) : FS := if u = 16 then (if a = 15 then F else P (a + 1)) else (if a = u then F else P a)
def kpU (u : Nat) : Nat := if u = 16 then 16 else u + 1
theorem lr_keeps {d : Nat} {k : AHP} {P : Nat → FS} (hS0 : Std k) {Q : Option Value → AHP → Prop} : ∀ (j i : Nat) (S : AHP), i + j = 16 → Zf pst k S → 1 ≤ i → (∀ a, a < i - 1 → RB (S.1 197) (42 * (5 + a)) (P (a + 1))) → (∀ a, i ≤ a → a < 16 → RB (S.1 197) (42 * (5 + a)) (P a)) → (∀ S2 x1, Zf pst k S2 → (∀ a, a < 15 → RB (S2.1 197) (42 * (5 + a)) (P (a + 1))) → TT (d + 1) 199 43 [some (.ref 183), x1] [] S2 Q) → TT (d + 1) 199 11 [some (.ref 183), some (.int (nI i))] [] S Q := by
  intro j
  induction j with
  | zero =>
    intro i S hi hz hi1 hlo h16 hq
    have hN : i = 16 := by omega
    have hS := hz.std hS0
    refine t_go (op := o_iload 12 1) (fe_X12_keeps 11) (fun _ _ => rfl) ?_
    refine t_go (op := o_ci 14 16) (fe_X12_keeps 12) (fun _ _ => rfl) ?_
    refine t_ite (op := o_icmp 17 43 (fun x y => y ≤ x) (fun _ _ => inferInstance)) (fe_X12_keeps 14) g_icmp (fun c1 => ?_) (fun c1 => ?_)
    · exact hq S _ hz (fun a ha => hlo a (by omega))
    · exact absurd (by rw [hN]; exact Int32.le_refl _) c1
  | succ j ih =>
    intro i S hi hz hi1 hlo h16 hq
    have hi7 : i < 16 := by omega
    have hS := hz.std hS0
    refine t_go (op := o_iload 12 1) (fe_X12_keeps 11) (fun _ _ => rfl) ?_
    refine t_go (op := o_ci 14 16) (fe_X12_keeps 12) (fun _ _ => rfl) ?_
    refine t_ite (op := o_icmp 17 43 (fun x y => y ≤ x) (fun _ _ => inferInstance)) (fe_X12_keeps 14) g_icmp (fun c1 => ?_) (fun c1 => ?_)
    · exact absurd c1 (nI_ge hi7 (by decide))
    · refine t_go (op := o_aload 18 0) (fe_X12_keeps 17) (fun _ _ => rfl) ?_
      refine t_go (op := o_ci 20 42) (fe_X12_keeps 18) (fun _ _ => rfl) ?_
      refine t_go (op := o_ci 21 5) (fe_X12_keeps 20) (fun _ _ => rfl) ?_
      refine t_go (op := o_iload 22 1) (fe_X12_keeps 21) (fun _ _ => rfl) ?_
      refine t_go (op := o_i2 23 (fun x y => x + y)) (fe_X12_keeps 22) (fun _ _ => rfl) ?_
      refine t_go (op := o_i2 24 (fun x y => x * y)) (fe_X12_keeps 23) (fun _ _ => rfl) ?_
      refine t_go (op := o_ci 26 42) (fe_X12_keeps 24) (fun _ _ => rfl) ?_
      refine t_go (op := o_ci 27 5) (fe_X12_keeps 26) (fun _ _ => rfl) ?_
      refine t_go (op := o_iload 28 1) (fe_X12_keeps 27) (fun _ _ => rfl) ?_
      refine t_go (op := o_i2 29 (fun x y => x + y)) (fe_X12_keeps 28) (fun _ _ => rfl) ?_
      refine t_go (op := o_ci 30 1) (fe_X12_keeps 29) (fun _ _ => rfl) ?_
      refine t_go (op := o_i2 31 (fun x y => x - y)) (fe_X12_keeps 30) (fun _ _ => rfl) ?_
      refine t_go (op := o_i2 32 (fun x y => x * y)) (fe_X12_keeps 31) (fun _ _ => rfl) ?_
      refine t_go (op := o_ci 34 23) (fe_X12_keeps 32) (fun _ _ => rfl) ?_
      refine t_call (op := o_callV 37 196 4 11) (fe_X12_keeps 34) (g_callV hS (show (lay 183).1 = 11 by decide) (by decide) rfl rfl rfl (Nat.le_of_ble_eq_true rfl)) ?_
      refine M_args2 (nIm (nIl 42) (nIa (nIl 5) rfl)) (nIm (nIl 42) (nIs (nIa (nIl 5) rfl) (nIl 1) (by omega))) ?_
      refine M_mono ?_ (r_copies (p := 42 * (5 + i)) (q := 42 * (5 + i - 1)) (c := 23) hS (by omega) (by omega) (by omega))
      rintro _ h2 ⟨rfl, hz2, hc⟩
      refine t_go (op := o_iinc 40 1 1) (fe_X12_keeps 37) (fun _ _ => rfl) ?_
      refine t_go (op := o_goto 11) (fe_X12_keeps 40) (fun _ _ => rfl) ?_
      rw [nI_1]
      refine ih (i + 1) h2 (by omega) (hz.tr (hz2.mono (B := pst) (fun x q => ⟨by omega, by omega⟩))) (by omega) (fun a ha => ?_) (fun a h1 h2' => ?_) hq
      · by_cases hai : a = i - 1
        · subst hai
          have h9 := RB_copy hc (h16 i (by omega) (by omega))
          rw [show 42 * (5 + (i - 1)) = 42 * (5 + i - 1) by omega, show i - 1 + 1 = i by omega]
          exact h9
        · exact (hlo a (by omega)).zf hz2 (fun x h1 h2 q => by have := q.1; have := q.2; omega)
      · exact (h16 a (by omega) h2').zf hz2 (fun x h1 h2 q => by have := q.1; have := q.2; omega)
theorem r_keepsA {d : Nat} {k : AHP} {u : Nat} {F : FS} {P : Nat → FS} (hS : Std k) (hu : k.1 183 23 = nI u) (hB : RB (k.1 197) 0 F) (hPs : ∀ a, a < u → RB (k.1 197) (42 * (5 + a)) (P a)) (h16 : u < 16) : MM (d + 1) 199 [.ref 183] k (fun v h2 => v = none ∧ Zf pst (sI k 183 23 (nI (kpU u))) h2 ∧ ∀ a, a < kpU u → RB (h2.1 197) (42 * (5 + a)) (kpP P F u a)) := by
  refine ⟨Nat.le_of_ble_eq_true rfl, ?_⟩
  refine t_go (op := o_aload 1 0) (fe_X12_keeps 0) (fun _ _ => rfl) ?_
  refine t_go (op := o_getI 4 11 23) (fe_X12_keeps 1) (g_getI hS (show (lay 183).1 = 11 by decide) (by decide)) ?_
  rw [hu]
  refine t_go (op := o_ci 6 16) (fe_X12_keeps 4) (fun _ _ => rfl) ?_
  refine t_ite (op := o_icmp 53 9 (fun x y => x = y) (fun _ _ => inferInstance)) (fe_X12_keeps 6) g_icmp (fun c1 => ?_) (fun c1 => ?_)
  · exact absurd c1 (fun q => by have := nI_inj (a := u) (b := 16) (by omega) (by decide) q; omega)
  · refine t_go (op := o_aload 54 0) (fe_X12_keeps 53) (fun _ _ => rfl) ?_
    refine t_go (op := o_ci 55 0) (fe_X12_keeps 54) (fun _ _ => rfl) ?_
    refine t_go (op := o_ci 57 42) (fe_X12_keeps 55) (fun _ _ => rfl) ?_
    refine t_go (op := o_ci 58 5) (fe_X12_keeps 57) (fun _ _ => rfl) ?_
    refine t_go (op := o_aload 59 0) (fe_X12_keeps 58) (fun _ _ => rfl) ?_
    refine t_go (op := o_getI 62 11 23) (fe_X12_keeps 59) (g_getI hS (show (lay 183).1 = 11 by decide) (by decide)) ?_
    rw [hu]
    refine t_go (op := o_i2 63 (fun x y => x + y)) (fe_X12_keeps 62) (fun _ _ => rfl) ?_
    refine t_go (op := o_i2 64 (fun x y => x * y)) (fe_X12_keeps 63) (fun _ _ => rfl) ?_
    refine t_go (op := o_ci 66 23) (fe_X12_keeps 64) (fun _ _ => rfl) ?_
    refine t_call (op := o_callV 69 196 4 11) (fe_X12_keeps 66) (g_callV hS (show (lay 183).1 = 11 by decide) (by decide) rfl rfl rfl (Nat.le_of_ble_eq_true rfl)) ?_
    refine M_args2 rfl (nIm (nIl 42) (nIa (nIl 5) rfl)) ?_
    refine M_mono ?_ (r_copies (p := 0) (q := 42 * (5 + u)) (c := 23) hS (by omega) (by omega) (by omega))
    rintro _ h2 ⟨rfl, hz2, hc⟩
    replace hS := hz2.std hS
    refine t_go (op := o_aload 70 0) (fe_X12_keeps 69) (fun _ _ => rfl) ?_
    refine t_go (op := o_dupA 71) (fe_X12_keeps 70) (fun _ _ => rfl) ?_
    refine t_go (op := o_getI 74 11 23) (fe_X12_keeps 71) (g_getI hS (show (lay 183).1 = 11 by decide) (by decide)) ?_
    rw [show h2.1 183 23 = nI u from (hz2.2.2.2.1 23 (by decide)).trans hu]
    refine t_go (op := o_ci 75 1) (fe_X12_keeps 74) (fun _ _ => rfl) ?_
    refine t_go (op := o_i2 76 (fun x y => x + y)) (fe_X12_keeps 75) (fun _ _ => rfl) ?_
    refine t_go (op := o_putI 79 11 23) (fe_X12_keeps 76) (g_putI hS (show (lay 183).1 = 11 by decide) (by decide)) ?_
    refine t_ret (op := o_vret) (fe_X12_keeps 79) (fun _ _ => rfl) ?_
    dsimp only
    rw [show kpU u = u + 1 from if_neg (by omega), nI_1]
    have hz3 : Zf pst (sI k 183 23 (k.1 183 23)) h2 := by rw [sI_id]; exact hz2.mono (B := pst) (fun i q => ⟨by omega, by omega⟩)
    refine ⟨rfl, hz3.s23, fun a ha => ?_⟩
    show RB (h2.1 197) _ _
    rw [kpP, if_neg (by omega)]
    by_cases hau : a = u
    · subst hau
      rw [if_pos rfl]
      exact RB_copy hc hB
    · rw [if_neg hau]
      exact (hPs a (by omega)).zf hz2 (fun x h1 h2 q => by have := q.1; have := q.2; omega)
theorem r_keepsB {d : Nat} {k : AHP} {u : Nat} {F : FS} {P : Nat → FS} (hS : Std k) (hu : k.1 183 23 = nI u) (hB : RB (k.1 197) 0 F) (hPs : ∀ a, a < u → RB (k.1 197) (42 * (5 + a)) (P a)) (h16 : u = 16) : MM (d + 1) 199 [.ref 183] k (fun v h2 => v = none ∧ Zf pst (sI k 183 23 (nI (kpU u))) h2 ∧ ∀ a, a < kpU u → RB (h2.1 197) (42 * (5 + a)) (kpP P F u a)) := by
  refine ⟨Nat.le_of_ble_eq_true rfl, ?_⟩
  refine t_go (op := o_aload 1 0) (fe_X12_keeps 0) (fun _ _ => rfl) ?_
  refine t_go (op := o_getI 4 11 23) (fe_X12_keeps 1) (g_getI hS (show (lay 183).1 = 11 by decide) (by decide)) ?_
  rw [hu, show nI u = 16 by rw [h16]; rfl]
  refine t_go (op := o_ci 6 16) (fe_X12_keeps 4) (fun _ _ => rfl) ?_
  refine t_ite (op := o_icmp 53 9 (fun x y => x = y) (fun _ _ => inferInstance)) (fe_X12_keeps 6) g_icmp (fun c1 => ?_) (fun c1 => ?_)
  · clear c1
    refine t_go (op := o_ci 10 1) (fe_X12_keeps 9) (fun _ _ => rfl) ?_
    refine t_go (op := o_istore 11 1) (fe_X12_keeps 10) (fun _ _ => rfl) ?_
    refine lr_keeps (P := P) hS 15 1 k (by omega) Zf.rf (by omega) (fun a ha => by omega) (fun a h1 h2 => hPs a (by omega)) fun S2 x1 hz1 hlo => ?_
    replace hS := hz1.std hS
    refine t_go (op := o_aload 44 0) (fe_X12_keeps 43) (fun _ _ => rfl) ?_
    refine t_go (op := o_dupA 45) (fe_X12_keeps 44) (fun _ _ => rfl) ?_
    refine t_go (op := o_getI 48 11 23) (fe_X12_keeps 45) (g_getI hS (show (lay 183).1 = 11 by decide) (by decide)) ?_
    rw [show S2.1 183 23 = nI 16 from (hz1.2.2.2.1 23 (by decide)).trans (by rw [hu, h16])]
    refine t_go (op := o_ci 49 1) (fe_X12_keeps 48) (fun _ _ => rfl) ?_
    refine t_go (op := o_i2 50 (fun x y => x - y)) (fe_X12_keeps 49) (fun _ _ => rfl) ?_
    refine t_go (op := o_putI 53 11 23) (fe_X12_keeps 50) (g_putI hS (show (lay 183).1 = 11 by decide) (by decide)) ?_
    rw [show (fun x y : Int32 => x - y) (nI 16) 1 = nI 15 from rfl]
    refine t_go (op := o_aload 54 0) (fe_X12_keeps 53) (fun _ _ => rfl) ?_
    refine t_go (op := o_ci 55 0) (fe_X12_keeps 54) (fun _ _ => rfl) ?_
    refine t_go (op := o_ci 57 42) (fe_X12_keeps 55) (fun _ _ => rfl) ?_
    refine t_go (op := o_ci 58 5) (fe_X12_keeps 57) (fun _ _ => rfl) ?_
    refine t_go (op := o_aload 59 0) (fe_X12_keeps 58) (fun _ _ => rfl) ?_
    refine t_go (op := o_getI 62 11 23) (fe_X12_keeps 59) (g_getI hS (show (lay 183).1 = 11 by decide) (by decide)) ?_
    rw [sI_eq]
    refine t_go (op := o_i2 63 (fun x y => x + y)) (fe_X12_keeps 62) (fun _ _ => rfl) ?_
    refine t_go (op := o_i2 64 (fun x y => x * y)) (fe_X12_keeps 63) (fun _ _ => rfl) ?_
    refine t_go (op := o_ci 66 23) (fe_X12_keeps 64) (fun _ _ => rfl) ?_
    refine t_call (op := o_callV 69 196 4 11) (fe_X12_keeps 66) (g_callV hS (show (lay 183).1 = 11 by decide) (by decide) rfl rfl rfl (Nat.le_of_ble_eq_true rfl)) ?_
    refine M_args2 rfl (nIm (nIl 42) (nIa (nIl 5) rfl)) ?_
    refine M_mono ?_ (r_copies (k := sI S2 183 23 (nI 15)) (p := 0) (q := 42 * (5 + 15)) (c := 23) hS (by omega) (by omega) (by omega))
    rintro _ h2 ⟨rfl, hz2, hc⟩
    replace hS := hz2.std hS
    refine t_go (op := o_aload 70 0) (fe_X12_keeps 69) (fun _ _ => rfl) ?_
    refine t_go (op := o_dupA 71) (fe_X12_keeps 70) (fun _ _ => rfl) ?_
    refine t_go (op := o_getI 74 11 23) (fe_X12_keeps 71) (g_getI hS (show (lay 183).1 = 11 by decide) (by decide)) ?_
    rw [show h2.1 183 23 = nI 15 from (hz2.2.2.2.1 23 (by decide)).trans sI_eq]
    refine t_go (op := o_ci 75 1) (fe_X12_keeps 74) (fun _ _ => rfl) ?_
    refine t_go (op := o_i2 76 (fun x y => x + y)) (fe_X12_keeps 75) (fun _ _ => rfl) ?_
    refine t_go (op := o_putI 79 11 23) (fe_X12_keeps 76) (g_putI hS (show (lay 183).1 = 11 by decide) (by decide)) ?_
    refine t_ret (op := o_vret) (fe_X12_keeps 79) (fun _ _ => rfl) ?_
    dsimp only
    rw [show kpU u = 16 from if_pos h16, show nI 15 + 1 = nI 16 from rfl]
    have hz3 : Zf pst (sI k 183 23 (k.1 183 23)) S2 := by rw [sI_id]; exact hz1
    have hz4 : Zf pst (sI k 183 23 (nI 15)) h2 := hz3.s23.tr (hz2.mono (B := pst) (fun i q => ⟨by omega, by omega⟩))
    refine ⟨rfl, hz4.s23, fun a ha => ?_⟩
    show RB (h2.1 197) _ _
    rw [kpP, if_pos h16]
    by_cases hau : a = 15
    · subst hau
      rw [if_pos rfl]
      exact RB_copy hc (by rw [sI_ne (by decide)]; exact hB.zf hz1 pst0)
    · rw [if_neg hau]
      exact RB.zf (k := sI S2 183 23 (nI 15)) (by rw [sI_ne (by decide)]; exact hlo a (by omega)) hz2 (fun x h1 h2 q => by have := q.1; have := q.2; omega)
  · exact absurd (by decide) c1
theorem r_keeps {d : Nat} {k : AHP} {u : Nat} {F : FS} {P : Nat → FS} (hS : Std k) (hu : k.1 183 23 = nI u) (hB : RB (k.1 197) 0 F) (hPs : ∀ a, a < u → RB (k.1 197) (42 * (5 + a)) (P a)) (h16 : u ≤ 16) : MM (d + 1) 199 [.ref 183] k (fun v h2 => v = none ∧ Zf pst (sI k 183 23 (nI (kpU u))) h2 ∧ ∀ a, a < kpU u → RB (h2.1 197) (42 * (5 + a)) (kpP P F u a)) := by
  rcases Nat.lt_or_ge u 16 with h | h
  · exact r_keepsA hS hu hB hPs h
  · exact r_keepsB hS hu hB hPs (by omega)
