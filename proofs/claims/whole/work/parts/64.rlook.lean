/-! ===== the reference: look ===== -/
theorem T_heap {d k pc : Nat} {ls : ALS} {st : List Value} {h h' : AHP} {Q : Option Value → AHP → Prop} (e : h' = h) (ht : TT d k pc ls st h' Q) : TT d k pc ls st h Q := by rw [← e]; exact ht
theorem CP.r200 {k h : AHP} {g n m : Nat} {r : Nat → Int32} (hP : CP k h g n m) : CP (rowI k 200 r) h g n m := by
  unfold CP RH RD RLw at hP ⊢
  rw [rowI_ne (b := 189) (by decide), rowI_ne (b := 190) (by decide), rowI_ne (b := 191) (by decide)]
  exact hP
theorem r197 {k : AHP} {r : Nat → Int32} : (rowI k 200 r).1 197 = k.1 197 := rowI_ne (by decide)
theorem Zf.r200 {A : Nat → Prop} {k h2 : AHP} {r r2 : Nat → Int32} (hz : Zf A (rowI k 200 r) h2) : Zf A (rowI k 200 r2) (rowI h2 200 r2) := by
  refine ⟨hz.1, hz.2.1, fun a ha => ?_, fun i hi => ?_, fun i hi => ?_⟩
  · by_cases h : a = 200
    · subst h; rw [rowI_at, rowI_at]
    · rw [rowI_ne h, rowI_ne h]
      have := hz.2.2.1 a ha
      rw [rowI_ne h] at this
      exact this
  · rw [rowI_ne (by decide), rowI_ne (by decide)]
    have := hz.2.2.2.1 i hi
    rw [rowI_ne (by decide)] at this
    exact this
  · rw [r197, r197]
    have := hz.2.2.2.2 i hi
    rw [r197] at this
    exact this
noncomputable abbrev lookR (h : AHP) (g n : Nat) (F : FS) (q : Nat) : Nat → Int32 := fun t => litH h g n (HN h g n q (FL F t))
theorem lookA_t {R : Nat → Int32} {B : Int32} {e s : Nat} {a : Int32} (hs : s < 7) (hb : bitI B (nI s)) : lookA R B e s a = a + ((R s >>> (nI e &&& 31)) &&& 1) := by rw [lookA, if_pos hb, nI_clamp (by omega)]
theorem lookA_f {R : Nat → Int32} {B : Int32} {e s : Nat} {a : Int32} (hb : ¬ bitI B (nI s)) : lookA R B e s a = a := if_neg hb
theorem lookA_m {R : Nat → Int32} {B : Int32} {e m : Nat} (hm : m ≤ 7) (hB : ∀ s, m ≤ s → s < 7 → ¬ bitI B (nI s)) : it (lookA R B e) 7 0 0 = it (lookA R B e) m 0 0 := it_more hm fun t s h1 h2 => lookA_f (hB t h1 h2)
theorem le_lt_if (x y : Int32) : (if x ≤ y then y else x) = if x < y then y else x := by
  by_cases h : x < y
  · rw [if_pos h, if_pos (Int32.le_of_lt h)]
  · rw [if_neg h]
    by_cases h2 : x ≤ y
    · rw [if_pos h2]; exact Int32.le_antisymm (Int32.not_lt.mp h) h2
    · rw [if_neg h2]
set_option maxRecDepth 8000 in
theorem lr_lk0 {d : Nat} {k : AHP} (hS : Std k) {y B : Int32} {x4 x5 x6 : Option Value} {Q : Option Value → AHP → Prop} : ∀ (j i : Nat) (S : Nat → Int32), i + j = 7 → (∀ o, o < i → S o = 0) → (∀ r : Nat → Int32, (∀ o, o < 7 → r o = 0) → TT d 253 43 [some (.ref 183), some (.int y), some (.int B), some (.int 7), x4, x5, x6] [] (rowI k 200 r) Q) → TT d 253 24 [some (.ref 183), some (.int y), some (.int B), some (.int (nI i)), x4, x5, x6] [] (rowI k 200 S) Q := by
  intro j
  induction j with
  | zero =>
    intro i S hi h0 hq
    have hN : i = 7 := by omega
    refine t_go (op := o_iload 25 3) (fe_X12_look 24) (fun _ _ => rfl) ?_
    refine t_go (op := o_ci 27 7) (fe_X12_look 25) (fun _ _ => rfl) ?_
    refine t_ite (op := o_icmp 30 43 (fun x y => y ≤ x) (fun _ _ => inferInstance)) (fe_X12_look 27) g_icmp (fun c1 => ?_) (fun c1 => ?_)
    · have eN : nI i = 7 := by rw [hN]; rfl
      rw [eN]
      exact hq S (fun o ho => h0 o (by omega))
    · exact absurd (by rw [hN]; exact Int32.le_refl _) c1
  | succ j ih =>
    intro i S hi h0 hq
    have hi7 : i < 7 := by omega
    refine t_go (op := o_iload 25 3) (fe_X12_look 24) (fun _ _ => rfl) ?_
    refine t_go (op := o_ci 27 7) (fe_X12_look 25) (fun _ _ => rfl) ?_
    refine t_ite (op := o_icmp 30 43 (fun x y => y ≤ x) (fun _ _ => inferInstance)) (fe_X12_look 27) g_icmp (fun c1 => ?_) (fun c1 => ?_)
    · exact absurd c1 (nI_ge hi7 (by decide))
    · refine t_go (op := o_aload 31 0) (fe_X12_look 30) (fun _ _ => rfl) ?_
      refine t_go (op := o_getR 34 11 26) (fe_X12_look 31) (g_getR hS (show (lay 183).1 = 11 by decide) (by decide) (fr_11_26 hS) (by decide)) ?_
      refine t_go (op := o_iload 35 3) (fe_X12_look 34) (fun _ _ => rfl) ?_
      refine t_go (op := o_ci 36 0) (fe_X12_look 35) (fun _ _ => rfl) ?_
      refine t_go (op := o_iast 37) (fe_X12_look 36) (g_iastN hS (show lay 200 = (20, 7) by decide) rfl (by omega) (by decide)) ?_
      refine t_go (op := o_iinc 40 3 1) (fe_X12_look 37) (fun _ _ => rfl) ?_
      refine t_go (op := o_goto 24) (fe_X12_look 40) (fun _ _ => rfl) ?_
      rw [rowI_up]
      rw [nI_1]
      refine ih (i + 1) _ (by omega) (fun o ho => ?_) hq
      by_cases hoi : o = i
      · rw [hoi]; exact fup_eq
      · rw [fup_ne hoi]; exact h0 o (by omega)
set_option maxRecDepth 8000 in
theorem lr_lkI {d : Nat} {k h : AHP} {m n g T : Nat} {G : FS} (hP : CP k h g n m) (hWt : FW m T G) (hBt : RB (k.1 197) 882 G) {y e B : Int32} {r : Nat → Int32} {x5 x6 : Option Value} {Q : Option Value → AHP → Prop} : ∀ (j i : Nat) (S : Nat → Int32), i + j = m → (∀ o, o < 7 → S o = if o < i then r o + ((litH h g n G >>> (nI o &&& 31)) &&& 1) else r o) → (∀ r2 : Nat → Int32, ∀ x4, (∀ o, o < m → r2 o = r o + ((litH h g n G >>> (nI o &&& 31)) &&& 1)) → TT (d + 2) 253 113 [some (.ref 183), some (.int y), some (.int B), some (.int e), x4, x5, x6] [] (rowI k 200 r2) Q) → TT (d + 2) 253 71 [some (.ref 183), some (.int y), some (.int B), some (.int e), some (.int (nI i)), x5, x6] [] (rowI k 200 S) Q := by
  intro j
  induction j with
  | zero =>
    intro i S hi hr hq
    have hN : i = m := by omega
    have hm := hP.1.2.2.1
    have hS := hP.1.1
    refine t_go (op := o_iload 73 4) (fe_X12_look 71) (fun _ _ => rfl) ?_
    refine t_go (op := o_aload 74 0) (fe_X12_look 73) (fun _ _ => rfl) ?_
    refine t_call (op := o_callV 77 200 1 11) (fe_X12_look 74) (g_callV hS (show (lay 183).1 = 11 by decide) (by decide) rfl rfl rfl (Nat.le_of_ble_eq_true rfl)) ?_
    refine M_eq (r_embers (k := rowI k 200 S) hS (by rw [rowI_ne (by decide)]; exact hP.1.2.1)) ?_
    refine t_ite (op := o_icmp 80 113 (fun x y => y ≤ x) (fun _ _ => inferInstance)) (fe_X12_look 77) g_icmp (fun c1 => ?_) (fun c1 => ?_)
    · exact hq S _ (fun o ho => by rw [hr o (by omega), if_pos (by omega)])
    · exact absurd (by rw [hN]; exact Int32.le_refl _) c1
  | succ j ih =>
    intro i S hi hr hq
    have hi7 : i < m := by omega
    have hm := hP.1.2.2.1
    have hS := hP.1.1
    refine t_go (op := o_iload 73 4) (fe_X12_look 71) (fun _ _ => rfl) ?_
    refine t_go (op := o_aload 74 0) (fe_X12_look 73) (fun _ _ => rfl) ?_
    refine t_call (op := o_callV 77 200 1 11) (fe_X12_look 74) (g_callV hS (show (lay 183).1 = 11 by decide) (by decide) rfl rfl rfl (Nat.le_of_ble_eq_true rfl)) ?_
    refine M_eq (r_embers (k := rowI k 200 S) hS (by rw [rowI_ne (by decide)]; exact hP.1.2.1)) ?_
    refine t_ite (op := o_icmp 80 113 (fun x y => y ≤ x) (fun _ _ => inferInstance)) (fe_X12_look 77) g_icmp (fun c1 => ?_) (fun c1 => ?_)
    · exact absurd c1 (nI_ge hi7 (by omega))
    · refine t_go (op := o_aload 81 0) (fe_X12_look 80) (fun _ _ => rfl) ?_
      refine t_go (op := o_getR 84 11 26) (fe_X12_look 81) (g_getR hS (show (lay 183).1 = 11 by decide) (by decide) (fr_11_26 hS) (by decide)) ?_
      refine t_go (op := o_iload 86 4) (fe_X12_look 84) (fun _ _ => rfl) ?_
      refine t_go (op := o_dup2 87) (fe_X12_look 86) (fun _ _ => rfl) ?_
      refine t_go (op := o_iald 88) (fe_X12_look 87) (g_ialdN hS (show lay 200 = (20, 7) by decide) rfl (by omega) (by decide)) ?_
      rw [show (rowI k 200 S).1 200 i = r i from by rw [rowI_at, hr i (by omega), if_neg (by omega)]]
      refine t_go (op := o_aload 89 0) (fe_X12_look 88) (fun _ _ => rfl) ?_
      refine t_go (op := o_ci 92 882) (fe_X12_look 89) (fun _ _ => rfl) ?_
      refine t_go (op := o_iload 94 4) (fe_X12_look 92) (fun _ _ => rfl) ?_
      refine t_call (op := o_callV 97 204 3 11) (fe_X12_look 94) (g_callV hS (show (lay 183).1 = 11 by decide) (by decide) rfl rfl rfl (Nat.le_of_ble_eq_true rfl)) ?_
      refine M_eq (r_isAlight (k := rowI k 200 S) (b := 882) (K := h.1 (g + 2)) (C := h.1 g 5) hS hWt.1 (by rw [r197]; exact hBt) (by decide) (e := i) (by omega) hm (by rw [rowI_ne (by decide)]; exact hP.1.2.2.2.1 i (by omega)) (by rw [rowI_ne (by decide)]; exact hP.1.2.2.2.2.1)) ?_
      refine t_ite (op := o_if 100 104 (fun x => x = 0) (fun _ => inferInstance)) (fe_X12_look 97) g_if (fun c2 => ?_) (fun c2 => ?_)
      · replace c2 := b2i_z c2
        refine t_go (op := o_ci 105 0) (fe_X12_look 104) (fun _ _ => rfl) ?_
        refine t_go (op := o_i2 106 (fun x y => x + y)) (fe_X12_look 105) (fun _ _ => rfl) ?_
        refine t_go (op := o_iast 107) (fe_X12_look 106) (g_iastN hS (show lay 200 = (20, 7) by decide) rfl (by omega) (by decide)) ?_
        refine t_go (op := o_iinc 110 4 1) (fe_X12_look 107) (fun _ _ => rfl) ?_
        refine t_go (op := o_goto 71) (fe_X12_look 110) (fun _ _ => rfl) ?_
        rw [rowI_up]
        rw [nI_1]
        refine ih (i + 1) _ (by omega) (fun o ho => ?_) hq
        by_cases hoi : o = i
        · subst hoi
          rw [fup_eq, if_pos (by omega)]
          show _ = r o + ((litB _ _ _ >>> _) &&& 1)
          rw [lit_b2i (by omega), b2i_f c2]
        · rw [fup_ne hoi, hr o ho]
          by_cases h2 : o < i
          · rw [if_pos h2, if_pos (by omega)]
          · rw [if_neg h2, if_neg (by omega)]
      · replace c2 := b2i_nn c2
        refine t_go (op := o_ci 101 1) (fe_X12_look 100) (fun _ _ => rfl) ?_
        refine t_go (op := o_goto 105) (fe_X12_look 101) (fun _ _ => rfl) ?_
        refine t_go (op := o_i2 106 (fun x y => x + y)) (fe_X12_look 105) (fun _ _ => rfl) ?_
        refine t_go (op := o_iast 107) (fe_X12_look 106) (g_iastN hS (show lay 200 = (20, 7) by decide) rfl (by omega) (by decide)) ?_
        refine t_go (op := o_iinc 110 4 1) (fe_X12_look 107) (fun _ _ => rfl) ?_
        refine t_go (op := o_goto 71) (fe_X12_look 110) (fun _ _ => rfl) ?_
        rw [rowI_up]
        rw [nI_1]
        refine ih (i + 1) _ (by omega) (fun o ho => ?_) hq
        by_cases hoi : o = i
        · subst hoi
          rw [fup_eq, if_pos (by omega)]
          show _ = r o + ((litB _ _ _ >>> _) &&& 1)
          rw [lit_b2i (by omega), b2i_t c2]
        · rw [fup_ne hoi, hr o ho]
          by_cases h2 : o < i
          · rw [if_pos h2, if_pos (by omega)]
          · rw [if_neg h2, if_neg (by omega)]
set_option maxRecDepth 8000 in
theorem lr_lkO {d : Nat} {k h : AHP} {m n g T : Nat} {F : FS} (hP : CP k h g n m) (hW : FW m T F) (hB0 : RB (k.1 197) 0 F) (hT : T < 90000) {q : Nat} (hq6 : q ≤ 12) {B : Int32} (hB2 : ∀ e, e < m → bitI B (nI e) → hasF F (nI e)) {x5 x6 : Option Value} {Q : Option Value → AHP → Prop} : ∀ (j i : Nat) (S : AHP) (r : Nat → Int32) (x4 : Option Value), i + j = m → Zf trl (rowI k 200 r) S → (∀ o, o < m → r o = it (lookA (lookR h g n F q) B o) i 0 0) → (∀ S2 r x4, Zf trl (rowI k 200 r) S2 → (∀ o, o < m → r o = it (lookA (lookR h g n F q) B o) m 0 0) → TT (d + 6) 253 119 [some (.ref 183), some (.int (nI q)), some (.int B), some (.int (nI m)), x4, x5, x6] [] S2 Q) → TT (d + 6) 253 45 [some (.ref 183), some (.int (nI q)), some (.int B), some (.int (nI i)), x4, x5, x6] [] S Q := by
  intro j
  induction j with
  | zero =>
    intro i S r x4 hi hz hr hq
    have hN : i = m := by omega
    have hm := hP.1.2.2.1
    have hPS := (hP.r200 (r := r)).zf hz
    have hS := hPS.1.1
    have hE := hPS.1.2.1
    have hBS : RB (S.1 197) 0 F := RB.zf (k := rowI k 200 r) (by rw [r197]; exact hB0) hz trl0
    refine t_go (op := o_iload 46 3) (fe_X12_look 45) (fun _ _ => rfl) ?_
    refine t_go (op := o_aload 47 0) (fe_X12_look 46) (fun _ _ => rfl) ?_
    refine t_call (op := o_callV 50 200 1 11) (fe_X12_look 47) (g_callV hS (show (lay 183).1 = 11 by decide) (by decide) rfl rfl rfl (Nat.le_of_ble_eq_true rfl)) ?_
    refine M_eq (r_embers hS hE) ?_
    refine t_ite (op := o_icmp 53 119 (fun x y => y ≤ x) (fun _ _ => inferInstance)) (fe_X12_look 50) g_icmp (fun c1 => ?_) (fun c1 => ?_)
    · have eN : nI i = nI m := by rw [hN]
      rw [eN]
      exact hq S r _ hz (fun o ho => by rw [hr o ho, hN])
    · exact absurd (by rw [hN]; exact Int32.le_refl _) c1
  | succ j ih =>
    intro i S r x4 hi hz hr hq
    have hi7 : i < m := by omega
    have hm := hP.1.2.2.1
    have hPS := (hP.r200 (r := r)).zf hz
    have hS := hPS.1.1
    have hE := hPS.1.2.1
    have hBS : RB (S.1 197) 0 F := RB.zf (k := rowI k 200 r) (by rw [r197]; exact hB0) hz trl0
    refine t_go (op := o_iload 46 3) (fe_X12_look 45) (fun _ _ => rfl) ?_
    refine t_go (op := o_aload 47 0) (fe_X12_look 46) (fun _ _ => rfl) ?_
    refine t_call (op := o_callV 50 200 1 11) (fe_X12_look 47) (g_callV hS (show (lay 183).1 = 11 by decide) (by decide) rfl rfl rfl (Nat.le_of_ble_eq_true rfl)) ?_
    refine M_eq (r_embers hS hE) ?_
    refine t_ite (op := o_icmp 53 119 (fun x y => y ≤ x) (fun _ _ => inferInstance)) (fe_X12_look 50) g_icmp (fun c1 => ?_) (fun c1 => ?_)
    · exact absurd c1 (nI_ge hi7 (by omega))
    · refine t_go (op := o_iload 54 2) (fe_X12_look 53) (fun _ _ => rfl) ?_
      refine t_go (op := o_iload 55 3) (fe_X12_look 54) (fun _ _ => rfl) ?_
      refine t_go (op := o_i2 56 (fun x y => x >>> (y &&& 31))) (fe_X12_look 55) (fun _ _ => rfl) ?_
      refine t_go (op := o_ci 57 1) (fe_X12_look 56) (fun _ _ => rfl) ?_
      refine t_go (op := o_i2 58 (fun x y => x &&& y)) (fe_X12_look 57) (fun _ _ => rfl) ?_
      refine t_go (op := o_ci 59 1) (fe_X12_look 58) (fun _ _ => rfl) ?_
      refine t_ite (op := o_icmp 113 62 (fun x y => x = y) (fun _ _ => inferInstance)) (fe_X12_look 59) g_icmp (fun c2 => ?_) (fun c2 => ?_)
      · refine t_go (op := o_aload 63 0) (fe_X12_look 62) (fun _ _ => rfl) ?_
        refine t_go (op := o_iload 64 3) (fe_X12_look 63) (fun _ _ => rfl) ?_
        refine t_go (op := o_iload 65 1) (fe_X12_look 64) (fun _ _ => rfl) ?_
        refine t_call (op := o_callV 68 250 3 11) (fe_X12_look 65) (g_callV hS (show (lay 183).1 = 11 by decide) (by decide) rfl rfl rfl (Nat.le_of_ble_eq_true rfl)) ?_
        refine M_mono ?_ (r_litFor hPS hW hBS hT (e := i) (q := q) (by omega) (hB2 i hi7 c2) (by omega))
        rintro _ h2 ⟨rfl, hz2, hBt⟩
        replace hz := hz.tr hz2
        clear hz2
        have hWt := FW_HN (h := h) (g := g) (n := n) hm (FW_FL (e := i) hW) q
        replace hPS := (hP.r200 (r := r)).zf hz
        have h200 : h2.1 200 = r := (hz.row (a := 200) (by omega)).trans rowI_at
        refine t_go (op := o_ci 69 0) (fe_X12_look 68) (fun _ _ => rfl) ?_
        refine t_go (op := o_istore 71 4) (fe_X12_look 69) (fun _ _ => rfl) ?_
        refine T_heap (rowI_id (a := 200)) ?_
        refine lr_lkI (d := d + 4) hPS hWt hBt (r := r) m 0 _ (by omega) (fun o ho => by rw [if_neg (by omega), h200]) fun r2 x4 hg1 => ?_
        replace hz := hz.r200 (r2 := r2)
        have hg : ∀ o, o < m → r2 o = it (lookA (lookR h g n F q) B o) i 0 0 + ((lookR h g n F q i >>> (nI o &&& 31)) &&& 1) := fun o ho => by rw [hg1 o ho, hr o ho]
        refine t_go (op := o_iinc 116 3 1) (fe_X12_look 113) (fun _ _ => rfl) ?_
        refine t_go (op := o_goto 45) (fe_X12_look 116) (fun _ _ => rfl) ?_
        rw [nI_1]
        refine ih (i + 1) _ _ _ (by omega) hz (fun o ho => ?_) hq
        rw [hg o ho, it_snoc, lookA_t (by omega) c2]
      · refine t_go (op := o_iinc 116 3 1) (fe_X12_look 113) (fun _ _ => rfl) ?_
        refine t_go (op := o_goto 45) (fe_X12_look 116) (fun _ _ => rfl) ?_
        rw [nI_1]
        refine ih (i + 1) _ _ _ (by omega) hz (fun o ho => ?_) hq
        rw [hr o ho, it_snoc, lookA_f c2]
set_option maxRecDepth 8000 in
theorem lr_lkF {d : Nat} {S : AHP} (hS : Std S) {m : Nat} (hE : S.1 189 0 = nI m) (hm : m ≤ 7) {r R : Nat → Int32} (h200 : S.1 200 = r) {B y : Int32} (hBb : ∀ i, 12 ≤ i → i < 32 → bt B i = false) (hB3 : ∀ s, m ≤ s → s < 7 → ¬ bitI B (nI s)) (hr : ∀ o, o < m → r o = it (lookA R B o) m 0 0) {Q : Option Value → AHP → Prop} : ∀ (j i : Nat) (a : Int32) (c : Int32) (x6 : Option Value), i + j = m → Q (some (.int (it (lookS R B) j i (a, c)).1)) S → TT (d + 2) 253 130 [some (.ref 183), some (.int y), some (.int B), some (.int a), some (.int c), some (.int (nI i)), x6] [] S Q := by
  intro j
  induction j with
  | zero =>
    intro i a c x6 hi  hq
    have hN : i = m := by omega
    refine t_go (op := o_iload 132 5) (fe_X12_look 130) (fun _ _ => rfl) ?_
    refine t_go (op := o_aload 133 0) (fe_X12_look 132) (fun _ _ => rfl) ?_
    refine t_call (op := o_callV 136 200 1 11) (fe_X12_look 133) (g_callV hS (show (lay 183).1 = 11 by decide) (by decide) rfl rfl rfl (Nat.le_of_ble_eq_true rfl)) ?_
    refine M_eq (r_embers hS hE) ?_
    refine t_ite (op := o_icmp 139 221 (fun x y => y ≤ x) (fun _ _ => inferInstance)) (fe_X12_look 136) g_icmp (fun c1 => ?_) (fun c1 => ?_)
    · refine t_go (op := o_iload 222 3) (fe_X12_look 221) (fun _ _ => rfl) ?_
      refine t_ret (op := o_iret) (fe_X12_look 222) (fun _ _ => rfl) ?_
      exact hq
    · exact absurd (by rw [hN]; exact Int32.le_refl _) c1
  | succ j ih =>
    intro i a c x6 hi  hq
    have hi7 : i < m := by omega
    refine t_go (op := o_iload 132 5) (fe_X12_look 130) (fun _ _ => rfl) ?_
    refine t_go (op := o_aload 133 0) (fe_X12_look 132) (fun _ _ => rfl) ?_
    refine t_call (op := o_callV 136 200 1 11) (fe_X12_look 133) (g_callV hS (show (lay 183).1 = 11 by decide) (by decide) rfl rfl rfl (Nat.le_of_ble_eq_true rfl)) ?_
    refine M_eq (r_embers hS hE) ?_
    refine t_ite (op := o_icmp 139 221 (fun x y => y ≤ x) (fun _ _ => inferInstance)) (fe_X12_look 136) g_icmp (fun c1 => ?_) (fun c1 => ?_)
    · exact absurd c1 (nI_ge hi7 (by omega))
    · refine t_go (op := o_aload 140 0) (fe_X12_look 139) (fun _ _ => rfl) ?_
      refine t_go (op := o_getR 143 11 26) (fe_X12_look 140) (g_getR hS (show (lay 183).1 = 11 by decide) (by decide) (fr_11_26 hS) (by decide)) ?_
      refine t_go (op := o_iload 145 5) (fe_X12_look 143) (fun _ _ => rfl) ?_
      refine t_go (op := o_iald 146) (fe_X12_look 145) (g_ialdN hS (show lay 200 = (20, 7) by decide) rfl (by omega) (by decide)) ?_
      rw [show S.1 200 i = r i from by rw [h200]]
      refine t_go (op := o_iload 147 2) (fe_X12_look 146) (fun _ _ => rfl) ?_
      refine t_call (op := o_callS 150 210 1) (fe_X12_look 147) (g_callS rfl rfl rfl (Nat.le_of_ble_eq_true rfl)) ?_
      refine M_eq (r_bits hBb) ?_
      refine t_go (op := o_aload 151 0) (fe_X12_look 150) (fun _ _ => rfl) ?_
      refine t_go (op := o_getR 154 11 26) (fe_X12_look 151) (g_getR hS (show (lay 183).1 = 11 by decide) (by decide) (fr_11_26 hS) (by decide)) ?_
      refine t_go (op := o_iload 156 5) (fe_X12_look 154) (fun _ _ => rfl) ?_
      refine t_go (op := o_iald 157) (fe_X12_look 156) (g_ialdN hS (show lay 200 = (20, 7) by decide) rfl (by omega) (by decide)) ?_
      rw [show S.1 200 i = r i from by rw [h200]]
      refine t_go (op := o_i2 158 (fun x y => x - y)) (fe_X12_look 157) (fun _ _ => rfl) ?_
      refine t_ite (op := o_icmp 161 171 (fun x y => x ≤ y) (fun _ _ => inferInstance)) (fe_X12_look 158) g_icmp (fun c2 => ?_) (fun c2 => ?_)
      · refine t_go (op := o_iload 172 2) (fe_X12_look 171) (fun _ _ => rfl) ?_
        refine t_call (op := o_callS 175 210 1) (fe_X12_look 172) (g_callS rfl rfl rfl (Nat.le_of_ble_eq_true rfl)) ?_
        refine M_eq (r_bits hBb) ?_
        refine t_go (op := o_aload 176 0) (fe_X12_look 175) (fun _ _ => rfl) ?_
        refine t_go (op := o_getR 179 11 26) (fe_X12_look 176) (g_getR hS (show (lay 183).1 = 11 by decide) (by decide) (fr_11_26 hS) (by decide)) ?_
        refine t_go (op := o_iload 181 5) (fe_X12_look 179) (fun _ _ => rfl) ?_
        refine t_go (op := o_iald 182) (fe_X12_look 181) (g_ialdN hS (show lay 200 = (20, 7) by decide) rfl (by omega) (by decide)) ?_
        rw [show S.1 200 i = r i from by rw [h200]]
        refine t_go (op := o_i2 183 (fun x y => x - y)) (fe_X12_look 182) (fun _ _ => rfl) ?_
        refine t_go (op := o_istore 185 6) (fe_X12_look 183) (fun _ _ => rfl) ?_
        refine t_go (op := o_iload 187 6) (fe_X12_look 185) (fun _ _ => rfl) ?_
        refine t_go (op := o_iload 189 4) (fe_X12_look 187) (fun _ _ => rfl) ?_
        refine t_ite (op := o_icmp 192 197 (fun x y => y ≤ x) (fun _ _ => inferInstance)) (fe_X12_look 189) g_icmp (fun c3 => ?_) (fun c3 => ?_)
        · refine t_go (op := o_iload 198 3) (fe_X12_look 197) (fun _ _ => rfl) ?_
          refine t_go (op := o_istore 199 3) (fe_X12_look 198) (fun _ _ => rfl) ?_
          refine t_go (op := o_iload 201 6) (fe_X12_look 199) (fun _ _ => rfl) ?_
          refine t_go (op := o_iload 203 4) (fe_X12_look 201) (fun _ _ => rfl) ?_
          refine t_ite (op := o_icmp 206 211 (fun x y => y ≤ x) (fun _ _ => inferInstance)) (fe_X12_look 203) g_icmp (fun c4 => ?_) (fun c4 => ?_)
          · refine t_go (op := o_iload 213 4) (fe_X12_look 211) (fun _ _ => rfl) ?_
            refine t_go (op := o_istore 215 4) (fe_X12_look 213) (fun _ _ => rfl) ?_
            refine t_go (op := o_iinc 218 5 1) (fe_X12_look 215) (fun _ _ => rfl) ?_
            refine t_go (op := o_goto 130) (fe_X12_look 218) (fun _ _ => rfl) ?_
            have eG : lookG R B i = bcI B - r i := by
              rw [show lookG R B i = _ from (le_lt_if _ _).symm, lookA_m hm hB3, ← hr i hi7, if_pos c2]
            have eS : lookS R B i (a, c) = _ := if_pos (by rw [eG]; exact c4)
            rw [it_step, eS] at hq
            rw [nI_1]
            exact ih (i + 1) _ _ _ (by omega) hq
          · exact absurd c3 c4
        · refine t_go (op := o_iload 194 5) (fe_X12_look 192) (fun _ _ => rfl) ?_
          refine t_go (op := o_goto 198) (fe_X12_look 194) (fun _ _ => rfl) ?_
          refine t_go (op := o_istore 199 3) (fe_X12_look 198) (fun _ _ => rfl) ?_
          refine t_go (op := o_iload 201 6) (fe_X12_look 199) (fun _ _ => rfl) ?_
          refine t_go (op := o_iload 203 4) (fe_X12_look 201) (fun _ _ => rfl) ?_
          refine t_ite (op := o_icmp 206 211 (fun x y => y ≤ x) (fun _ _ => inferInstance)) (fe_X12_look 203) g_icmp (fun c5 => ?_) (fun c5 => ?_)
          · exact absurd c5 c3
          · refine t_go (op := o_iload 208 6) (fe_X12_look 206) (fun _ _ => rfl) ?_
            refine t_go (op := o_goto 213) (fe_X12_look 208) (fun _ _ => rfl) ?_
            refine t_go (op := o_istore 215 4) (fe_X12_look 213) (fun _ _ => rfl) ?_
            refine t_go (op := o_iinc 218 5 1) (fe_X12_look 215) (fun _ _ => rfl) ?_
            refine t_go (op := o_goto 130) (fe_X12_look 218) (fun _ _ => rfl) ?_
            have eG : lookG R B i = bcI B - r i := by
              rw [show lookG R B i = _ from (le_lt_if _ _).symm, lookA_m hm hB3, ← hr i hi7, if_pos c2]
            have eS : lookS R B i (a, c) = _ := if_neg (by rw [eG]; exact c5)
            rw [it_step, eS, eG] at hq
            rw [nI_1]
            exact ih (i + 1) _ _ _ (by omega) hq
      · refine t_go (op := o_aload 162 0) (fe_X12_look 161) (fun _ _ => rfl) ?_
        refine t_go (op := o_getR 165 11 26) (fe_X12_look 162) (g_getR hS (show (lay 183).1 = 11 by decide) (by decide) (fr_11_26 hS) (by decide)) ?_
        refine t_go (op := o_iload 167 5) (fe_X12_look 165) (fun _ _ => rfl) ?_
        refine t_go (op := o_iald 168) (fe_X12_look 167) (g_ialdN hS (show lay 200 = (20, 7) by decide) rfl (by omega) (by decide)) ?_
        rw [show S.1 200 i = r i from by rw [h200]]
        refine t_go (op := o_goto 183) (fe_X12_look 168) (fun _ _ => rfl) ?_
        refine t_go (op := o_istore 185 6) (fe_X12_look 183) (fun _ _ => rfl) ?_
        refine t_go (op := o_iload 187 6) (fe_X12_look 185) (fun _ _ => rfl) ?_
        refine t_go (op := o_iload 189 4) (fe_X12_look 187) (fun _ _ => rfl) ?_
        refine t_ite (op := o_icmp 192 197 (fun x y => y ≤ x) (fun _ _ => inferInstance)) (fe_X12_look 189) g_icmp (fun c6 => ?_) (fun c6 => ?_)
        · refine t_go (op := o_iload 198 3) (fe_X12_look 197) (fun _ _ => rfl) ?_
          refine t_go (op := o_istore 199 3) (fe_X12_look 198) (fun _ _ => rfl) ?_
          refine t_go (op := o_iload 201 6) (fe_X12_look 199) (fun _ _ => rfl) ?_
          refine t_go (op := o_iload 203 4) (fe_X12_look 201) (fun _ _ => rfl) ?_
          refine t_ite (op := o_icmp 206 211 (fun x y => y ≤ x) (fun _ _ => inferInstance)) (fe_X12_look 203) g_icmp (fun c7 => ?_) (fun c7 => ?_)
          · refine t_go (op := o_iload 213 4) (fe_X12_look 211) (fun _ _ => rfl) ?_
            refine t_go (op := o_istore 215 4) (fe_X12_look 213) (fun _ _ => rfl) ?_
            refine t_go (op := o_iinc 218 5 1) (fe_X12_look 215) (fun _ _ => rfl) ?_
            refine t_go (op := o_goto 130) (fe_X12_look 218) (fun _ _ => rfl) ?_
            have eG : lookG R B i = r i := by
              rw [show lookG R B i = _ from (le_lt_if _ _).symm, lookA_m hm hB3, ← hr i hi7, if_neg c2]
            have eS : lookS R B i (a, c) = _ := if_pos (by rw [eG]; exact c7)
            rw [it_step, eS] at hq
            rw [nI_1]
            exact ih (i + 1) _ _ _ (by omega) hq
          · exact absurd c6 c7
        · refine t_go (op := o_iload 194 5) (fe_X12_look 192) (fun _ _ => rfl) ?_
          refine t_go (op := o_goto 198) (fe_X12_look 194) (fun _ _ => rfl) ?_
          refine t_go (op := o_istore 199 3) (fe_X12_look 198) (fun _ _ => rfl) ?_
          refine t_go (op := o_iload 201 6) (fe_X12_look 199) (fun _ _ => rfl) ?_
          refine t_go (op := o_iload 203 4) (fe_X12_look 201) (fun _ _ => rfl) ?_
          refine t_ite (op := o_icmp 206 211 (fun x y => y ≤ x) (fun _ _ => inferInstance)) (fe_X12_look 203) g_icmp (fun c8 => ?_) (fun c8 => ?_)
          · exact absurd c8 c6
          · refine t_go (op := o_iload 208 6) (fe_X12_look 206) (fun _ _ => rfl) ?_
            refine t_go (op := o_goto 213) (fe_X12_look 208) (fun _ _ => rfl) ?_
            refine t_go (op := o_istore 215 4) (fe_X12_look 213) (fun _ _ => rfl) ?_
            refine t_go (op := o_iinc 218 5 1) (fe_X12_look 215) (fun _ _ => rfl) ?_
            refine t_go (op := o_goto 130) (fe_X12_look 218) (fun _ _ => rfl) ?_
            have eG : lookG R B i = r i := by
              rw [show lookG R B i = _ from (le_lt_if _ _).symm, lookA_m hm hB3, ← hr i hi7, if_neg c2]
            have eS : lookS R B i (a, c) = _ := if_neg (by rw [eG]; exact c8)
            rw [it_step, eS, eG] at hq
            rw [nI_1]
            exact ih (i + 1) _ _ _ (by omega) hq
theorem sus_bits {h : AHP} {g n m tn : Nat} {F : FS} {E H L : Nat → Int32} (hV : FV m F) : (∀ a, a < 32 → bt (it (susG h g n F tn E H L) 7 0 0) a = true → a < 7 ∧ a < m ∧ susP h g n F tn E H L a) := by
  intro a ha hb
  rw [show it (susG h g n F tn E H L) 7 0 0 = setB (susP h g n F tn E H L) from rfl, setB_bt ha, Bool.and_eq_true] at hb
  have h1 := of_decide_eq_true hb.1
  have h2 := dcd_iff.mp hb.2
  refine ⟨h1, ?_, h2⟩
  rcases Nat.lt_or_ge a m with q | q
  · exact q
  · exact absurd h2.1 (FV_no hV h1 q)
theorem bcI_n {B : Int32} (hB : ∀ i, 12 ≤ i → i < 32 → bt B i = false) : ∃ c : Nat, c ≤ 12 ∧ bcI B = nI c := ⟨_, cnt_le 12, bc_eq hB⟩
theorem look_m {R : Nat → Int32} {B : Int32} {m : Nat} (hm : m ≤ 7) (hBb : ∀ i, 12 ≤ i → i < 32 → bt B i = false) (hR : ∀ t e, t < 7 → bitI B (nI t) → m ≤ e → e < 7 → ¬ bitI (R t) (nI e)) : it (lookS R B) 7 0 (-1, bcI B) = it (lookS R B) m 0 (-1, bcI B) := by
  obtain ⟨c, hc, ec⟩ := bcI_n hBb
  refine it_moreP (fun s : Int32 × Int32 => s.2 ≤ bcI B) hm (it_inv (P := fun s : Int32 × Int32 => s.2 ≤ bcI B) (fun i s hs => ?_) m 0 _ (Int32.le_refl _)) (fun t s hs h1 h2 => ?_)
  · unfold lookS
    by_cases hq : s.2 ≤ lookG R B i
    · rw [if_pos hq]; exact hs
    · rw [if_neg hq]; exact Int32.le_trans (Int32.le_of_lt (Int32.not_le.mp hq)) hs
  · have h0 : it (lookA R B t) 7 0 0 = 0 := by
      have : ∀ (j i : Nat), i + j ≤ 7 → it (lookA R B t) j i 0 = 0 := by
        intro j
        induction j with
        | zero => intro i _; rfl
        | succ j ih =>
          intro i hi
          rw [it_step]
          have e1 : lookA R B t i 0 = 0 := by
            by_cases hb : bitI B (nI i)
            · rw [lookA_t (by omega) hb]
              have h3 := hR i t (by omega) hb h1 h2
              rw [(and01 (R i >>> (nI t &&& 31))).resolve_right h3]
              rfl
            · exact lookA_f hb
          rw [e1]
          exact ih (i + 1) (by omega)
      exact this 7 0 (by omega)
    have h4 : lookG R B t = bcI B := by
      unfold lookG
      rw [h0, ec, Int32.sub_zero]
      by_cases hp : 0 < nI c
      · rw [if_pos hp]
      · rw [if_neg hp]
        have : c = 0 := by
          rcases Nat.eq_zero_or_pos c with q | q
          · exact q
          · exact absurd (nI_lt (a := 0) q (by omega)) hp
        rw [this]; rfl
    unfold lookS
    rw [if_pos (by rw [h4]; exact hs)]
set_option maxRecDepth 8000 in
theorem r_look {d : Nat} {k h : AHP} {m n g T : Nat} {F : FS} (hP : CP k h g n m) (hW : FW m T F) (hB0 : RB (k.1 197) 0 F) (hT : T < 90000) {tn : Nat} {E H L : Nat → Int32} (hTV : TV m tn E H L) (hRT : RT (k.1 197) 0 tn E H L) {q : Nat} (hq6 : q ≤ 12) : MM (d + 7) 253 [.ref 183, .int (nI q)] k (fun v h2 => v = some (.int (it (lookS (lookR h g n F q) (it (susG h g n F tn E H L) 7 0 0)) 7 0 (-1, bcI (it (susG h g n F tn E H L) 7 0 0))).1) ∧ ∃ r, Zf trl (rowI k 200 r) h2) := by
  refine ⟨Nat.le_of_ble_eq_true rfl, ?_⟩
  have hm := hP.1.2.2.1
  have hS := hP.1.1
  have hE := hP.1.2.1
  refine t_go (op := o_aload 1 0) (fe_X12_look 0) (fun _ _ => rfl) ?_
  refine t_go (op := o_ci 2 0) (fe_X12_look 1) (fun _ _ => rfl) ?_
  refine t_go (op := o_putI 5 11 0) (fe_X12_look 2) (g_putI hS (show (lay 183).1 = 11 by decide) (by decide)) ?_
  have hz : Zf trl k (sI k 183 0 0) := Zf_thr Zf.rf
  have hS := (hP.zf hz).1.1
  have hE := (hP.zf hz).1.2.1
  refine t_go (op := o_iload 6 1) (fe_X12_look 5) (fun _ _ => rfl) ?_
  refine t_go (op := o_ci 7 0) (fe_X12_look 6) (fun _ _ => rfl) ?_
  refine t_go (op := o_ci 9 12) (fe_X12_look 7) (fun _ _ => rfl) ?_
  refine t_call (op := o_callS 12 173 3) (fe_X12_look 9) (g_callS rfl rfl rfl (Nat.le_of_ble_eq_true rfl)) ?_
  refine M_eq r_within ?_
  refine t_ite (op := o_if 17 15 (fun x => x = 0) (fun _ => inferInstance)) (fe_X12_look 12) g_if (fun c1 => ?_) (fun c1 => ?_)
  · exact absurd (show ¬ nI q < 0 ∧ ¬ (12 : Int32) < nI q from ⟨nI_pos (by omega), nI_nlt (a := 12) (by omega) (by omega)⟩) (b2i_z c1)
  · replace c1 := b2i_nn c1
    refine t_go (op := o_aload 18 0) (fe_X12_look 17) (fun _ _ => rfl) ?_
    refine t_call (op := o_callV 21 251 1 11) (fe_X12_look 18) (g_callV hS (show (lay 183).1 = 11 by decide) (by decide) rfl rfl rfl (Nat.le_of_ble_eq_true rfl)) ?_
    refine M_mono ?_ (r_whichNow (hP.zf hz) hW (hB0.zf hz trl0) hT hTV (hRT.zf hz hTV.1 trl42))
    rintro _ h2 ⟨rfl, hz2⟩
    replace hz := hz.tr hz2
    clear hz2
    have hS := (hP.zf hz).1.1
    have hE := (hP.zf hz).1.2.1
    refine t_go (op := o_istore 22 2) (fe_X12_look 21) (fun _ _ => rfl) ?_
    refine t_go (op := o_ci 23 0) (fe_X12_look 22) (fun _ _ => rfl) ?_
    refine t_go (op := o_istore 24 3) (fe_X12_look 23) (fun _ _ => rfl) ?_
    have hsb := sus_bits (h := h) (g := g) (n := n) (tn := tn) (E := E) (H := H) (L := L) hW.1
    have hBb : ∀ i, 7 ≤ i → i < 32 → bt (it (susG h g n F tn E H L) 7 0 0) i = false := fun i h1 h2 => by
      cases hb : bt (it (susG h g n F tn E H L) 7 0 0) i with
      | false => rfl
      | true => have := (hsb i h2 hb).1; omega
    refine T_heap (rowI_id (a := 200)) ?_
    refine lr_lk0 (k := h2) hS 7 0 (h2.1 200) (by omega) (fun o ho => absurd ho (Nat.not_lt_zero o)) fun r0 hr0 => ?_
    refine t_go (op := o_ci 44 0) (fe_X12_look 43) (fun _ _ => rfl) ?_
    refine t_go (op := o_istore 45 3) (fe_X12_look 44) (fun _ _ => rfl) ?_
    refine lr_lkO (k := h2) (d := d + 1) (hP.zf hz) hW (hB0.zf hz trl0) hT hq6 (fun e he hb => (hsb e (by omega) ((bitI_bt (by omega)).mp hb)).2.2.1) m 0 _ r0 _ (by omega) Zf.rf (fun o ho => (hr0 o (by omega)).trans rfl) fun S3 r3 x4 hz3 hr3 => ?_
    have hP3 := ((hP.zf hz).r200 (r := r3)).zf hz3
    have hS := hP3.1.1
    have hE := hP3.1.2.1
    refine t_go (op := o_ci 120 (-1)) (fe_X12_look 119) (fun _ _ => rfl) ?_
    refine t_go (op := o_istore 121 3) (fe_X12_look 120) (fun _ _ => rfl) ?_
    refine t_go (op := o_iload 122 2) (fe_X12_look 121) (fun _ _ => rfl) ?_
    refine t_call (op := o_callS 125 210 1) (fe_X12_look 122) (g_callS rfl rfl rfl (Nat.le_of_ble_eq_true rfl)) ?_
    refine M_eq (r_bits (fun i h1 h2 => hBb i (by omega) h2)) ?_
    refine t_go (op := o_istore 127 4) (fe_X12_look 125) (fun _ _ => rfl) ?_
    refine t_go (op := o_ci 128 0) (fe_X12_look 127) (fun _ _ => rfl) ?_
    refine t_go (op := o_istore 130 5) (fe_X12_look 128) (fun _ _ => rfl) ?_
    have hR3 : ∀ t e, t < 7 → bitI (it (susG h g n F tn E H L) 7 0 0) (nI t) → m ≤ e → e < 7 → ¬ bitI (lookR h g n F q t) (nI e) := fun t e _ _ h1 h2 hb => FV_no (FW_HN (h := h) (g := g) (n := n) hm (FW_FL (e := t) hW) q).1 h2 h1 (lit_in h2 hb)
    refine lr_lkF (d := d + 5) hS hE hm ((hz3.row (a := 200) (by omega)).trans rowI_at) (fun i h1 h2 => hBb i (by omega) h2) (fun s h1 h2 hb => by have := (hsb s (by omega) ((bitI_bt (by omega)).mp hb)).2.1; omega) hr3 m 0 _ _ _ (by omega) ⟨by rw [look_m hm (fun i h1 h2 => hBb i (by omega) h2) hR3], r3, ?_⟩
    have hz4 := Zf.r200 (r2 := r3) (Zf.rf (A := trl) (h := rowI k 200 (k.1 200)))
    refine Zf.tr ?_ hz3
    have := Zf.r200 (k := k) (r := k.1 200) (r2 := r3) (h2 := h2) (by rw [rowI_id]; exact hz)
    exact this
set_option maxRecDepth 8000 in
theorem r_lookF {d : Nat} {k h : AHP} {m n g T : Nat} {F : FS} (hP : CP k h g n m) (hW : FW m T F) (hB0 : RB (k.1 197) 0 F) (hT : T < 90000) {tn : Nat} {E H L : Nat → Int32} (hTV : TV m tn E H L) (hRT : RT (k.1 197) 0 tn E H L) {x : Int32} (hn : ¬ (¬ x < 0 ∧ ¬ 12 < x)) : MM (d + 7) 253 [.ref 183, .int x] k (fun v h2 => v = some (.int (-1)) ∧ ∃ r, Zf trl (rowI k 200 r) h2) := by
  refine ⟨Nat.le_of_ble_eq_true rfl, ?_⟩
  have hm := hP.1.2.2.1
  have hS := hP.1.1
  have hE := hP.1.2.1
  refine t_go (op := o_aload 1 0) (fe_X12_look 0) (fun _ _ => rfl) ?_
  refine t_go (op := o_ci 2 0) (fe_X12_look 1) (fun _ _ => rfl) ?_
  refine t_go (op := o_putI 5 11 0) (fe_X12_look 2) (g_putI hS (show (lay 183).1 = 11 by decide) (by decide)) ?_
  have hz : Zf trl k (sI k 183 0 0) := Zf_thr Zf.rf
  have hS := (hP.zf hz).1.1
  have hE := (hP.zf hz).1.2.1
  refine t_go (op := o_iload 6 1) (fe_X12_look 5) (fun _ _ => rfl) ?_
  refine t_go (op := o_ci 7 0) (fe_X12_look 6) (fun _ _ => rfl) ?_
  refine t_go (op := o_ci 9 12) (fe_X12_look 7) (fun _ _ => rfl) ?_
  refine t_call (op := o_callS 12 173 3) (fe_X12_look 9) (g_callS rfl rfl rfl (Nat.le_of_ble_eq_true rfl)) ?_
  refine M_eq r_within ?_
  refine t_ite (op := o_if 17 15 (fun x => x = 0) (fun _ => inferInstance)) (fe_X12_look 12) g_if (fun c1 => ?_) (fun c1 => ?_)
  · replace c1 := b2i_z c1
    refine t_go (op := o_ci 16 (-1)) (fe_X12_look 15) (fun _ _ => rfl) ?_
    refine t_ret (op := o_iret) (fe_X12_look 16) (fun _ _ => rfl) ?_
    exact ⟨rfl, k.1 200, by rw [rowI_id]; exact hz⟩
  · exact absurd (b2i_nn c1) hn
