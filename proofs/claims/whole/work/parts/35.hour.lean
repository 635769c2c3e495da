/-! ===== an hour ===== -/
abbrev scrA (a : Nat) : Prop := a = 159 ∨ a = 160 ∨ a = 172 ∨ a = 173
/-- the same but for the law's own rows -/
def Sc (h k : AHP) : Prop := k.2 = h.2 ∧ ∀ a, ¬ scrA a → k.1 a = h.1 a
theorem Sc.rf {h : AHP} : Sc h h := ⟨rfl, fun _ _ => rfl⟩
theorem Sc.tr {h k m : AHP} (h1 : Sc h k) (h2 : Sc k m) : Sc h m := ⟨h2.1.trans h1.1, fun a ha => (h2.2 a ha).trans (h1.2 a ha)⟩
theorem Sc.std {h k : AHP} (h1 : Sc h k) (hS : Std h) : Std k := by
  unfold Std
  rw [h1.1]
  exact hS
theorem grate_scr {g : Nat} (hg : (lay g).1 = 3) : (g = 149 ∨ g = 162) := lay_of (P := fun g => g = 149 ∨ g = 162) (fun _ => inferInstance) (by decide) (by decide +kernel) hg
theorem fire_scr {f : Nat} (hf : (lay f).1 = 1) : (f + 5 ≤ 159 ∨ 161 ≤ f) ∧ (f + 5 ≤ 172 ∨ 174 ≤ f) := lay_of (P := fun f => (f + 5 ≤ 159 ∨ 161 ≤ f) ∧ (f + 5 ≤ 172 ∨ 174 ≤ f)) (fun _ => inferInstance) (by decide) (by decide +kernel) hf
theorem fire_grate2 {f g : Nat} (hf : (lay f).1 = 1) (hg : (lay g).1 = 3) : f = g + 3 ∨ f + 5 ≤ g ∨ g + 13 ≤ f :=
  lay_of (P := fun g => f = g + 3 ∨ f + 5 ≤ g ∨ g + 13 ≤ f) (fun _ => inferInstance) (by decide) (lay_of (P := fun f => (List.range 202).all (fun g => decide ((lay g).1 = 3 → (f = g + 3 ∨ f + 5 ≤ g ∨ g + 13 ≤ f))) = true) (fun _ => inferInstance) (by decide) (by decide +kernel) hf) hg
theorem Sc_lawH {h : AHP} {g : Nat} {fr r : Nat → Int32} (hg : (lay g).1 = 3) : Sc h (lawH h (g + 8) fr r) := ⟨rfl, fun a ha => lawH_at (fun e => ha (by rcases grate_scr hg with q | q <;> subst q <;> omega)) (fun e => ha (by rcases grate_scr hg with q | q <;> subst q <;> omega))⟩
theorem lawH_setF {h : AHP} {f g : Nat} {F : FS} {fr r : Nat → Int32} (hf : (lay f).1 = 1) (hg : (lay g).1 = 3) : lawH (setF h f F) (g + 8) fr r = setF (lawH h (g + 8) fr r) f F := by
  have h1 := fire_scr hf
  refine AHP_ext (fun a j => ?_) rfl
  rcases grate_scr hg with q | q <;> subst q
  all_goals
    simp only [lawH, rowI, row2, setF]
    repeat' split
    all_goals first | rfl | omega
/-- the grate's law is good: n steps, and what it tells rests on nothing but them -/
def LawOK (h : AHP) (g n : Nat) : Prop := h.1 (g + 8) 3 = nI n ∧ n ≤ 1000 ∧ ∀ r2 r3 a b c e, tellsV (h.1 (g + 9)) n r2 r3 a b c e = tellsV (h.1 (g + 9)) n (fun _ => 0) (fun _ => 0) a b c e
def lawV (h : AHP) (g n : Nat) (a b c e : Int32) : Int32 := tellsV (h.1 (g + 9)) n (fun _ => 0) (fun _ => 0) a b c e
def mx0 (x : Int32) : Int32 := if 0 < x then x else 0
noncomputable def cellsS (F : FS) (k : Nat → Int32) (b : Int32) (e : Nat) (s : Int32 × Int32) : Int32 × Int32 := @ite _ (bitI b (nI e)) (Classical.propDecidable _) (s.1 ||| (1 <<< (F.1 (nI e).toNatClampNeg &&& 31)), s.2) (@ite _ (hasF F (nI e) ∧ k (nI e).toNatClampNeg = 2) (Classical.propDecidable _) (s.1, s.2 ||| (1 <<< (F.1 (nI e).toNatClampNeg &&& 31))) s)
def nearI (lc dc b : Int32) : Int32 := mx0 (bcI (lc &&& b) - bcI (dc &&& b))
noncomputable def warmS (L : Int32 → Int32 → Int32 → Int32 → Int32) (lc dc air : Int32) (e : Nat) (F : FS) : FS := @ite _ (hasF F (nI e)) (Classical.propDecidable _) (F.1, fup F.2.1 (nI e).toNatClampNeg (mx0 (mn20 (L (F.2.1 (nI e).toNatClampNeg) (nearI lc dc (besV (F.1 (nI e).toNatClampNeg))) air (F.2.2.1 (nI e).toNatClampNeg)))), F.2.2) F
noncomputable def warmF (L : Int32 → Int32 → Int32 → Int32 → Int32) (k : Nat → Int32) (b air : Int32) (F : FS) : FS := it (warmS L (it (cellsS F k b) 7 0 (0, 0)).1 (it (cellsS F k b) 7 0 (0, 0)).2 air) 7 0 F
theorem l_warm1 {d : Nat} {h : AHP} {f g : Nat} {F : FS} {b air : Int32} {k : Nat → Int32} {x7 x8 x9 : Option Value} (hS : Std h) (hf : (lay f).1 = 1) (hg : (lay g).1 = 3) (hk : h.1 (g + 2) = k)  {Q : Option Value → AHP → Prop} : ∀ (j i : Nat) (S : Int32 × Int32), i + j = 7 → (∀ x : Int32 × Int32, x = it (cellsS F k b) j i S → TT (d + 3) 27 83 [some (.ref f), some (.ref g), some (.int b), some (.int air), some (.int x.1), some (.int x.2), some (.int (nI 7)), x7, x8, x9] [] (setF h f F) Q) → TT (d + 3) 27 9 [some (.ref f), some (.ref g), some (.int b), some (.int air), some (.int S.1), some (.int S.2), some (.int (nI i)), x7, x8, x9] [] (setF h f F) Q := by
  intro j
  induction j with
  | zero =>
    intro i S hi  hq
    have hN : i = 7 := by omega
    refine t_go (op := o_iload 11 6) (fe_X1_warm 9) (fun _ _ => rfl) ?_
    refine t_go (op := o_ci 13 7) (fe_X1_warm 11) (fun _ _ => rfl) ?_
    refine t_ite (op := o_icmp 16 83 (fun x y => y ≤ x) (fun _ _ => inferInstance)) (fe_X1_warm 13) g_icmp (fun c1 => ?_) (fun c1 => ?_)
    · rw [hN]
      exact hq S rfl
    · exact absurd (by rw [hN]; exact Int32.le_refl _) c1
  | succ j ih =>
    intro i S hi  hq
    have hb : inb (nI i) 7 := inb_n (by omega) (by decide)
    refine t_go (op := o_iload 11 6) (fe_X1_warm 9) (fun _ _ => rfl) ?_
    refine t_go (op := o_ci 13 7) (fe_X1_warm 11) (fun _ _ => rfl) ?_
    refine t_ite (op := o_icmp 16 83 (fun x y => y ≤ x) (fun _ _ => inferInstance)) (fe_X1_warm 13) g_icmp (fun c1 => ?_) (fun c1 => ?_)
    · exact absurd c1 (nI_ge (show i < 7 by omega) (by decide))
    · refine t_go (op := o_iload 17 2) (fe_X1_warm 16) (fun _ _ => rfl) ?_
      refine t_go (op := o_iload 19 6) (fe_X1_warm 17) (fun _ _ => rfl) ?_
      refine t_go (op := o_i2 20 (fun x y => x >>> (y &&& 31))) (fe_X1_warm 19) (fun _ _ => rfl) ?_
      refine t_go (op := o_ci 21 1) (fe_X1_warm 20) (fun _ _ => rfl) ?_
      refine t_go (op := o_i2 22 (fun x y => x &&& y)) (fe_X1_warm 21) (fun _ _ => rfl) ?_
      refine t_go (op := o_ci 23 1) (fe_X1_warm 22) (fun _ _ => rfl) ?_
      refine t_ite (op := o_icmp 43 26 (fun x y => x = y) (fun _ _ => inferInstance)) (fe_X1_warm 23) g_icmp (fun c2 => ?_) (fun c2 => ?_)
      · refine t_go (op := o_iload 28 4) (fe_X1_warm 26) (fun _ _ => rfl) ?_
        refine t_go (op := o_ci 29 1) (fe_X1_warm 28) (fun _ _ => rfl) ?_
        refine t_go (op := o_aload 30 0) (fe_X1_warm 29) (fun _ _ => rfl) ?_
        refine t_go (op := o_getR 33 1 0) (fe_X1_warm 30) (g_getR hS hf (by decide) (fr_1_0 hS hf) (Nat.succ_pos _)) ?_
        refine t_go (op := o_iload 35 6) (fe_X1_warm 33) (fun _ _ => rfl) ?_
        refine t_go (op := o_iald 36) (fe_X1_warm 35) (g_iald hS (ly_1_1 hf) (by first | assumption | exact inb_1 ‹_› ‹_› (by decide))) ?_
        refine t_go (op := o_i2 37 (fun x y => x <<< (y &&& 31))) (fe_X1_warm 36) (fun _ _ => rfl) ?_
        refine t_go (op := o_i2 38 (fun x y => x ||| y)) (fe_X1_warm 37) (fun _ _ => rfl) ?_
        refine t_go (op := o_istore 40 4) (fe_X1_warm 38) (fun _ _ => rfl) ?_
        refine t_go (op := o_goto 77) (fe_X1_warm 40) (fun _ _ => rfl) ?_
        refine t_go (op := o_iinc 80 6 1) (fe_X1_warm 77) (fun _ _ => rfl) ?_
        refine t_go (op := o_goto 9) (fe_X1_warm 80) (fun _ _ => rfl) ?_
        rw [rd_1]
        have hs : cellsS F k b i S = _ := if_pos c2
        have hq2 : ∀ x : Int32 × Int32, x = it (cellsS F k b) j (i + 1) (cellsS F k b i S) → TT (d + 3) 27 83 [some (.ref f), some (.ref g), some (.int b), some (.int air), some (.int x.1), some (.int x.2), some (.int (nI 7)), x7, x8, x9] [] (setF h f F) Q := hq
        rw [hs] at hq2
        rw [nI_1]
        exact ih (i + 1) (_, _) (by omega) hq2
      · refine t_go (op := o_aload 44 0) (fe_X1_warm 43) (fun _ _ => rfl) ?_
        refine t_go (op := o_iload 46 6) (fe_X1_warm 44) (fun _ _ => rfl) ?_
        refine t_call (op := o_callV 49 8 2 1) (fe_X1_warm 46) (g_callV hS hf (by decide) rfl rfl rfl (Nat.le_of_ble_eq_true rfl)) ?_
        refine M_mono ?_ (n_has hS hf)
        rintro v h2 ⟨q1, q2⟩
        rw [q1, q2]; clear q1 q2 v h2
        refine t_ite (op := o_if 52 77 (fun x => x = 0) (fun _ => inferInstance)) (fe_X1_warm 49) g_if (fun c3 => ?_) (fun c3 => ?_)
        · refine t_go (op := o_iinc 80 6 1) (fe_X1_warm 77) (fun _ _ => rfl) ?_
          refine t_go (op := o_goto 9) (fe_X1_warm 80) (fun _ _ => rfl) ?_
          have hs : cellsS F k b i S = _ := (if_neg c2).trans (if_neg (fun q => b2i_ne.mp c3 q.1))
          have hq2 : ∀ x : Int32 × Int32, x = it (cellsS F k b) j (i + 1) (cellsS F k b i S) → TT (d + 3) 27 83 [some (.ref f), some (.ref g), some (.int b), some (.int air), some (.int x.1), some (.int x.2), some (.int (nI 7)), x7, x8, x9] [] (setF h f F) Q := hq
          rw [hs] at hq2
          rw [nI_1]
          exact ih (i + 1) (_, _) (by omega) hq2
        · refine t_go (op := o_aload 53 1) (fe_X1_warm 52) (fun _ _ => rfl) ?_
          refine t_go (op := o_getR 56 3 1) (fe_X1_warm 53) (g_getR hS hg (by decide) (fr_3_1 hS hg) (Nat.succ_pos _)) ?_
          refine t_go (op := o_iload 58 6) (fe_X1_warm 56) (fun _ _ => rfl) ?_
          refine t_go (op := o_iald 59) (fe_X1_warm 58) (g_iald hS (ly_3_2 hg) (by first | assumption | exact inb_1 ‹_› ‹_› (by decide))) ?_
          refine t_go (op := o_ci 60 2) (fe_X1_warm 59) (fun _ _ => rfl) ?_
          refine t_ite (op := o_icmp 77 63 (fun x y => x = y) (fun _ _ => inferInstance)) (fe_X1_warm 60) g_icmp (fun c4 => ?_) (fun c4 => ?_)
          · refine t_go (op := o_iload 65 5) (fe_X1_warm 63) (fun _ _ => rfl) ?_
            refine t_go (op := o_ci 66 1) (fe_X1_warm 65) (fun _ _ => rfl) ?_
            refine t_go (op := o_aload 67 0) (fe_X1_warm 66) (fun _ _ => rfl) ?_
            refine t_go (op := o_getR 70 1 0) (fe_X1_warm 67) (g_getR hS hf (by decide) (fr_1_0 hS hf) (Nat.succ_pos _)) ?_
            refine t_go (op := o_iload 72 6) (fe_X1_warm 70) (fun _ _ => rfl) ?_
            refine t_go (op := o_iald 73) (fe_X1_warm 72) (g_iald hS (ly_1_1 hf) (by first | assumption | exact inb_1 ‹_› ‹_› (by decide))) ?_
            refine t_go (op := o_i2 74 (fun x y => x <<< (y &&& 31))) (fe_X1_warm 73) (fun _ _ => rfl) ?_
            refine t_go (op := o_i2 75 (fun x y => x ||| y)) (fe_X1_warm 74) (fun _ _ => rfl) ?_
            refine t_go (op := o_istore 77 5) (fe_X1_warm 75) (fun _ _ => rfl) ?_
            refine t_go (op := o_iinc 80 6 1) (fe_X1_warm 77) (fun _ _ => rfl) ?_
            refine t_go (op := o_goto 9) (fe_X1_warm 80) (fun _ _ => rfl) ?_
            rw [setF_row (a := g + 2) (by have := fire_grate hf hg; omega), hk] at c4
            rw [rd_1]
            have hs : cellsS F k b i S = _ := (if_neg c2).trans (if_pos ⟨Classical.not_not.mp (fun q => c3 (b2i_f q)), c4⟩)
            have hq2 : ∀ x : Int32 × Int32, x = it (cellsS F k b) j (i + 1) (cellsS F k b i S) → TT (d + 3) 27 83 [some (.ref f), some (.ref g), some (.int b), some (.int air), some (.int x.1), some (.int x.2), some (.int (nI 7)), x7, x8, x9] [] (setF h f F) Q := hq
            rw [hs] at hq2
            rw [nI_1]
            exact ih (i + 1) (_, _) (by omega) hq2
          · refine t_go (op := o_iinc 80 6 1) (fe_X1_warm 77) (fun _ _ => rfl) ?_
            refine t_go (op := o_goto 9) (fe_X1_warm 80) (fun _ _ => rfl) ?_
            rw [setF_row (a := g + 2) (by have := fire_grate hf hg; omega), hk] at c4
            have hs : cellsS F k b i S = _ := (if_neg c2).trans (if_neg (fun q => c4 q.2))
            have hq2 : ∀ x : Int32 × Int32, x = it (cellsS F k b) j (i + 1) (cellsS F k b i S) → TT (d + 3) 27 83 [some (.ref f), some (.ref g), some (.int b), some (.int air), some (.int x.1), some (.int x.2), some (.int (nI 7)), x7, x8, x9] [] (setF h f F) Q := hq
            rw [hs] at hq2
            rw [nI_1]
            exact ih (i + 1) (_, _) (by omega) hq2
theorem l_warm2 {d : Nat} {h : AHP} {f g : Nat} {b lc dc air : Int32} {n : Nat} (hS0 : Std h) (hf : (lay f).1 = 1) (hg : (lay g).1 = 3) (hL : LawOK h g n)  {Q : Option Value → AHP → Prop} : ∀ (j i : Nat) (S : FS) (k : AHP) (x7 x8 x9 : Option Value), i + j = 7 → Sc h k → (∀ k2, Sc h k2 → Q none (setF k2 f (it (warmS (lawV h g n) lc dc air) j i S))) → TT (d + 3) 27 86 [some (.ref f), some (.ref g), some (.int b), some (.int air), some (.int lc), some (.int dc), some (.int (nI i)), x7, x8, x9] [] (setF k f S) Q := by
  intro j
  induction j with
  | zero =>
    intro i S k x7 x8 x9 hi hk hq
    have hN : i = 7 := by omega
    have hS : Std k := hk.std hS0
    refine t_go (op := o_iload 88 6) (fe_X1_warm 86) (fun _ _ => rfl) ?_
    refine t_go (op := o_ci 90 7) (fe_X1_warm 88) (fun _ _ => rfl) ?_
    refine t_ite (op := o_icmp 93 187 (fun x y => y ≤ x) (fun _ _ => inferInstance)) (fe_X1_warm 90) g_icmp (fun c1 => ?_) (fun c1 => ?_)
    · refine t_ret (op := o_vret) (fe_X1_warm 187) (fun _ _ => rfl) ?_
      exact hq k hk
    · exact absurd (by rw [hN]; exact Int32.le_refl _) c1
  | succ j ih =>
    intro i S k x7 x8 x9 hi hk hq
    have hb : inb (nI i) 7 := inb_n (by omega) (by decide)
    have hS : Std k := hk.std hS0
    refine t_go (op := o_iload 88 6) (fe_X1_warm 86) (fun _ _ => rfl) ?_
    refine t_go (op := o_ci 90 7) (fe_X1_warm 88) (fun _ _ => rfl) ?_
    refine t_ite (op := o_icmp 93 187 (fun x y => y ≤ x) (fun _ _ => inferInstance)) (fe_X1_warm 90) g_icmp (fun c1 => ?_) (fun c1 => ?_)
    · exact absurd c1 (nI_ge (show i < 7 by omega) (by decide))
    · refine t_go (op := o_aload 94 0) (fe_X1_warm 93) (fun _ _ => rfl) ?_
      refine t_go (op := o_iload 96 6) (fe_X1_warm 94) (fun _ _ => rfl) ?_
      refine t_call (op := o_callV 99 8 2 1) (fe_X1_warm 96) (g_callV hS hf (by decide) rfl rfl rfl (Nat.le_of_ble_eq_true rfl)) ?_
      refine M_mono ?_ (n_has hS hf)
      rintro v h2 ⟨q1, q2⟩
      rw [q1, q2]; clear q1 q2 v h2
      refine t_ite (op := o_if 102 181 (fun x => x = 0) (fun _ => inferInstance)) (fe_X1_warm 99) g_if (fun c2 => ?_) (fun c2 => ?_)
      · refine t_go (op := o_iinc 184 6 1) (fe_X1_warm 181) (fun _ _ => rfl) ?_
        refine t_go (op := o_goto 86) (fe_X1_warm 184) (fun _ _ => rfl) ?_
        have hs : warmS (lawV h g n) lc dc air i S = _ := if_neg (b2i_ne.mp c2)
        have hq2 : ∀ k2, Sc h k2 → Q none (setF k2 f (it (warmS (lawV h g n) lc dc air) j (i + 1) (warmS (lawV h g n) lc dc air i S))) := hq
        rw [hs] at hq2
        rw [nI_1]
        exact ih (i + 1) _ _ _ _ _ (by omega) hk hq2
      · refine t_go (op := o_aload 103 0) (fe_X1_warm 102) (fun _ _ => rfl) ?_
        refine t_go (op := o_getR 106 1 0) (fe_X1_warm 103) (g_getR hS hf (by decide) (fr_1_0 hS hf) (Nat.succ_pos _)) ?_
        refine t_go (op := o_iload 108 6) (fe_X1_warm 106) (fun _ _ => rfl) ?_
        refine t_go (op := o_iald 109) (fe_X1_warm 108) (g_iald hS (ly_1_1 hf) (by first | assumption | exact inb_1 ‹_› ‹_› (by decide))) ?_
        rw [rd_1]
        refine t_call (op := o_callS 112 29 1) (fe_X1_warm 109) (g_callS rfl rfl rfl (Nat.le_of_ble_eq_true rfl)) ?_
        refine M_mono ?_ (m_besideOf)
        rintro v h2 ⟨q1, q2⟩
        rw [q1, q2]; clear q1 q2 v h2
        refine t_go (op := o_istore 114 7) (fe_X1_warm 112) (fun _ _ => rfl) ?_
        refine t_go (op := o_iload 116 4) (fe_X1_warm 114) (fun _ _ => rfl) ?_
        refine t_go (op := o_iload 118 7) (fe_X1_warm 116) (fun _ _ => rfl) ?_
        refine t_go (op := o_i2 119 (fun x y => x &&& y)) (fe_X1_warm 118) (fun _ _ => rfl) ?_
        refine t_call (op := o_callS 122 270 1) (fe_X1_warm 119) (g_callS rfl rfl rfl (Nat.le_of_ble_eq_true rfl)) ?_
        refine M_mono ?_ (m_bitCount)
        rintro v h2 ⟨q1, q2⟩
        rw [q1, q2]; clear q1 q2 v h2
        refine t_go (op := o_iload 124 5) (fe_X1_warm 122) (fun _ _ => rfl) ?_
        refine t_go (op := o_iload 126 7) (fe_X1_warm 124) (fun _ _ => rfl) ?_
        refine t_go (op := o_i2 127 (fun x y => x &&& y)) (fe_X1_warm 126) (fun _ _ => rfl) ?_
        refine t_call (op := o_callS 130 270 1) (fe_X1_warm 127) (g_callS rfl rfl rfl (Nat.le_of_ble_eq_true rfl)) ?_
        refine M_mono ?_ (m_bitCount)
        rintro v h2 ⟨q1, q2⟩
        rw [q1, q2]; clear q1 q2 v h2
        refine t_go (op := o_i2 131 (fun x y => x - y)) (fe_X1_warm 130) (fun _ _ => rfl) ?_
        refine t_go (op := o_istore 133 8) (fe_X1_warm 131) (fun _ _ => rfl) ?_
        refine t_go (op := o_aload 134 1) (fe_X1_warm 133) (fun _ _ => rfl) ?_
        refine t_go (op := o_getR 137 3 3) (fe_X1_warm 134) (g_getR hS hg (by decide) (fr_3_3 hS hg) (Nat.succ_pos _)) ?_
        refine t_go (op := o_aload 138 0) (fe_X1_warm 137) (fun _ _ => rfl) ?_
        refine t_go (op := o_getR 141 1 1) (fe_X1_warm 138) (g_getR hS hf (by decide) (fr_1_1 hS hf) (Nat.succ_pos _)) ?_
        refine t_go (op := o_iload 143 6) (fe_X1_warm 141) (fun _ _ => rfl) ?_
        refine t_go (op := o_iald 144) (fe_X1_warm 143) (g_iald hS (ly_1_2 hf) (by first | assumption | exact inb_1 ‹_› ‹_› (by decide))) ?_
        refine t_go (op := o_ci 145 0) (fe_X1_warm 144) (fun _ _ => rfl) ?_
        refine t_go (op := o_iload 147 8) (fe_X1_warm 145) (fun _ _ => rfl) ?_
        refine t_go (op := o_max 150) (fe_X1_warm 147) (g_max (Nat.le_of_ble_eq_true rfl)) ?_
        refine t_go (op := o_iload 151 3) (fe_X1_warm 150) (fun _ _ => rfl) ?_
        refine t_go (op := o_aload 152 0) (fe_X1_warm 151) (fun _ _ => rfl) ?_
        refine t_go (op := o_getR 155 1 2) (fe_X1_warm 152) (g_getR hS hf (by decide) (fr_1_2 hS hf) (Nat.succ_pos _)) ?_
        refine t_go (op := o_iload 157 6) (fe_X1_warm 155) (fun _ _ => rfl) ?_
        refine t_go (op := o_iald 158) (fe_X1_warm 157) (g_iald hS (ly_1_3 hf) (by first | assumption | exact inb_1 ‹_› ‹_› (by decide))) ?_
        refine t_call (op := o_callV 161 60 5 4) (fe_X1_warm 158) (g_callV hS (lay_fst (ly_3_8 hg)) (by decide) rfl rfl rfl (Nat.le_of_ble_eq_true rfl)) ?_
        have e0 : setF k f S = lawH (setF k f S) (g + 8) ((setF k f S).1 (g + 8 + 2)) ((setF k f S).1 (g + 8 + 3)) := lawH_id.symm
        have el : (setF k f S).1 (g + 8) 3 = nI n := by rw [setF_at (by have := fire_grate2 hf hg; omega), hk.2 _ (by have := grate_scr hg; omega)]; exact hL.1
        have es : (setF k f S).1 (g + 8 + 1) = h.1 (g + 9) := by rw [setF_row (by have := fire_grate2 hf hg; omega), hk.2 _ (by have := grate_scr hg; omega)]
        rw [rd_2, rd_3]
        rw [e0]
        refine M_mono ?_ (m_tells (n := n) (show Std (setF k f S) from hS) (lay_fst (ly_3_8 hg)) el hL.2.1)
        rintro v h2 ⟨q1, fr, r, q2⟩
        rw [q1, q2, lawH_setF hf hg, es, hL.2.2]; clear q1 q2 v h2
        have hk2 := hk.tr (Sc_lawH (h := k) (fr := fr) (r := r) hg)
        have hS2 : Std (lawH k (g + 8) fr r) := hk2.std hS0
        refine t_go (op := o_istore 163 9) (fe_X1_warm 161) (fun _ _ => rfl) ?_
        replace hS := hS2
        refine t_go (op := o_aload 164 0) (fe_X1_warm 163) (fun _ _ => rfl) ?_
        refine t_go (op := o_getR 167 1 1) (fe_X1_warm 164) (g_getR hS hf (by decide) (fr_1_1 hS hf) (Nat.succ_pos _)) ?_
        refine t_go (op := o_iload 169 6) (fe_X1_warm 167) (fun _ _ => rfl) ?_
        refine t_go (op := o_ci 170 0) (fe_X1_warm 169) (fun _ _ => rfl) ?_
        refine t_go (op := o_ci 172 20) (fe_X1_warm 170) (fun _ _ => rfl) ?_
        refine t_go (op := o_iload 174 9) (fe_X1_warm 172) (fun _ _ => rfl) ?_
        refine t_go (op := o_min 177) (fe_X1_warm 174) (g_min (Nat.le_of_ble_eq_true rfl)) ?_
        refine t_go (op := o_max 180) (fe_X1_warm 177) (g_max (Nat.le_of_ble_eq_true rfl)) ?_
        refine t_go (op := o_iast 181) (fe_X1_warm 180) (g_iast hS (ly_1_2 hf) (by first | assumption | exact inb_1 ‹_› ‹_› (by decide))) ?_
        refine t_go (op := o_iinc 184 6 1) (fe_X1_warm 181) (fun _ _ => rfl) ?_
        refine t_go (op := o_goto 86) (fe_X1_warm 184) (fun _ _ => rfl) ?_
        rw [setF_2]
        have hs : warmS (lawV h g n) lc dc air i S = _ := if_pos (Classical.not_not.mp (fun q => c2 (b2i_f q)))
        have hq2 : ∀ k2, Sc h k2 → Q none (setF k2 f (it (warmS (lawV h g n) lc dc air) j (i + 1) (warmS (lawV h g n) lc dc air i S))) := hq
        rw [hs] at hq2
        rw [nI_1]
        exact ih (i + 1) _ _ _ _ _ (by omega) hk2 hq2
theorem m_warm {d : Nat} {h : AHP} {f g : Nat} {F : FS} {b air : Int32} {n : Nat} (hS : Std h) (hf : (lay f).1 = 1) (hg : (lay g).1 = 3) (hL : LawOK h g n) : MM (d + 3) 27 [.ref f, .ref g, .int b, .int air] (setF h f F) (fun v h2 => v = none ∧ ∃ k, Sc h k ∧ h2 = setF k f (warmF (lawV h g n) (h.1 (g + 2)) b air F)) := by
  refine ⟨Nat.le_of_ble_eq_true rfl, ?_⟩
  refine t_go (op := o_ci 1 0) (fe_X1_warm 0) (fun _ _ => rfl) ?_
  refine t_go (op := o_istore 3 4) (fe_X1_warm 1) (fun _ _ => rfl) ?_
  refine t_go (op := o_ci 4 0) (fe_X1_warm 3) (fun _ _ => rfl) ?_
  refine t_go (op := o_istore 6 5) (fe_X1_warm 4) (fun _ _ => rfl) ?_
  refine t_go (op := o_ci 7 0) (fe_X1_warm 6) (fun _ _ => rfl) ?_
  refine t_go (op := o_istore 9 6) (fe_X1_warm 7) (fun _ _ => rfl) ?_
  refine l_warm1 hS hf hg rfl 7 0 (0, 0) rfl (fun x hx => ?_)
  refine t_go (op := o_ci 84 0) (fe_X1_warm 83) (fun _ _ => rfl) ?_
  refine t_go (op := o_istore 86 6) (fe_X1_warm 84) (fun _ _ => rfl) ?_
  refine l_warm2 hS hf hg hL 7 0 F h _ _ _ rfl Sc.rf (fun k2 hk2 => ⟨rfl, k2, hk2, ?_⟩)
  rw [hx]; rfl
