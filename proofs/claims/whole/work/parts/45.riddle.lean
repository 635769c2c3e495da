theorem l_fewestLit3 {d : Nat} {h : AHP} {g n : Nat} (hS0 : Std h) (hg : (lay g).1 = 3) (hL : LawOK h g n) (hz : h.1 5 5 = 0 ∨ h.1 5 5 = 1) (hN2 : NF (fs h 5)) {b : Int32}  {Q : Option Value → AHP → Prop} : ∀ (j i : Nat) (S : Unit) (k : AHP) (xl : Option Value), i + j = 8 → X h k → NF (fs k 143) → (∀ k2, X h k2 → NF (fs k2 143) → Q (some (.int (serV (ser2 (litP h g n b) 128 j i)))) k2) → TT (d + 6) 86 48 [some (.ref 142), some (.ref g), some (.ref 5), some (.int b), some (.int (nI i)), xl] [] k Q := by
  intro j
  induction j with
  | zero =>
    intro i S k xl hi hX hNk hq
    have hN : i = 8 := by omega
    have hS := hX.std hS0
    refine t_go (op := o_iload 50 4) (fe_X8_fewestLit 48) (fun _ _ => rfl) ?_
    refine t_go (op := o_ci 52 7) (fe_X8_fewestLit 50) (fun _ _ => rfl) ?_
    refine t_ite (op := o_icmp 55 126 (fun x y => y < x) (fun _ _ => inferInstance)) (fe_X8_fewestLit 52) g_icmp (fun c1 => ?_) (fun c1 => ?_)
    · refine t_go (op := o_ci 127 (-1)) (fe_X8_fewestLit 126) (fun _ _ => rfl) ?_
      refine t_ret (op := o_iret) (fe_X8_fewestLit 127) (fun _ _ => rfl) ?_
      exact hq k hX hNk
    · exact absurd (by rw [hN]; decide) c1
  | succ j ih =>
    intro i S k xl hi hX hNk hq
    have hi2 : i < 8 := by omega
    have hS := hX.std hS0
    refine t_go (op := o_iload 50 4) (fe_X8_fewestLit 48) (fun _ _ => rfl) ?_
    refine t_go (op := o_ci 52 7) (fe_X8_fewestLit 50) (fun _ _ => rfl) ?_
    refine t_ite (op := o_icmp 55 126 (fun x y => y < x) (fun _ _ => inferInstance)) (fe_X8_fewestLit 52) g_icmp (fun c1 => ?_) (fun c1 => ?_)
    · exact absurd c1 (nI_nlt (show i ≤ 7 by omega) (by decide))
    · refine t_go (op := o_ci 56 0) (fe_X8_fewestLit 55) (fun _ _ => rfl) ?_
      refine t_go (op := o_istore 58 5) (fe_X8_fewestLit 56) (fun _ _ => rfl) ?_
      refine l_fewestLit2 hS0 hg hL hz hN2 128 0 () _ rfl hX hNk ⟨fun k2 t ht x1 x2 => ?_, fun k2 ht x1 x2 => ?_⟩
      · have q := hq k2 x1 x2
        simp only [ser2, ht, serV] at q
        exact q
      · simp only [ser2, ht] at hq
        refine t_go (op := o_iinc 123 4 1) (fe_X8_fewestLit 120) (fun _ _ => rfl) ?_
        refine t_go (op := o_goto 48) (fe_X8_fewestLit 123) (fun _ _ => rfl) ?_
        rw [nI_1]
        exact ih (i + 1) () _ _ (by omega) x1 x2 hq
theorem l_fewestTaken3 {d : Nat} {h : AHP} {g n : Nat} (hS0 : Std h) (hg : (lay g).1 = 3) (hL : LawOK h g n) (hz : h.1 5 5 = 0 ∨ h.1 5 5 = 1) (hN2 : NF (fs h 5)) {b e : Int32}  {Q : Option Value → AHP → Prop} : ∀ (j i : Nat) (S : Unit) (k : AHP) (xl : Option Value), i + j = 7 → X h k → NF (fs k 143) → (∀ k2, X h k2 → NF (fs k2 143) → Q (some (.int (serV (ser2 (takeP h g n b e) 128 j i)))) k2) → TT (d + 6) 87 15 [some (.ref 142), some (.ref g), some (.ref 5), some (.int e), some (.int b), some (.int (nI i)), xl] [] k Q := by
  intro j
  induction j with
  | zero =>
    intro i S k xl hi hX hNk hq
    have hN : i = 7 := by omega
    have hS := hX.std hS0
    refine t_go (op := o_iload 17 5) (fe_X8_fewestTaken 15) (fun _ _ => rfl) ?_
    refine t_go (op := o_ci 19 7) (fe_X8_fewestTaken 17) (fun _ _ => rfl) ?_
    refine t_ite (op := o_icmp 22 97 (fun x y => y ≤ x) (fun _ _ => inferInstance)) (fe_X8_fewestTaken 19) g_icmp (fun c1 => ?_) (fun c1 => ?_)
    · refine t_go (op := o_ci 98 (-1)) (fe_X8_fewestTaken 97) (fun _ _ => rfl) ?_
      refine t_ret (op := o_iret) (fe_X8_fewestTaken 98) (fun _ _ => rfl) ?_
      exact hq k hX hNk
    · exact absurd (by rw [hN]; exact Int32.le_refl _) c1
  | succ j ih =>
    intro i S k xl hi hX hNk hq
    have hi2 : i < 7 := by omega
    have hS := hX.std hS0
    refine t_go (op := o_iload 17 5) (fe_X8_fewestTaken 15) (fun _ _ => rfl) ?_
    refine t_go (op := o_ci 19 7) (fe_X8_fewestTaken 17) (fun _ _ => rfl) ?_
    refine t_ite (op := o_icmp 22 97 (fun x y => y ≤ x) (fun _ _ => inferInstance)) (fe_X8_fewestTaken 19) g_icmp (fun c1 => ?_) (fun c1 => ?_)
    · exact absurd c1 (nI_ge (show i < 7 by omega) (by decide))
    · refine t_go (op := o_ci 23 0) (fe_X8_fewestTaken 22) (fun _ _ => rfl) ?_
      refine t_go (op := o_istore 25 6) (fe_X8_fewestTaken 23) (fun _ _ => rfl) ?_
      refine l_fewestTaken2 hS0 hg hL hz hN2 128 0 () _ rfl hX hNk ⟨fun k2 t ht x1 x2 => ?_, fun k2 ht x1 x2 => ?_⟩
      · have q := hq k2 x1 x2
        simp only [ser2, ht, serV] at q
        exact q
      · simp only [ser2, ht] at hq
        refine t_go (op := o_iinc 94 5 1) (fe_X8_fewestTaken 91) (fun _ _ => rfl) ?_
        refine t_go (op := o_goto 15) (fe_X8_fewestTaken 94) (fun _ _ => rfl) ?_
        rw [nI_1]
        exact ih (i + 1) () _ _ (by omega) x1 x2 hq
theorem m_fewestLit {d : Nat} {h k : AHP} {g n : Nat} (hS0 : Std h) (hg : (lay g).1 = 3) (hL : LawOK h g n) (hX : X h k) (hN : NF (fs k 143)) (hz : h.1 5 5 = 0 ∨ h.1 5 5 = 1) (hN2 : NF (fs h 5)) : MM (d + 6) 86 [.ref 142, .ref g, .ref 5] k (fun v h2 => v = some (.int (serV (ser2 (litP h g n (it (burnB (fs h 5) (h.1 (g + 2))) 7 0 0)) 128 8 0))) ∧ X h h2 ∧ NF (fs h2 143)) := by
  refine ⟨Nat.le_of_ble_eq_true rfl, ?_⟩
  have hS := hX.std hS0
  refine t_go (op := o_ci 1 0) (fe_X8_fewestLit 0) (fun _ _ => rfl) ?_
  refine t_go (op := o_istore 2 3) (fe_X8_fewestLit 1) (fun _ _ => rfl) ?_
  refine t_go (op := o_ci 3 0) (fe_X8_fewestLit 2) (fun _ _ => rfl) ?_
  refine t_go (op := o_istore 5 4) (fe_X8_fewestLit 3) (fun _ _ => rfl) ?_
  refine l_flit1 hS hg hX 7 0 0 rfl ?_
  refine t_go (op := o_ci 46 0) (fe_X8_fewestLit 45) (fun _ _ => rfl) ?_
  refine t_go (op := o_istore 48 4) (fe_X8_fewestLit 46) (fun _ _ => rfl) ?_
  exact l_fewestLit3 hS0 hg hL hz hN2 8 0 () k _ rfl hX hN (fun k2 x1 x2 => ⟨rfl, x1, x2⟩)
theorem a_hereBits {d : Nat} {k : AHP} {f : Nat} {F : FS} (hS : Std k) (hf : (lay f).1 = 1) (hF : fs k f = F) : MM (d + 1) 20 [.ref f] k (fun v h2 => v = some (.int (it (hereS F) 7 0 0)) ∧ h2 = k) := by
  have q := m_hereBits (d := d) (h := k) (f := f) (F := fs k f) hS hf
  rw [setF_fs, hF] at q
  exact q
theorem m_fewestTaken {d : Nat} {h k : AHP} {g n : Nat} (hS0 : Std h) (hg : (lay g).1 = 3) (hL : LawOK h g n) (hX : X h k) (hN : NF (fs k 143)) (hz : h.1 5 5 = 0 ∨ h.1 5 5 = 1) (hN2 : NF (fs h 5)) {e : Int32} : MM (d + 6) 87 [.ref 142, .ref g, .ref 5, .int e] k (fun v h2 => v = some (.int (serV (ser2 (takeP h g n (it (hereS (fs h 5)) 7 0 0 &&& ((1 <<< (e &&& 31)) ^^^ -1)) e) 128 7 0))) ∧ X h h2 ∧ NF (fs h2 143)) := by
  refine ⟨Nat.le_of_ble_eq_true rfl, ?_⟩
  have hS := hX.std hS0
  refine t_go (op := o_aload 1 2) (fe_X8_fewestTaken 0) (fun _ _ => rfl) ?_
  refine t_call (op := o_callV 4 20 1 1) (fe_X8_fewestTaken 1) (g_callV hS (by decide) (by decide) rfl rfl rfl (Nat.le_of_ble_eq_true rfl)) ?_
  refine M_mono ?_ (a_hereBits hS (by decide) (X_fs hX (by omega)))
  rintro v h2 ⟨q1, q2⟩
  rw [q1, q2]; clear q1 q2 v h2
  refine t_go (op := o_ci 5 1) (fe_X8_fewestTaken 4) (fun _ _ => rfl) ?_
  refine t_go (op := o_iload 6 3) (fe_X8_fewestTaken 5) (fun _ _ => rfl) ?_
  refine t_go (op := o_i2 7 (fun x y => x <<< (y &&& 31))) (fe_X8_fewestTaken 6) (fun _ _ => rfl) ?_
  refine t_go (op := o_ci 8 (-1)) (fe_X8_fewestTaken 7) (fun _ _ => rfl) ?_
  refine t_go (op := o_i2 9 (fun x y => x ^^^ y)) (fe_X8_fewestTaken 8) (fun _ _ => rfl) ?_
  refine t_go (op := o_i2 10 (fun x y => x &&& y)) (fe_X8_fewestTaken 9) (fun _ _ => rfl) ?_
  refine t_go (op := o_istore 12 4) (fe_X8_fewestTaken 10) (fun _ _ => rfl) ?_
  refine t_go (op := o_ci 13 0) (fe_X8_fewestTaken 12) (fun _ _ => rfl) ?_
  refine t_go (op := o_istore 15 5) (fe_X8_fewestTaken 13) (fun _ _ => rfl) ?_
  exact l_fewestTaken3 hS0 hg hL hz hN2 7 0 () k _ rfl hX hN (fun k2 x1 x2 => ⟨rfl, x1, x2⟩)
/-- all that was told of the hour i is so -/
def agrP (r1 r2 r3 : Nat → Int32) (hr lit : Int32) (i : Nat) : Prop := r2 i = hr → (lit >>> (r1 i &&& 31)) &&& 1 = r3 i
noncomputable def agrB (r1 r2 r3 : Nat → Int32) (hr lit : Int32) (m : Nat) : Prop := ∀ i, i < m → agrP r1 r2 r3 hr lit i
theorem l_agrees {d : Nat} {k : AHP} {t m : Nat} {hr lit : Int32} (hS : Std k) (ht : (lay t).1 = 9) (hm : m ≤ 6) (hl : k.1 t 3 = nI m)  {Q : Option Value → AHP → Prop} : ∀ (j i : Nat) (S : Unit), i + j = m → (∀ a, a < i → agrP (k.1 (t + 1)) (k.1 (t + 2)) (k.1 (t + 3)) hr lit a) → ((agrB (k.1 (t + 1)) (k.1 (t + 2)) (k.1 (t + 3)) hr lit m → Q (some (.int 1)) k) ∧ (¬ agrB (k.1 (t + 1)) (k.1 (t + 2)) (k.1 (t + 3)) hr lit m → Q (some (.int 0)) k)) → TT d 107 2 [some (.ref t), some (.int hr), some (.int lit), some (.int (nI i))] [] k Q := by
  intro j
  induction j with
  | zero =>
    intro i S hi hW hq
    have hN : i = m := by omega
    refine t_go (op := o_iload 3 3) (fe_X10_agrees 2) (fun _ _ => rfl) ?_
    refine t_go (op := o_aload 4 0) (fe_X10_agrees 3) (fun _ _ => rfl) ?_
    refine t_go (op := o_getI 7 9 3) (fe_X10_agrees 4) (g_getI hS ht (by decide)) ?_
    rw [hl]
    refine t_ite (op := o_icmp 10 53 (fun x y => y ≤ x) (fun _ _ => inferInstance)) (fe_X10_agrees 7) g_icmp (fun c1 => ?_) (fun c1 => ?_)
    · refine t_go (op := o_ci 54 1) (fe_X10_agrees 53) (fun _ _ => rfl) ?_
      refine t_ret (op := o_zret) (fe_X10_agrees 54) (g_zret (Or.inr rfl)) ?_
      exact hq.1 (fun a ha => hW a (by omega))
    · exact absurd (by rw [hN]; exact Int32.le_refl _) c1
  | succ j ih =>
    intro i S hi hW hq
    have hi2 : i < m := by omega
    have hb : inb (nI i) 6 := inb_n (by omega) (by decide)
    refine t_go (op := o_iload 3 3) (fe_X10_agrees 2) (fun _ _ => rfl) ?_
    refine t_go (op := o_aload 4 0) (fe_X10_agrees 3) (fun _ _ => rfl) ?_
    refine t_go (op := o_getI 7 9 3) (fe_X10_agrees 4) (g_getI hS ht (by decide)) ?_
    rw [hl]
    refine t_ite (op := o_icmp 10 53 (fun x y => y ≤ x) (fun _ _ => inferInstance)) (fe_X10_agrees 7) g_icmp (fun c1 => ?_) (fun c1 => ?_)
    · exact absurd c1 (nI_ge hi2 (by omega))
    · refine t_go (op := o_iload 11 3) (fe_X10_agrees 10) (fun _ _ => rfl) ?_
      refine t_go (op := o_ci 13 6) (fe_X10_agrees 11) (fun _ _ => rfl) ?_
      refine t_ite (op := o_icmp 16 53 (fun x y => y ≤ x) (fun _ _ => inferInstance)) (fe_X10_agrees 13) g_icmp (fun c2 => ?_) (fun c2 => ?_)
      · exact absurd c2 (nI_ge (show i < 6 by omega) (by decide))
      · refine t_go (op := o_aload 17 0) (fe_X10_agrees 16) (fun _ _ => rfl) ?_
        refine t_go (op := o_getR 20 9 1) (fe_X10_agrees 17) (g_getR hS ht (by decide) (fr_9_1 hS ht) (Nat.succ_pos _)) ?_
        refine t_go (op := o_iload 21 3) (fe_X10_agrees 20) (fun _ _ => rfl) ?_
        refine t_go (op := o_iald 22) (fe_X10_agrees 21) (g_iald hS (ly_9_2 ht) hb) ?_
        rw [nI_clamp (show i < 2 ^ 31 by omega)]
        refine t_go (op := o_iload 23 1) (fe_X10_agrees 22) (fun _ _ => rfl) ?_
        refine t_ite (op := o_icmp 47 26 (fun x y => x = y) (fun _ _ => inferInstance)) (fe_X10_agrees 23) g_icmp (fun c3 => ?_) (fun c3 => ?_)
        · refine t_go (op := o_iload 27 2) (fe_X10_agrees 26) (fun _ _ => rfl) ?_
          refine t_go (op := o_aload 28 0) (fe_X10_agrees 27) (fun _ _ => rfl) ?_
          refine t_go (op := o_getR 31 9 0) (fe_X10_agrees 28) (g_getR hS ht (by decide) (fr_9_0 hS ht) (Nat.succ_pos _)) ?_
          refine t_go (op := o_iload 32 3) (fe_X10_agrees 31) (fun _ _ => rfl) ?_
          refine t_go (op := o_iald 33) (fe_X10_agrees 32) (g_iald hS (ly_9_1 ht) hb) ?_
          rw [nI_clamp (show i < 2 ^ 31 by omega)]
          refine t_go (op := o_i2 34 (fun x y => x >>> (y &&& 31))) (fe_X10_agrees 33) (fun _ _ => rfl) ?_
          refine t_go (op := o_ci 35 1) (fe_X10_agrees 34) (fun _ _ => rfl) ?_
          refine t_go (op := o_i2 36 (fun x y => x &&& y)) (fe_X10_agrees 35) (fun _ _ => rfl) ?_
          refine t_go (op := o_aload 37 0) (fe_X10_agrees 36) (fun _ _ => rfl) ?_
          refine t_go (op := o_getR 40 9 2) (fe_X10_agrees 37) (g_getR hS ht (by decide) (fr_9_2 hS ht) (Nat.succ_pos _)) ?_
          refine t_go (op := o_iload 41 3) (fe_X10_agrees 40) (fun _ _ => rfl) ?_
          refine t_go (op := o_iald 42) (fe_X10_agrees 41) (g_iald hS (ly_9_3 ht) hb) ?_
          rw [nI_clamp (show i < 2 ^ 31 by omega)]
          refine t_ite (op := o_icmp 45 47 (fun x y => x = y) (fun _ _ => inferInstance)) (fe_X10_agrees 42) g_icmp (fun c4 => ?_) (fun c4 => ?_)
          · refine t_go (op := o_iinc 50 3 1) (fe_X10_agrees 47) (fun _ _ => rfl) ?_
            refine t_go (op := o_goto 2) (fe_X10_agrees 50) (fun _ _ => rfl) ?_
            rw [nI_1]
            exact ih (i + 1) () (by omega) (fun a ha => by
              rcases Nat.lt_or_ge a i with q | q
              · exact hW a q
              · have e : a = i := by omega
                subst e
                exact fun _ => c4) hq
          · refine t_go (op := o_ci 46 0) (fe_X10_agrees 45) (fun _ _ => rfl) ?_
            refine t_ret (op := o_zret) (fe_X10_agrees 46) (g_zret (Or.inl rfl)) ?_
            exact hq.2 (fun q => c4 (q i hi2 c3))
        · refine t_go (op := o_iinc 50 3 1) (fe_X10_agrees 47) (fun _ _ => rfl) ?_
          refine t_go (op := o_goto 2) (fe_X10_agrees 50) (fun _ _ => rfl) ?_
          rw [nI_1]
          exact ih (i + 1) () (by omega) (fun a ha => by
            rcases Nat.lt_or_ge a i with q | q
            · exact hW a q
            · have e : a = i := by omega
              subst e
              exact fun q => absurd q c3) hq
theorem m_agrees {d : Nat} {k : AHP} {t m : Nat} {hr lit : Int32} (hS : Std k) (ht : (lay t).1 = 9) (hm : m ≤ 6) (hl : k.1 t 3 = nI m) : MM d 107 [.ref t, .int hr, .int lit] k (fun v h2 => v = some (.int (b2i (agrB (k.1 (t + 1)) (k.1 (t + 2)) (k.1 (t + 3)) hr lit m))) ∧ h2 = k) := by
  refine ⟨Nat.le_of_ble_eq_true rfl, ?_⟩
  refine t_go (op := o_ci 1 0) (fe_X10_agrees 0) (fun _ _ => rfl) ?_
  refine t_go (op := o_istore 2 3) (fe_X10_agrees 1) (fun _ _ => rfl) ?_
  exact l_agrees hS ht hm hl m 0 () (by omega) (fun a ha => absurd ha (Nat.not_lt_zero a)) ⟨fun q => ⟨by rw [b2i_t q], rfl⟩, fun q => ⟨by rw [b2i_f q], rfl⟩⟩
