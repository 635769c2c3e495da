/-! ===== what to look at, how likely ===== -/
def lookA (R : Nat → Int32) (B : Int32) (e : Nat) (s : Nat) (a : Int32) : Int32 := if bitI B (nI s) then a + ((R (nI s).toNatClampNeg >>> (nI e &&& 31)) &&& 1) else a
def lookG (R : Nat → Int32) (B : Int32) (e : Nat) : Int32 := if it (lookA R B e) 7 0 0 < bcI B - it (lookA R B e) 7 0 0 then bcI B - it (lookA R B e) 7 0 0 else it (lookA R B e) 7 0 0
def lookS (R : Nat → Int32) (B : Int32) (e : Nat) (s : Int32 × Int32) : Int32 × Int32 := if s.2 ≤ lookG R B e then s else (nI e, lookG R B e)
theorem m_suspects {d : Nat} {h k : AHP} {g n : Nat} (hS0 : Std h) (hg : (lay g).1 = 3) (hL : LawOK h g n) (hX : X h k) (hN : NF (fs k 143)) (hz : h.1 5 5 = 0 ∨ h.1 5 5 = 1) (hN2 : NF (fs h 5)) {m : Nat} (hm : m ≤ 6) (hl : h.1 10 3 = nI m) : MM (d + 6) 88 [.ref 142, .ref g, .ref 5, .ref 10] k (fun v h2 => v = some (.int (it (susS h g n m) 7 0 0)) ∧ X h h2 ∧ NF (fs h2 143)) := by
  refine ⟨Nat.le_of_ble_eq_true rfl, ?_⟩
  have hS := hX.std hS0
  refine t_go (op := o_aload 1 0) (fe_X8_suspects 0) (fun _ _ => rfl) ?_
  refine t_go (op := o_aload 2 1) (fe_X8_suspects 1) (fun _ _ => rfl) ?_
  refine t_go (op := o_aload 3 2) (fe_X8_suspects 2) (fun _ _ => rfl) ?_
  refine t_go (op := o_aload 4 3) (fe_X8_suspects 3) (fun _ _ => rfl) ?_
  refine t_go (op := o_ci 5 0) (fe_X8_suspects 4) (fun _ _ => rfl) ?_
  refine t_call (op := o_callV 8 92 5 7) (fe_X8_suspects 5) (g_callV hS (by decide) (by decide) rfl rfl rfl (Nat.le_of_ble_eq_true rfl)) ?_
  refine M_mono ?_ (m_suspectsSeen hS0 hg hL hX hN hz hN2 hm hl (q := 0) (Nat.zero_le _))
  rintro v h2 ⟨q1, hX2, hN3, hR2⟩
  rw [q1]; clear q1 v
  replace hS := hX2.std hS0
  refine t_ret (op := o_iret) (fe_X8_suspects 8) (fun _ _ => rfl) ?_
  exact ⟨rfl, hX2, hN3⟩
theorem l_look1 {d : Nat} {k : AHP} {g e : Nat} {q B b l : Int32} (hS : Std k)  {Q : Option Value → AHP → Prop} : ∀ (j i : Nat) (S : Int32), i + j = 7 → TT d 89 82 [some (.ref 142), some (.ref g), some (.ref 5), some (.ref 10), some (.int q), some (.int B), some (.int (bcI B)), some (.int b), some (.int l), some (.int (nI e)), some (.int (it (lookA (k.1 148) B e) j i S)), some (.int (nI 7))] [] k Q → TT d 89 41 [some (.ref 142), some (.ref g), some (.ref 5), some (.ref 10), some (.int q), some (.int B), some (.int (bcI B)), some (.int b), some (.int l), some (.int (nI e)), some (.int S), some (.int (nI i))] [] k Q := by
  intro j
  induction j with
  | zero =>
    intro i S hi  hq
    have hN : i = 7 := by omega
    refine t_go (op := o_iload 43 11) (fe_X8_bestLook 41) (fun _ _ => rfl) ?_
    refine t_go (op := o_ci 45 7) (fe_X8_bestLook 43) (fun _ _ => rfl) ?_
    refine t_ite (op := o_icmp 48 82 (fun x y => y ≤ x) (fun _ _ => inferInstance)) (fe_X8_bestLook 45) g_icmp (fun c1 => ?_) (fun c1 => ?_)
    · subst hN
      exact hq
    · exact absurd (by rw [hN]; exact Int32.le_refl _) c1
  | succ j ih =>
    intro i S hi  hq
    have hb : inb (nI i) 7 := inb_n (by omega) (by decide)
    refine t_go (op := o_iload 43 11) (fe_X8_bestLook 41) (fun _ _ => rfl) ?_
    refine t_go (op := o_ci 45 7) (fe_X8_bestLook 43) (fun _ _ => rfl) ?_
    refine t_ite (op := o_icmp 48 82 (fun x y => y ≤ x) (fun _ _ => inferInstance)) (fe_X8_bestLook 45) g_icmp (fun c1 => ?_) (fun c1 => ?_)
    · exact absurd c1 (nI_ge (show i < 7 by omega) (by decide))
    · refine t_go (op := o_iload 50 5) (fe_X8_bestLook 48) (fun _ _ => rfl) ?_
      refine t_go (op := o_iload 52 11) (fe_X8_bestLook 50) (fun _ _ => rfl) ?_
      refine t_go (op := o_i2 53 (fun x y => x >>> (y &&& 31))) (fe_X8_bestLook 52) (fun _ _ => rfl) ?_
      refine t_go (op := o_ci 54 1) (fe_X8_bestLook 53) (fun _ _ => rfl) ?_
      refine t_go (op := o_i2 55 (fun x y => x &&& y)) (fe_X8_bestLook 54) (fun _ _ => rfl) ?_
      refine t_go (op := o_ci 56 1) (fe_X8_bestLook 55) (fun _ _ => rfl) ?_
      refine t_ite (op := o_icmp 76 59 (fun x y => x = y) (fun _ _ => inferInstance)) (fe_X8_bestLook 56) g_icmp (fun c2 => ?_) (fun c2 => ?_)
      · refine t_go (op := o_iload 61 10) (fe_X8_bestLook 59) (fun _ _ => rfl) ?_
        refine t_go (op := o_aload 62 0) (fe_X8_bestLook 61) (fun _ _ => rfl) ?_
        refine t_go (op := o_getR 65 7 1) (fe_X8_bestLook 62) (g_getR hS (by decide) (by decide) (fr_7_1 hS) (by decide)) ?_
        refine t_go (op := o_iload 67 11) (fe_X8_bestLook 65) (fun _ _ => rfl) ?_
        refine t_go (op := o_iald 68) (fe_X8_bestLook 67) (g_iald hS (show lay 148 = (20, 7) by decide) (by first | assumption | exact inb_1 ‹_› ‹_› (by decide))) ?_
        refine t_go (op := o_iload 70 9) (fe_X8_bestLook 68) (fun _ _ => rfl) ?_
        refine t_go (op := o_i2 71 (fun x y => x >>> (y &&& 31))) (fe_X8_bestLook 70) (fun _ _ => rfl) ?_
        refine t_go (op := o_ci 72 1) (fe_X8_bestLook 71) (fun _ _ => rfl) ?_
        refine t_go (op := o_i2 73 (fun x y => x &&& y)) (fe_X8_bestLook 72) (fun _ _ => rfl) ?_
        refine t_go (op := o_i2 74 (fun x y => x + y)) (fe_X8_bestLook 73) (fun _ _ => rfl) ?_
        refine t_go (op := o_istore 76 10) (fe_X8_bestLook 74) (fun _ _ => rfl) ?_
        refine t_go (op := o_iinc 79 11 1) (fe_X8_bestLook 76) (fun _ _ => rfl) ?_
        refine t_go (op := o_goto 41) (fe_X8_bestLook 79) (fun _ _ => rfl) ?_
        have hs : lookA (k.1 148) B e i S = _ := if_pos c2
        rw [it_step, hs] at hq
        rw [nI_1]
        exact ih (i + 1) _ (by omega) hq
      · refine t_go (op := o_iinc 79 11 1) (fe_X8_bestLook 76) (fun _ _ => rfl) ?_
        refine t_go (op := o_goto 41) (fe_X8_bestLook 79) (fun _ _ => rfl) ?_
        have hs : lookA (k.1 148) B e i S = _ := if_neg c2
        rw [it_step, hs] at hq
        rw [nI_1]
        exact ih (i + 1) _ (by omega) hq
theorem l_look2 {d : Nat} {k : AHP} {g : Nat} {q B : Int32} (hS : Std k)  {Q : Option Value → AHP → Prop} : ∀ (j i : Nat) (S : Int32 × Int32) (x10 x11 : Option Value), i + j = 7 → Q (some (.int (it (lookS (k.1 148) B) j i S).1)) k → TT d 89 28 [some (.ref 142), some (.ref g), some (.ref 5), some (.ref 10), some (.int q), some (.int B), some (.int (bcI B)), some (.int S.1), some (.int S.2), some (.int (nI i)), x10, x11] [] k Q := by
  intro j
  induction j with
  | zero =>
    intro i S x10 x11 hi  hq
    have hN : i = 7 := by omega
    refine t_go (op := o_iload 30 9) (fe_X8_bestLook 28) (fun _ _ => rfl) ?_
    refine t_go (op := o_ci 32 7) (fe_X8_bestLook 30) (fun _ _ => rfl) ?_
    refine t_ite (op := o_icmp 35 115 (fun x y => y ≤ x) (fun _ _ => inferInstance)) (fe_X8_bestLook 32) g_icmp (fun c1 => ?_) (fun c1 => ?_)
    · refine t_go (op := o_iload 117 7) (fe_X8_bestLook 115) (fun _ _ => rfl) ?_
      refine t_ret (op := o_iret) (fe_X8_bestLook 117) (fun _ _ => rfl) ?_
      exact hq
    · exact absurd (by rw [hN]; exact Int32.le_refl _) c1
  | succ j ih =>
    intro i S x10 x11 hi  hq
    have hb : inb (nI i) 7 := inb_n (by omega) (by decide)
    refine t_go (op := o_iload 30 9) (fe_X8_bestLook 28) (fun _ _ => rfl) ?_
    refine t_go (op := o_ci 32 7) (fe_X8_bestLook 30) (fun _ _ => rfl) ?_
    refine t_ite (op := o_icmp 35 115 (fun x y => y ≤ x) (fun _ _ => inferInstance)) (fe_X8_bestLook 32) g_icmp (fun c1 => ?_) (fun c1 => ?_)
    · exact absurd c1 (nI_ge (show i < 7 by omega) (by decide))
    · refine t_go (op := o_ci 36 0) (fe_X8_bestLook 35) (fun _ _ => rfl) ?_
      refine t_go (op := o_istore 38 10) (fe_X8_bestLook 36) (fun _ _ => rfl) ?_
      refine t_go (op := o_ci 39 0) (fe_X8_bestLook 38) (fun _ _ => rfl) ?_
      refine t_go (op := o_istore 41 11) (fe_X8_bestLook 39) (fun _ _ => rfl) ?_
      refine l_look1 hS (e := i) (b := S.1) (l := S.2) 7 0 0 rfl ?_
      refine t_go (op := o_iload 84 10) (fe_X8_bestLook 82) (fun _ _ => rfl) ?_
      refine t_go (op := o_iload 86 6) (fe_X8_bestLook 84) (fun _ _ => rfl) ?_
      refine t_go (op := o_iload 88 10) (fe_X8_bestLook 86) (fun _ _ => rfl) ?_
      refine t_go (op := o_i2 89 (fun x y => x - y)) (fe_X8_bestLook 88) (fun _ _ => rfl) ?_
      refine t_go (op := o_max 92) (fe_X8_bestLook 89) (g_max (Nat.le_of_ble_eq_true rfl)) ?_
      refine t_go (op := o_istore 94 11) (fe_X8_bestLook 92) (fun _ _ => rfl) ?_
      refine t_go (op := o_iload 96 11) (fe_X8_bestLook 94) (fun _ _ => rfl) ?_
      refine t_go (op := o_iload 98 8) (fe_X8_bestLook 96) (fun _ _ => rfl) ?_
      refine t_ite (op := o_icmp 101 109 (fun x y => y ≤ x) (fun _ _ => inferInstance)) (fe_X8_bestLook 98) g_icmp (fun e1 => ?_) (fun e1 => ?_)
      · refine t_go (op := o_iinc 112 9 1) (fe_X8_bestLook 109) (fun _ _ => rfl) ?_
        refine t_go (op := o_goto 28) (fe_X8_bestLook 112) (fun _ _ => rfl) ?_
        have hs : lookS (k.1 148) B i S = _ := if_pos e1
        rw [it_step, hs] at hq
        rw [nI_1]
        exact ih (i + 1) _ _ _ (by omega) hq
      · refine t_go (op := o_iload 103 11) (fe_X8_bestLook 101) (fun _ _ => rfl) ?_
        refine t_go (op := o_istore 105 8) (fe_X8_bestLook 103) (fun _ _ => rfl) ?_
        refine t_go (op := o_iload 107 9) (fe_X8_bestLook 105) (fun _ _ => rfl) ?_
        refine t_go (op := o_istore 109 7) (fe_X8_bestLook 107) (fun _ _ => rfl) ?_
        refine t_go (op := o_iinc 112 9 1) (fe_X8_bestLook 109) (fun _ _ => rfl) ?_
        refine t_go (op := o_goto 28) (fe_X8_bestLook 112) (fun _ _ => rfl) ?_
        have hs : lookS (k.1 148) B i S = _ := if_neg e1
        rw [it_step, hs] at hq
        rw [nI_1]
        exact ih (i + 1) _ _ _ (by omega) hq
theorem m_bestLook {d : Nat} {h k : AHP} {g n : Nat} (hS0 : Std h) (hg : (lay g).1 = 3) (hL : LawOK h g n) (hX : X h k) (hN : NF (fs k 143)) (hz : h.1 5 5 = 0 ∨ h.1 5 5 = 1) (hN2 : NF (fs h 5)) {m : Nat} (hm : m ≤ 6) (hl : h.1 10 3 = nI m) {q : Nat} (hq12 : q ≤ 12) : MM (d + 6) 89 [.ref 142, .ref g, .ref 5, .ref 10, .int (nI q)] k (fun v h2 => (∃ R : Nat → Int32, (∀ t, t < 7 → fitP h g n m t 13 → R t = litH h g n (HN h g n q (Fsus h t))) ∧ v = some (.int (it (lookS R (it (susS h g n m) 7 0 0)) 7 0 (-1, bcI (it (susS h g n m) 7 0 0))).1)) ∧ X h h2 ∧ NF (fs h2 143)) := by
  refine ⟨Nat.le_of_ble_eq_true rfl, ?_⟩
  have hS := hX.std hS0
  refine t_go (op := o_aload 1 0) (fe_X8_bestLook 0) (fun _ _ => rfl) ?_
  refine t_go (op := o_aload 2 1) (fe_X8_bestLook 1) (fun _ _ => rfl) ?_
  refine t_go (op := o_aload 3 2) (fe_X8_bestLook 2) (fun _ _ => rfl) ?_
  refine t_go (op := o_aload 4 3) (fe_X8_bestLook 3) (fun _ _ => rfl) ?_
  refine t_go (op := o_iload 6 4) (fe_X8_bestLook 4) (fun _ _ => rfl) ?_
  refine t_call (op := o_callV 9 92 5 7) (fe_X8_bestLook 6) (g_callV hS (by decide) (by decide) rfl rfl rfl (Nat.le_of_ble_eq_true rfl)) ?_
  refine M_mono ?_ (m_suspectsSeen hS0 hg hL hX hN hz hN2 hm hl hq12)
  rintro v h2 ⟨q1, hX2, hN3, hR2⟩
  rw [q1]; clear q1 v
  replace hS := hX2.std hS0
  refine t_go (op := o_istore 11 5) (fe_X8_bestLook 9) (fun _ _ => rfl) ?_
  refine t_go (op := o_iload 13 5) (fe_X8_bestLook 11) (fun _ _ => rfl) ?_
  refine t_call (op := o_callS 16 270 1) (fe_X8_bestLook 13) (g_callS rfl rfl rfl (Nat.le_of_ble_eq_true rfl)) ?_
  refine M_mono ?_ m_bitCount
  rintro v h3 ⟨q1, q2⟩
  rw [q1, q2]; clear q1 q2 v h3
  refine t_go (op := o_istore 18 6) (fe_X8_bestLook 16) (fun _ _ => rfl) ?_
  refine t_go (op := o_ci 19 (-1)) (fe_X8_bestLook 18) (fun _ _ => rfl) ?_
  refine t_go (op := o_istore 21 7) (fe_X8_bestLook 19) (fun _ _ => rfl) ?_
  refine t_go (op := o_iload 23 6) (fe_X8_bestLook 21) (fun _ _ => rfl) ?_
  refine t_go (op := o_istore 25 8) (fe_X8_bestLook 23) (fun _ _ => rfl) ?_
  refine t_go (op := o_ci 26 0) (fe_X8_bestLook 25) (fun _ _ => rfl) ?_
  refine t_go (op := o_istore 28 9) (fe_X8_bestLook 26) (fun _ _ => rfl) ?_
  exact l_look2 hS 7 0 (-1, bcI (it (susS h g n m) 7 0 0)) _ _ rfl ⟨⟨h2.1 148, hR2, rfl⟩, hX2, hN3⟩
noncomputable def chS (h : AHP) (g n : Nat) (od : Int32) (w : Nat) (i : Nat) (s : Int32 × FS) : Int32 × FS := if bitI (nI w) (nI i) then (s.1 * od, (HB h g n 1 s.2).1) else (s.1 * (10 - od), (HB h g n 0 s.2).1)
noncomputable def chV (h : AHP) (g n : Nat) (od : Int32) (q w : Nat) : Int32 × FS := it (chS h g n od w) q 0 (1, fs h 5)
noncomputable def milS (h : AHP) (g n : Nat) (od e : Int32) (q : Nat) (w : Nat) (s : Int32) : Int32 := if bitI (litH h g n (chV h g n od q w).2) e then s + (chV h g n od q w).1 else s
def tenS (_ : Nat) (s : Int32) : Int32 := s * 10
theorem l_mil1 {d : Nat} {h : AHP} {g n : Nat} (hS0 : Std h) (hg : (lay g).1 = 3) (hL : LawOK h g n) {q w : Nat} {e od sm : Int32} (hq6 : q ≤ 6)  {Q : Option Value → AHP → Prop} : ∀ (j i : Nat) (S : Int32 × FS) (k : AHP) (x10 : Option Value), i + j = q → X h k → fs k 143 = S.2 → NF S.2 → (∀ k2 x, X h k2 → fs k2 143 = (it (chS h g n od w) j i S).2 → NF (fs k2 143) → TT (d + 6) 90 91 [some (.ref 142), some (.ref g), some (.ref 5), some (.int e), some (.int (nI q)), some (.int od), some (.int sm), some (.int (nI w)), some (.int (it (chS h g n od w) j i S).1), some (.int (nI q)), x] [] k2 Q) → TT (d + 6) 90 29 [some (.ref 142), some (.ref g), some (.ref 5), some (.int e), some (.int (nI q)), some (.int od), some (.int sm), some (.int (nI w)), some (.int S.1), some (.int (nI i)), x10] [] k Q := by
  intro j
  induction j with
  | zero =>
    intro i S k x10 hi hX hF hNS hq
    have hN : i = q := by omega
    have hS := hX.std hS0
    refine t_go (op := o_iload 31 9) (fe_X8_millionths 29) (fun _ _ => rfl) ?_
    refine t_go (op := o_iload 33 4) (fe_X8_millionths 31) (fun _ _ => rfl) ?_
    refine t_ite (op := o_icmp 36 91 (fun x y => y ≤ x) (fun _ _ => inferInstance)) (fe_X8_millionths 33) g_icmp (fun c1 => ?_) (fun c1 => ?_)
    · subst hN
      exact hq k _ hX hF (by rw [hF]; exact hNS)
    · exact absurd (by rw [hN]; exact Int32.le_refl _) c1
  | succ j ih =>
    intro i S k x10 hi hX hF hNS hq
    have hi2 : i < q := by omega
    have hS := hX.std hS0
    refine t_go (op := o_iload 31 9) (fe_X8_millionths 29) (fun _ _ => rfl) ?_
    refine t_go (op := o_iload 33 4) (fe_X8_millionths 31) (fun _ _ => rfl) ?_
    refine t_ite (op := o_icmp 36 91 (fun x y => y ≤ x) (fun _ _ => inferInstance)) (fe_X8_millionths 33) g_icmp (fun c1 => ?_) (fun c1 => ?_)
    · exact absurd c1 (nI_ge (show i < q by omega) (by omega))
    · refine t_go (op := o_iload 38 7) (fe_X8_millionths 36) (fun _ _ => rfl) ?_
      refine t_go (op := o_iload 40 9) (fe_X8_millionths 38) (fun _ _ => rfl) ?_
      refine t_go (op := o_i2 41 (fun x y => x >>> (y &&& 31))) (fe_X8_millionths 40) (fun _ _ => rfl) ?_
      refine t_go (op := o_ci 42 1) (fe_X8_millionths 41) (fun _ _ => rfl) ?_
      refine t_go (op := o_i2 43 (fun x y => x &&& y)) (fe_X8_millionths 42) (fun _ _ => rfl) ?_
      refine t_go (op := o_ci 44 1) (fe_X8_millionths 43) (fun _ _ => rfl) ?_
      refine t_ite (op := o_icmp 51 47 (fun x y => x = y) (fun _ _ => inferInstance)) (fe_X8_millionths 44) g_icmp (fun c2 => ?_) (fun c2 => ?_)
      · refine t_go (op := o_ci 48 1) (fe_X8_millionths 47) (fun _ _ => rfl) ?_
        refine t_go (op := o_goto 52) (fe_X8_millionths 48) (fun _ _ => rfl) ?_
        refine t_go (op := o_istore 54 10) (fe_X8_millionths 52) (fun _ _ => rfl) ?_
        refine t_go (op := o_iload 56 8) (fe_X8_millionths 54) (fun _ _ => rfl) ?_
        refine t_go (op := o_iload 58 10) (fe_X8_millionths 56) (fun _ _ => rfl) ?_
        refine t_ite (op := o_if 61 66 (fun x => x = 0) (fun _ => inferInstance)) (fe_X8_millionths 58) g_if (fun e1 => ?_) (fun e1 => ?_)
        · exact absurd e1 (by decide)
        · refine t_go (op := o_iload 63 5) (fe_X8_millionths 61) (fun _ _ => rfl) ?_
          refine t_go (op := o_goto 71) (fe_X8_millionths 63) (fun _ _ => rfl) ?_
          refine t_go (op := o_i2 72 (fun x y => x * y)) (fe_X8_millionths 71) (fun _ _ => rfl) ?_
          refine t_go (op := o_istore 74 8) (fe_X8_millionths 72) (fun _ _ => rfl) ?_
          refine t_go (op := o_aload 75 0) (fe_X8_millionths 74) (fun _ _ => rfl) ?_
          refine t_go (op := o_getR 78 7 0) (fe_X8_millionths 75) (g_getR hS (by decide) (by decide) (fr_7_0 hS) (by decide)) ?_
          refine t_go (op := o_aload 79 1) (fe_X8_millionths 78) (fun _ _ => rfl) ?_
          refine t_go (op := o_iload 81 10) (fe_X8_millionths 79) (fun _ _ => rfl) ?_
          refine t_call (op := o_callV 84 17 3 1) (fe_X8_millionths 81) (g_callV hS (by decide) (by decide) rfl rfl rfl (Nat.le_of_ble_eq_true rfl)) ?_
          refine M_mono ?_ (a_pass hS0 hg hL hX (Or.inr rfl) hF)
          rintro v h2 ⟨q1, hX2, hF2, hK2⟩
          rw [q1]; clear q1 v
          replace hS := hX2.std hS0
          refine t_go (op := o_popI 85) (fe_X8_millionths 84) (fun _ _ => rfl) ?_
          refine t_go (op := o_iinc 88 9 1) (fe_X8_millionths 85) (fun _ _ => rfl) ?_
          refine t_go (op := o_goto 29) (fe_X8_millionths 88) (fun _ _ => rfl) ?_
          have hs : chS h g n od w i S = _ := if_pos c2
          rw [it_step, hs] at hq
          rw [nI_1]
          exact ih (i + 1) _ _ _ (by omega) hX2 hF2 (NF_HB hNS) hq
      · refine t_go (op := o_ci 52 0) (fe_X8_millionths 51) (fun _ _ => rfl) ?_
        refine t_go (op := o_istore 54 10) (fe_X8_millionths 52) (fun _ _ => rfl) ?_
        refine t_go (op := o_iload 56 8) (fe_X8_millionths 54) (fun _ _ => rfl) ?_
        refine t_go (op := o_iload 58 10) (fe_X8_millionths 56) (fun _ _ => rfl) ?_
        refine t_ite (op := o_if 61 66 (fun x => x = 0) (fun _ => inferInstance)) (fe_X8_millionths 58) g_if (fun e1 => ?_) (fun e1 => ?_)
        · refine t_go (op := o_ci 68 10) (fe_X8_millionths 66) (fun _ _ => rfl) ?_
          refine t_go (op := o_iload 70 5) (fe_X8_millionths 68) (fun _ _ => rfl) ?_
          refine t_go (op := o_i2 71 (fun x y => x - y)) (fe_X8_millionths 70) (fun _ _ => rfl) ?_
          refine t_go (op := o_i2 72 (fun x y => x * y)) (fe_X8_millionths 71) (fun _ _ => rfl) ?_
          refine t_go (op := o_istore 74 8) (fe_X8_millionths 72) (fun _ _ => rfl) ?_
          refine t_go (op := o_aload 75 0) (fe_X8_millionths 74) (fun _ _ => rfl) ?_
          refine t_go (op := o_getR 78 7 0) (fe_X8_millionths 75) (g_getR hS (by decide) (by decide) (fr_7_0 hS) (by decide)) ?_
          refine t_go (op := o_aload 79 1) (fe_X8_millionths 78) (fun _ _ => rfl) ?_
          refine t_go (op := o_iload 81 10) (fe_X8_millionths 79) (fun _ _ => rfl) ?_
          refine t_call (op := o_callV 84 17 3 1) (fe_X8_millionths 81) (g_callV hS (by decide) (by decide) rfl rfl rfl (Nat.le_of_ble_eq_true rfl)) ?_
          refine M_mono ?_ (a_pass hS0 hg hL hX (Or.inr rfl) hF)
          rintro v h2 ⟨q1, hX2, hF2, hK2⟩
          rw [q1]; clear q1 v
          replace hS := hX2.std hS0
          refine t_go (op := o_popI 85) (fe_X8_millionths 84) (fun _ _ => rfl) ?_
          refine t_go (op := o_iinc 88 9 1) (fe_X8_millionths 85) (fun _ _ => rfl) ?_
          refine t_go (op := o_goto 29) (fe_X8_millionths 88) (fun _ _ => rfl) ?_
          have hs : chS h g n od w i S = _ := if_neg c2
          rw [it_step, hs] at hq
          rw [nI_1]
          exact ih (i + 1) _ _ _ (by omega) hX2 hF2 (NF_HB hNS) hq
        · exact absurd rfl e1
theorem l_mil2 {d : Nat} {h : AHP} {g n : Nat} (hS0 : Std h) (hg : (lay g).1 = 3) (hL : LawOK h g n) (hz : h.1 5 5 = 0 ∨ h.1 5 5 = 1) (hN2 : NF (fs h 5)) {q w2 : Nat} {e od : Int32} (hq6 : q ≤ 6) (hw : (1 : Int32) <<< (nI q &&& 31) = nI w2) (hw2 : w2 ≤ 64)  {Q : Option Value → AHP → Prop} : ∀ (j i : Nat) (S : Int32) (k : AHP) (x8 x9 x10 : Option Value), i + j = w2 → X h k → NF (fs k 143) → (∀ k2 y8 y9 y10, X h k2 → NF (fs k2 143) → TT (d + 6) 90 120 [some (.ref 142), some (.ref g), some (.ref 5), some (.int e), some (.int (nI q)), some (.int od), some (.int (it (milS h g n od e q) j i S)), some (.int (nI w2)), y8, y9, y10] [] k2 Q) → TT (d + 6) 90 6 [some (.ref 142), some (.ref g), some (.ref 5), some (.int e), some (.int (nI q)), some (.int od), some (.int S), some (.int (nI i)), x8, x9, x10] [] k Q := by
  intro j
  induction j with
  | zero =>
    intro i S k x8 x9 x10 hi hX hNk hq
    have hN : i = w2 := by omega
    have hS := hX.std hS0
    refine t_go (op := o_iload 8 7) (fe_X8_millionths 6) (fun _ _ => rfl) ?_
    refine t_go (op := o_ci 9 1) (fe_X8_millionths 8) (fun _ _ => rfl) ?_
    refine t_go (op := o_iload 11 4) (fe_X8_millionths 9) (fun _ _ => rfl) ?_
    refine t_go (op := o_i2 12 (fun x y => x <<< (y &&& 31))) (fe_X8_millionths 11) (fun _ _ => rfl) ?_
    dsimp only []
    rw [hw]
    refine t_ite (op := o_icmp 15 120 (fun x y => y ≤ x) (fun _ _ => inferInstance)) (fe_X8_millionths 12) g_icmp (fun c1 => ?_) (fun c1 => ?_)
    · subst hN
      exact hq k _ _ _ hX hNk
    · exact absurd (by rw [hN]; exact Int32.le_refl _) c1
  | succ j ih =>
    intro i S k x8 x9 x10 hi hX hNk hq
    have hi2 : i < w2 := by omega
    have hS := hX.std hS0
    refine t_go (op := o_iload 8 7) (fe_X8_millionths 6) (fun _ _ => rfl) ?_
    refine t_go (op := o_ci 9 1) (fe_X8_millionths 8) (fun _ _ => rfl) ?_
    refine t_go (op := o_iload 11 4) (fe_X8_millionths 9) (fun _ _ => rfl) ?_
    refine t_go (op := o_i2 12 (fun x y => x <<< (y &&& 31))) (fe_X8_millionths 11) (fun _ _ => rfl) ?_
    dsimp only []
    rw [hw]
    refine t_ite (op := o_icmp 15 120 (fun x y => y ≤ x) (fun _ _ => inferInstance)) (fe_X8_millionths 12) g_icmp (fun c1 => ?_) (fun c1 => ?_)
    · exact absurd c1 (nI_ge (show i < w2 by omega) (by omega))
    · refine t_go (op := o_ci 16 1) (fe_X8_millionths 15) (fun _ _ => rfl) ?_
      refine t_go (op := o_istore 18 8) (fe_X8_millionths 16) (fun _ _ => rfl) ?_
      refine t_go (op := o_aload 19 0) (fe_X8_millionths 18) (fun _ _ => rfl) ?_
      refine t_go (op := o_getR 22 7 0) (fe_X8_millionths 19) (g_getR hS (by decide) (by decide) (fr_7_0 hS) (by decide)) ?_
      refine t_go (op := o_aload 23 2) (fe_X8_millionths 22) (fun _ _ => rfl) ?_
      refine t_call (op := o_callV 26 7 2 1) (fe_X8_millionths 23) (g_callV hS (by decide) (by decide) rfl rfl rfl (Nat.le_of_ble_eq_true rfl)) ?_
      refine M_mono ?_ (a_become hS0 hX (Or.inr rfl) (by decide) (Or.inl (by decide)) hz hNk hN2)
      rintro v h2 ⟨q1, hX2, hF2, hK2⟩
      rw [q1]; clear q1 v
      replace hS := hX2.std hS0
      refine t_go (op := o_ci 27 0) (fe_X8_millionths 26) (fun _ _ => rfl) ?_
      refine t_go (op := o_istore 29 9) (fe_X8_millionths 27) (fun _ _ => rfl) ?_
      refine l_mil1 hS0 hg hL hq6 (w := i) (sm := S) q 0 (1, fs h 5) _ _ (by omega) hX2 hF2 hN2 (fun k2 x x1 x2 x3 => ?_)
      replace hS := x1.std hS0
      refine t_go (op := o_aload 92 0) (fe_X8_millionths 91) (fun _ _ => rfl) ?_
      refine t_go (op := o_getR 95 7 0) (fe_X8_millionths 92) (g_getR hS (by decide) (by decide) (fr_7_0 hS) (by decide)) ?_
      refine t_go (op := o_aload 96 1) (fe_X8_millionths 95) (fun _ _ => rfl) ?_
      refine t_call (op := o_callV 99 18 2 1) (fe_X8_millionths 96) (g_callV hS (by decide) (by decide) rfl rfl rfl (Nat.le_of_ble_eq_true rfl)) ?_
      refine M_mono ?_ (a_litBits hS0 hg x1 (by decide) x2)
      rintro v h3 ⟨q1, q2⟩
      rw [q1, q2]; clear q1 q2 v h3
      refine t_go (op := o_iload 100 3) (fe_X8_millionths 99) (fun _ _ => rfl) ?_
      refine t_go (op := o_i2 101 (fun x y => x >>> (y &&& 31))) (fe_X8_millionths 100) (fun _ _ => rfl) ?_
      refine t_go (op := o_ci 102 1) (fe_X8_millionths 101) (fun _ _ => rfl) ?_
      refine t_go (op := o_i2 103 (fun x y => x &&& y)) (fe_X8_millionths 102) (fun _ _ => rfl) ?_
      refine t_go (op := o_ci 104 1) (fe_X8_millionths 103) (fun _ _ => rfl) ?_
      refine t_ite (op := o_icmp 114 107 (fun x y => x = y) (fun _ _ => inferInstance)) (fe_X8_millionths 104) g_icmp (fun e1 => ?_) (fun e1 => ?_)
      · refine t_go (op := o_iload 109 6) (fe_X8_millionths 107) (fun _ _ => rfl) ?_
        refine t_go (op := o_iload 111 8) (fe_X8_millionths 109) (fun _ _ => rfl) ?_
        refine t_go (op := o_i2 112 (fun x y => x + y)) (fe_X8_millionths 111) (fun _ _ => rfl) ?_
        refine t_go (op := o_istore 114 6) (fe_X8_millionths 112) (fun _ _ => rfl) ?_
        refine t_go (op := o_iinc 117 7 1) (fe_X8_millionths 114) (fun _ _ => rfl) ?_
        refine t_go (op := o_goto 6) (fe_X8_millionths 117) (fun _ _ => rfl) ?_
        have hs : milS h g n od e q i S = _ := if_pos e1
        rw [it_step, hs] at hq
        rw [nI_1]
        exact ih (i + 1) _ _ _ _ _ (by omega) x1 x3 hq
      · refine t_go (op := o_iinc 117 7 1) (fe_X8_millionths 114) (fun _ _ => rfl) ?_
        refine t_go (op := o_goto 6) (fe_X8_millionths 117) (fun _ _ => rfl) ?_
        have hs : milS h g n od e q i S = _ := if_neg e1
        rw [it_step, hs] at hq
        rw [nI_1]
        exact ih (i + 1) _ _ _ _ _ (by omega) x1 x3 hq
theorem l_mil3 {d : Nat} {k : AHP} {g q : Nat} {e od : Int32} {x8 x9 x10 : Option Value}  {Q : Option Value → AHP → Prop} : ∀ (j i : Nat) (S : Int32), i + j = 6 → Q (some (.int (it tenS j i S))) k → TT d 90 124 [some (.ref 142), some (.ref g), some (.ref 5), some (.int e), some (.int (nI q)), some (.int od), some (.int S), some (.int (nI i)), x8, x9, x10] [] k Q := by
  intro j
  induction j with
  | zero =>
    intro i S hi  hq
    have hN : i = 6 := by omega
    refine t_go (op := o_iload 126 7) (fe_X8_millionths 124) (fun _ _ => rfl) ?_
    refine t_go (op := o_ci 128 6) (fe_X8_millionths 126) (fun _ _ => rfl) ?_
    refine t_ite (op := o_icmp 131 144 (fun x y => y ≤ x) (fun _ _ => inferInstance)) (fe_X8_millionths 128) g_icmp (fun c1 => ?_) (fun c1 => ?_)
    · refine t_go (op := o_iload 146 6) (fe_X8_millionths 144) (fun _ _ => rfl) ?_
      refine t_ret (op := o_iret) (fe_X8_millionths 146) (fun _ _ => rfl) ?_
      exact hq
    · exact absurd (by rw [hN]; exact Int32.le_refl _) c1
  | succ j ih =>
    intro i S hi  hq
    have hb : inb (nI i) 6 := inb_n (by omega) (by decide)
    refine t_go (op := o_iload 126 7) (fe_X8_millionths 124) (fun _ _ => rfl) ?_
    refine t_go (op := o_ci 128 6) (fe_X8_millionths 126) (fun _ _ => rfl) ?_
    refine t_ite (op := o_icmp 131 144 (fun x y => y ≤ x) (fun _ _ => inferInstance)) (fe_X8_millionths 128) g_icmp (fun c1 => ?_) (fun c1 => ?_)
    · exact absurd c1 (nI_ge (show i < 6 by omega) (by decide))
    · refine t_go (op := o_iload 133 6) (fe_X8_millionths 131) (fun _ _ => rfl) ?_
      refine t_go (op := o_ci 135 10) (fe_X8_millionths 133) (fun _ _ => rfl) ?_
      refine t_go (op := o_i2 136 (fun x y => x * y)) (fe_X8_millionths 135) (fun _ _ => rfl) ?_
      refine t_go (op := o_istore 138 6) (fe_X8_millionths 136) (fun _ _ => rfl) ?_
      refine t_go (op := o_iinc 141 7 1) (fe_X8_millionths 138) (fun _ _ => rfl) ?_
      refine t_go (op := o_goto 124) (fe_X8_millionths 141) (fun _ _ => rfl) ?_
      rw [it_step] at hq
      rw [nI_1]
      exact ih (i + 1) _ (by omega) hq
theorem shl_q {q : Nat} (h : q ≤ 6) : (1 : Int32) <<< (nI q &&& 31) = nI (2 ^ q) ∧ 2 ^ q ≤ 64 := by
  have hq : q = 0 ∨ q = 1 ∨ q = 2 ∨ q = 3 ∨ q = 4 ∨ q = 5 ∨ q = 6 := by omega
  rcases hq with e | e | e | e | e | e | e <;> subst e <;> decide
theorem m_millionths {d : Nat} {h k : AHP} {g n : Nat} (hS0 : Std h) (hg : (lay g).1 = 3) (hL : LawOK h g n) (hX : X h k) (hN : NF (fs k 143)) (hz : h.1 5 5 = 0 ∨ h.1 5 5 = 1) (hN2 : NF (fs h 5)) {q : Nat} {e od : Int32} (hq6 : q ≤ 6) : MM (d + 6) 90 [.ref 142, .ref g, .ref 5, .int e, .int (nI q), .int od] k (fun v h2 => v = some (.int (it tenS (6 - q) q (it (milS h g n od e q) (2 ^ q) 0 0))) ∧ X h h2 ∧ NF (fs h2 143)) := by
  refine ⟨Nat.le_of_ble_eq_true rfl, ?_⟩
  have hS := hX.std hS0
  refine t_go (op := o_ci 1 0) (fe_X8_millionths 0) (fun _ _ => rfl) ?_
  refine t_go (op := o_istore 3 6) (fe_X8_millionths 1) (fun _ _ => rfl) ?_
  refine t_go (op := o_ci 4 0) (fe_X8_millionths 3) (fun _ _ => rfl) ?_
  refine t_go (op := o_istore 6 7) (fe_X8_millionths 4) (fun _ _ => rfl) ?_
  refine l_mil2 hS0 hg hL hz hN2 hq6 (shl_q hq6).1 (shl_q hq6).2 (2 ^ q) 0 0 k _ _ _ (by omega) hX hN (fun k2 y8 y9 y10 x1 x2 => ?_)
  refine t_go (op := o_iload 122 4) (fe_X8_millionths 120) (fun _ _ => rfl) ?_
  refine t_go (op := o_istore 124 7) (fe_X8_millionths 122) (fun _ _ => rfl) ?_
  exact l_mil3 (6 - q) q _ (by omega) ⟨rfl, x1, x2⟩
/-- how high they lie one on another -/
def towI (r : Nat → Int32) (c : Nat) : Nat → Nat → Int32
  | 0, i => nI i
  | j + 1, i => if r (c + 4 * i) = -1 then nI i else towI r c j (i + 1)
def towV (F : FS) (c : Nat) : Int32 := towI F.2.2.2.1 c 3 0
theorem l_tow {d : Nat} {h : AHP} {f c : Nat} (hS : Std h) (hf : (lay f).1 = 1) (hc : c < 4)  {Q : Option Value → AHP → Prop} : ∀ (j i : Nat) (S : Unit), i + j = 3 → Q (some (.int (towI (h.1 (f + 4)) c j i))) h → TT d 26 8 [some (.ref f), some (.int (nI c)), some (.int (nI i)), some (.int (nI (c + 4 * i)))] [] h Q := by
  intro j
  induction j with
  | zero =>
    intro i S hi  hq
    have hN : i = 3 := by omega
    refine t_go (op := o_iload 9 3) (fe_X1_stackOf 8) (fun _ _ => rfl) ?_
    refine t_go (op := o_ci 11 12) (fe_X1_stackOf 9) (fun _ _ => rfl) ?_
    refine t_ite (op := o_icmp 14 33 (fun x y => y ≤ x) (fun _ _ => inferInstance)) (fe_X1_stackOf 11) g_icmp (fun c1 => ?_) (fun c1 => ?_)
    · refine t_go (op := o_iload 34 2) (fe_X1_stackOf 33) (fun _ _ => rfl) ?_
      refine t_ret (op := o_iret) (fe_X1_stackOf 34) (fun _ _ => rfl) ?_
      exact hq
    · exact absurd (show (12 : Int32) ≤ nI (c + 4 * i) from nI_le (a := 12) (by omega) (by omega)) c1
  | succ j ih =>
    intro i S hi  hq
    have hb : inb (nI (c + 4 * i)) 12 := inb_n (by omega) (by decide)
    refine t_go (op := o_iload 9 3) (fe_X1_stackOf 8) (fun _ _ => rfl) ?_
    refine t_go (op := o_ci 11 12) (fe_X1_stackOf 9) (fun _ _ => rfl) ?_
    refine t_ite (op := o_icmp 14 33 (fun x y => y ≤ x) (fun _ _ => inferInstance)) (fe_X1_stackOf 11) g_icmp (fun c1 => ?_) (fun c1 => ?_)
    · exact absurd c1 (nI_ge (show c + 4 * i < 12 by omega) (by decide))
    · refine t_go (op := o_aload 15 0) (fe_X1_stackOf 14) (fun _ _ => rfl) ?_
      refine t_go (op := o_getR 18 1 3) (fe_X1_stackOf 15) (g_getR hS hf (by decide) (fr_1_3 hS hf) (Nat.succ_pos _)) ?_
      refine t_go (op := o_iload 19 3) (fe_X1_stackOf 18) (fun _ _ => rfl) ?_
      refine t_go (op := o_iald 20) (fe_X1_stackOf 19) (g_iald hS (ly_1_4 hf) (by first | assumption | exact inb_1 ‹_› ‹_› (by decide))) ?_
      refine t_go (op := o_ci 21 (-1)) (fe_X1_stackOf 20) (fun _ _ => rfl) ?_
      rw [nI_clamp (show c + 4 * i < 2 ^ 31 by omega)]
      refine t_ite (op := o_icmp 24 33 (fun x y => x = y) (fun _ _ => inferInstance)) (fe_X1_stackOf 21) g_icmp (fun c2 => ?_) (fun c2 => ?_)
      · refine t_go (op := o_iload 34 2) (fe_X1_stackOf 33) (fun _ _ => rfl) ?_
        refine t_ret (op := o_iret) (fe_X1_stackOf 34) (fun _ _ => rfl) ?_
        have hs : towI (h.1 (f + 4)) c (j + 1) i = _ := if_pos c2
        rw [hs] at hq
        exact hq
      · refine t_go (op := o_iinc 27 2 1) (fe_X1_stackOf 24) (fun _ _ => rfl) ?_
        refine t_go (op := o_iinc 30 3 4) (fe_X1_stackOf 27) (fun _ _ => rfl) ?_
        refine t_go (op := o_goto 8) (fe_X1_stackOf 30) (fun _ _ => rfl) ?_
        have hs : towI (h.1 (f + 4)) c (j + 1) i = _ := if_neg c2
        rw [hs] at hq
        rw [nI_1, show nI (c + 4 * i) + 4 = nI (c + 4 * (i + 1)) from nI_add _ 4]
        exact ih (i + 1) () (by omega) hq
theorem m_stackOf {d : Nat} {h : AHP} {f c : Nat} (hS : Std h) (hf : (lay f).1 = 1) (hc : c < 4) : MM d 26 [.ref f, .int (nI c)] h (fun v h2 => v = some (.int (towV (fs h f) c)) ∧ h2 = h) := by
  refine ⟨Nat.le_of_ble_eq_true rfl, ?_⟩
  refine t_go (op := o_ci 1 0) (fe_X1_stackOf 0) (fun _ _ => rfl) ?_
  refine t_go (op := o_istore 2 2) (fe_X1_stackOf 1) (fun _ _ => rfl) ?_
  refine t_go (op := o_ci 3 0) (fe_X1_stackOf 2) (fun _ _ => rfl) ?_
  refine t_go (op := o_iload 4 1) (fe_X1_stackOf 3) (fun _ _ => rfl) ?_
  refine t_go (op := o_max 7) (fe_X1_stackOf 4) (g_max (Nat.le_of_ble_eq_true rfl)) ?_
  refine t_go (op := o_istore 8 3) (fe_X1_stackOf 7) (fun _ _ => rfl) ?_
  rw [show (if (0 : Int32) < nI c then nI c else 0) = nI (c + 4 * 0) by
    rcases Nat.eq_zero_or_pos c with z | z
    · subst z; rfl
    · rw [if_pos (show (0 : Int32) < nI c from nI_lt (a := 0) z (by omega))]; rfl]
  exact l_tow hS hf hc 3 0 () rfl ⟨rfl, rfl⟩
