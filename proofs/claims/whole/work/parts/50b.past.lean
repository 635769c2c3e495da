/-! ===== what was told, the past ===== -/
def told1 (k : AHP) (e q b : Int32) : AHP := sI (sI (sI (sI k 11 (k.1 10 3).toNatClampNeg e) 12 (k.1 10 3).toNatClampNeg q) 13 (k.1 10 3).toNatClampNeg b) 10 3 (k.1 10 3 + 1)
def tbec (h : AHP) (d s : Nat) : AHP :=
  let k1 := rowI h (d + 1) (va_cpy (h.1 (s + 1)) (h.1 (d + 1)) 0 0 6)
  let k2 := rowI k1 (d + 2) (va_cpy (k1.1 (s + 2)) (k1.1 (d + 2)) 0 0 6)
  let k3 := rowI k2 (d + 3) (va_cpy (k2.1 (s + 3)) (k2.1 (d + 3)) 0 0 6)
  sI k3 d 3 (k3.1 s 3)
theorem fr_keptN {h : AHP} (hS : Std h) {i : Nat} (hi : i < 16) : h.2.2.1 15 (nI i).toNatClampNeg = 19 + 5 * i := by rw [nI_clamp (by omega)]; exact fr_kept hS hi
theorem fr_mfN {h : AHP} (hS : Std h) {i : Nat} (hi : i < 4) : h.2.2.1 16 (nI i).toNatClampNeg = 99 + 9 * i := by rw [nI_clamp (by omega)]; exact fr_mf hS hi
theorem fr_mtN {h : AHP} (hS : Std h) {i : Nat} (hi : i < 4) : h.2.2.1 17 (nI i).toNatClampNeg = 104 + 9 * i := by rw [nI_clamp (by omega)]; exact fr_mt hS hi
theorem up_far {h : AHP} {a b i j : Nat} {v : Int32} (hb : b ≠ a) : (sI h a i v).1 b j = h.1 b j := by simp [sI, up2, hb]
theorem and15 (x : Int32) : ∃ j : Nat, j < 16 ∧ x &&& 15 = nI j := by
  refine ⟨(x.toBitVec &&& 15#32).toNat, ?_, ?_⟩
  · rw [BitVec.toNat_and]
    exact Nat.and_lt_two_pow (n := 4) _ (by decide)
  · apply Int32.toBitVec_inj.mp
    rw [Int32.toBitVec_and, nI, Int32.toBitVec_ofNat', BitVec.ofNat_toNat, BitVec.setWidth_eq]
    rfl
theorem b_become {d : Nat} {k : AHP} {f f2 : Nat} (hS : Std k) (hf : (lay f).1 = 1) (hf2 : (lay f2).1 = 1) (hd : f2 + 5 ≤ f ∨ f + 5 ≤ f2) (hz : k.1 f2 5 = 0 ∨ k.1 f2 5 = 1) : MM d 7 [.ref f, .ref f2] k (fun v h2 => v = none ∧ h2 = setF k f (becF (fs k f) (fs k f2))) := by
  have q := m_become (d := d) (h := k) (f := f) (f2 := f2) (F := fs k f) hS hf hf2 hd hz
  rw [setF_fs] at q
  exact q
theorem m_toldAdd {d : Nat} {h : AHP} {e q b : Int32} {m : Nat} (hS : Std h) (hm : m < 6) (hl : h.1 10 3 = nI m) (hb : b = 0 ∨ b = 1) : MM d 104 [.ref 10, .int e, .int q, .int b] h (fun v h2 => v = some (.int 1) ∧ h2 = told1 h e q b) := by
  refine ⟨Nat.le_of_ble_eq_true rfl, ?_⟩
  have hb6 : inb (h.1 10 3) 6 := by rw [hl]; exact inb_n hm (by decide)
  refine t_go (op := o_aload 1 0) (fe_X10_add 0) (fun _ _ => rfl) ?_
  refine t_go (op := o_getI 4 9 3) (fe_X10_add 1) (g_getI hS (show (lay 10).1 = 9 by decide) (by decide)) ?_
  refine t_go (op := o_ci 6 6) (fe_X10_add 4) (fun _ _ => rfl) ?_
  refine t_ite (op := o_icmp 9 11 (fun x y => x < y) (fun _ _ => inferInstance)) (fe_X10_add 6) g_icmp (fun c1 => ?_) (fun c1 => ?_)
  · refine t_go (op := o_aload 12 0) (fe_X10_add 11) (fun _ _ => rfl) ?_
    refine t_go (op := o_getR 15 9 0) (fe_X10_add 12) (g_getR hS (show (lay 10).1 = 9 by decide) (by decide) (fr_9_0 hS (show (lay 10).1 = 9 by decide)) (Nat.succ_pos _)) ?_
    refine t_go (op := o_aload 16 0) (fe_X10_add 15) (fun _ _ => rfl) ?_
    refine t_go (op := o_getI 19 9 3) (fe_X10_add 16) (g_getI hS (show (lay 10).1 = 9 by decide) (by decide)) ?_
    refine t_go (op := o_iload 20 1) (fe_X10_add 19) (fun _ _ => rfl) ?_
    refine t_go (op := o_iast 21) (fe_X10_add 20) (g_iast hS (ly_9_1 (show (lay 10).1 = 9 by decide)) hb6) ?_
    refine t_go (op := o_aload 22 0) (fe_X10_add 21) (fun _ _ => rfl) ?_
    refine t_go (op := o_getR 25 9 1) (fe_X10_add 22) (g_getR hS (show (lay 10).1 = 9 by decide) (by decide) (fr_9_1 hS (show (lay 10).1 = 9 by decide)) (Nat.succ_pos _)) ?_
    refine t_go (op := o_aload 26 0) (fe_X10_add 25) (fun _ _ => rfl) ?_
    refine t_go (op := o_getI 29 9 3) (fe_X10_add 26) (g_getI hS (show (lay 10).1 = 9 by decide) (by decide)) ?_
    refine t_go (op := o_iload 30 2) (fe_X10_add 29) (fun _ _ => rfl) ?_
    refine t_go (op := o_iast 31) (fe_X10_add 30) (g_iast hS (ly_9_2 (show (lay 10).1 = 9 by decide)) hb6) ?_
    refine t_go (op := o_aload 32 0) (fe_X10_add 31) (fun _ _ => rfl) ?_
    refine t_go (op := o_getR 35 9 2) (fe_X10_add 32) (g_getR hS (show (lay 10).1 = 9 by decide) (by decide) (fr_9_2 hS (show (lay 10).1 = 9 by decide)) (Nat.succ_pos _)) ?_
    refine t_go (op := o_aload 36 0) (fe_X10_add 35) (fun _ _ => rfl) ?_
    refine t_go (op := o_getI 39 9 3) (fe_X10_add 36) (g_getI hS (show (lay 10).1 = 9 by decide) (by decide)) ?_
    refine t_go (op := o_iload 40 3) (fe_X10_add 39) (fun _ _ => rfl) ?_
    refine t_ite (op := o_if 43 47 (fun x => x = 0) (fun _ => inferInstance)) (fe_X10_add 40) g_if (fun c2 => ?_) (fun c2 => ?_)
    · refine t_go (op := o_ci 48 0) (fe_X10_add 47) (fun _ _ => rfl) ?_
      refine t_go (op := o_iast 49) (fe_X10_add 48) (g_iast hS (ly_9_3 (show (lay 10).1 = 9 by decide)) hb6) ?_
      refine t_go (op := o_aload 50 0) (fe_X10_add 49) (fun _ _ => rfl) ?_
      refine t_go (op := o_dupA 51) (fe_X10_add 50) (fun _ _ => rfl) ?_
      refine t_go (op := o_getI 54 9 3) (fe_X10_add 51) (g_getI hS (show (lay 10).1 = 9 by decide) (by decide)) ?_
      refine t_go (op := o_ci 55 1) (fe_X10_add 54) (fun _ _ => rfl) ?_
      refine t_go (op := o_i2 56 (fun x y => x + y)) (fe_X10_add 55) (fun _ _ => rfl) ?_
      refine t_go (op := o_putI 59 9 3) (fe_X10_add 56) (g_putI hS (show (lay 10).1 = 9 by decide) (by decide)) ?_
      refine t_go (op := o_ci 60 1) (fe_X10_add 59) (fun _ _ => rfl) ?_
      refine t_ret (op := o_zret) (fe_X10_add 60) (g_zret (Or.inr rfl)) ?_
      exact ⟨rfl, by rw [show b = 0 from c2]; rfl⟩
    · refine t_go (op := o_ci 44 1) (fe_X10_add 43) (fun _ _ => rfl) ?_
      refine t_go (op := o_goto 48) (fe_X10_add 44) (fun _ _ => rfl) ?_
      refine t_go (op := o_iast 49) (fe_X10_add 48) (g_iast hS (ly_9_3 (show (lay 10).1 = 9 by decide)) hb6) ?_
      refine t_go (op := o_aload 50 0) (fe_X10_add 49) (fun _ _ => rfl) ?_
      refine t_go (op := o_dupA 51) (fe_X10_add 50) (fun _ _ => rfl) ?_
      refine t_go (op := o_getI 54 9 3) (fe_X10_add 51) (g_getI hS (show (lay 10).1 = 9 by decide) (by decide)) ?_
      refine t_go (op := o_ci 55 1) (fe_X10_add 54) (fun _ _ => rfl) ?_
      refine t_go (op := o_i2 56 (fun x y => x + y)) (fe_X10_add 55) (fun _ _ => rfl) ?_
      refine t_go (op := o_putI 59 9 3) (fe_X10_add 56) (g_putI hS (show (lay 10).1 = 9 by decide) (by decide)) ?_
      refine t_go (op := o_ci 60 1) (fe_X10_add 59) (fun _ _ => rfl) ?_
      refine t_ret (op := o_zret) (fe_X10_add 60) (g_zret (Or.inr rfl)) ?_
      exact ⟨rfl, by rw [show b = 1 from hb.resolve_left c2]; rfl⟩
  · exact absurd (show h.1 10 3 < 6 by rw [hl]; exact nI_lt (b := 6) hm (by decide)) c1
theorem m_toldFull {d : Nat} {h : AHP} {e q b : Int32} (hS : Std h) (hl : h.1 10 3 = 6) : MM d 104 [.ref 10, .int e, .int q, .int b] h (fun v h2 => v = some (.int 0) ∧ h2 = h) := by
  refine ⟨Nat.le_of_ble_eq_true rfl, ?_⟩
  refine t_go (op := o_aload 1 0) (fe_X10_add 0) (fun _ _ => rfl) ?_
  refine t_go (op := o_getI 4 9 3) (fe_X10_add 1) (g_getI hS (show (lay 10).1 = 9 by decide) (by decide)) ?_
  refine t_go (op := o_ci 6 6) (fe_X10_add 4) (fun _ _ => rfl) ?_
  refine t_ite (op := o_icmp 9 11 (fun x y => x < y) (fun _ _ => inferInstance)) (fe_X10_add 6) g_icmp (fun c1 => ?_) (fun c1 => ?_)
  · exact absurd c1 (by show ¬ h.1 10 3 < 6; rw [hl]; decide)
  · refine t_go (op := o_ci 10 0) (fe_X10_add 9) (fun _ _ => rfl) ?_
    refine t_ret (op := o_zret) (fe_X10_add 10) (g_zret (Or.inl rfl)) ?_
    exact ⟨rfl, rfl⟩
theorem m_toldBecome {d : Nat} {h : AHP} {t s : Nat} (hS : Std h) (ht : (lay t).1 = 9) (hs : (lay s).1 = 9) : MM d 105 [.ref t, .ref s] h (fun v h2 => v = none ∧ h2 = tbec h t s) := by
  refine ⟨Nat.le_of_ble_eq_true rfl, ?_⟩
  refine t_go (op := o_aload 1 1) (fe_X10_become 0) (fun _ _ => rfl) ?_
  refine t_go (op := o_getR 4 9 0) (fe_X10_become 1) (g_getR hS hs (by decide) (fr_9_0 hS hs) (Nat.succ_pos _)) ?_
  refine t_go (op := o_ci 5 0) (fe_X10_become 4) (fun _ _ => rfl) ?_
  refine t_go (op := o_aload 6 0) (fe_X10_become 5) (fun _ _ => rfl) ?_
  refine t_go (op := o_getR 9 9 0) (fe_X10_become 6) (g_getR hS ht (by decide) (fr_9_0 hS ht) (Nat.succ_pos _)) ?_
  refine t_go (op := o_ci 10 0) (fe_X10_become 9) (fun _ _ => rfl) ?_
  refine t_go (op := o_ci 12 6) (fe_X10_become 10) (fun _ _ => rfl) ?_
  refine t_go (op := o_acopy 15) (fe_X10_become 12) (g_acopy hS (ly_9_1 hs) (ly_9_1 ht) (by decide)) ?_
  refine t_go (op := o_aload 16 1) (fe_X10_become 15) (fun _ _ => rfl) ?_
  refine t_go (op := o_getR 19 9 1) (fe_X10_become 16) (g_getR hS hs (by decide) (fr_9_1 hS hs) (Nat.succ_pos _)) ?_
  refine t_go (op := o_ci 20 0) (fe_X10_become 19) (fun _ _ => rfl) ?_
  refine t_go (op := o_aload 21 0) (fe_X10_become 20) (fun _ _ => rfl) ?_
  refine t_go (op := o_getR 24 9 1) (fe_X10_become 21) (g_getR hS ht (by decide) (fr_9_1 hS ht) (Nat.succ_pos _)) ?_
  refine t_go (op := o_ci 25 0) (fe_X10_become 24) (fun _ _ => rfl) ?_
  refine t_go (op := o_ci 27 6) (fe_X10_become 25) (fun _ _ => rfl) ?_
  refine t_go (op := o_acopy 30) (fe_X10_become 27) (g_acopy hS (ly_9_2 hs) (ly_9_2 ht) (by decide)) ?_
  refine t_go (op := o_aload 31 1) (fe_X10_become 30) (fun _ _ => rfl) ?_
  refine t_go (op := o_getR 34 9 2) (fe_X10_become 31) (g_getR hS hs (by decide) (fr_9_2 hS hs) (Nat.succ_pos _)) ?_
  refine t_go (op := o_ci 35 0) (fe_X10_become 34) (fun _ _ => rfl) ?_
  refine t_go (op := o_aload 36 0) (fe_X10_become 35) (fun _ _ => rfl) ?_
  refine t_go (op := o_getR 39 9 2) (fe_X10_become 36) (g_getR hS ht (by decide) (fr_9_2 hS ht) (Nat.succ_pos _)) ?_
  refine t_go (op := o_ci 40 0) (fe_X10_become 39) (fun _ _ => rfl) ?_
  refine t_go (op := o_ci 42 6) (fe_X10_become 40) (fun _ _ => rfl) ?_
  refine t_go (op := o_acopy 45) (fe_X10_become 42) (g_acopy hS (ly_9_3 hs) (ly_9_3 ht) (by decide)) ?_
  refine t_go (op := o_aload 46 0) (fe_X10_become 45) (fun _ _ => rfl) ?_
  refine t_go (op := o_aload 47 1) (fe_X10_become 46) (fun _ _ => rfl) ?_
  refine t_go (op := o_getI 50 9 3) (fe_X10_become 47) (g_getI hS hs (by decide)) ?_
  refine t_go (op := o_putI 53 9 3) (fe_X10_become 50) (g_putI hS ht (by decide)) ?_
  refine t_ret (op := o_vret) (fe_X10_become 53) (fun _ _ => rfl) ?_
  exact ⟨rfl, rfl⟩
theorem m_toldForget {d : Nat} {h : AHP} {t : Nat} (hS : Std h) (ht : (lay t).1 = 9) : MM d 106 [.ref t] h (fun v h2 => v = none ∧ h2 = sI h t 3 0) := by
  refine ⟨Nat.le_of_ble_eq_true rfl, ?_⟩
  refine t_go (op := o_aload 1 0) (fe_X10_forget 0) (fun _ _ => rfl) ?_
  refine t_go (op := o_ci 2 0) (fe_X10_forget 1) (fun _ _ => rfl) ?_
  refine t_go (op := o_putI 5 9 3) (fe_X10_forget 2) (g_putI hS ht (by decide)) ?_
  refine t_ret (op := o_vret) (fe_X10_forget 5) (fun _ _ => rfl) ?_
  exact ⟨rfl, rfl⟩
def keepH (h : AHP) (j : Nat) : AHP :=
  let k1 := setF h (19 + 5 * j) (becF (fs h (19 + 5 * j)) (fs h 5))
  let k2 := sI k1 14 4 (k1.1 14 4 + 1)
  sI k2 14 5 (if k2.1 14 5 + 1 < 16 then k2.1 14 5 + 1 else 16)
def backH (h : AHP) (j : Nat) : AHP :=
  let k2 := sI (sI h 14 4 (h.1 14 4 - 1)) 14 5 (h.1 14 5 - 1)
  setF k2 5 (becF (fs k2 5) (fs k2 (19 + 5 * j)))
def markH (h : AHP) (m : Nat) : AHP :=
  let k1 := setF h (99 + 9 * m) (becF (fs h (99 + 9 * m)) (fs h 5))
  sI (tbec k1 (104 + 9 * m) 10) 18 m 1
def goH (h : AHP) (m : Nat) : AHP :=
  let k1 := setF h 5 (becF (fs h 5) (fs h (99 + 9 * m)))
  sI (tbec k1 10 (104 + 9 * m)) 14 5 0
def unlS (i : Nat) (h : AHP) : AHP := sI h 18 (nI i).toNatClampNeg 0
theorem m_keep {d : Nat} {h : AHP} {j : Nat} (hS : Std h) (hj : j < 16) (ej : h.1 14 4 &&& 15 = nI j) (hz : h.1 5 5 = 0 ∨ h.1 5 5 = 1) : MM (d + 1) 63 [.ref 14, .ref 5] h (fun v h2 => v = none ∧ h2 = keepH h j) := by
  refine ⟨Nat.le_of_ble_eq_true rfl, ?_⟩
  refine t_go (op := o_aload 1 0) (fe_X6_keep 0) (fun _ _ => rfl) ?_
  refine t_go (op := o_getR 4 5 0) (fe_X6_keep 1) (g_getR hS (show (lay 14).1 = 5 by decide) (by decide) (fr_5_0 hS) (by decide)) ?_
  refine t_go (op := o_aload 5 0) (fe_X6_keep 4) (fun _ _ => rfl) ?_
  refine t_go (op := o_getI 8 5 4) (fe_X6_keep 5) (g_getI hS (show (lay 14).1 = 5 by decide) (by decide)) ?_
  refine t_go (op := o_ci 10 15) (fe_X6_keep 8) (fun _ _ => rfl) ?_
  refine t_go (op := o_i2 11 (fun x y => x &&& y)) (fe_X6_keep 10) (fun _ _ => rfl) ?_
  dsimp only []
  rw [ej]
  refine t_go (op := o_aald 12 23) (fe_X6_keep 11) (g_aald hS (show lay 15 = (23, 16) by decide) (by decide) (by first | assumption | exact inb_n hj (by decide)) (fr_keptN hS hj) (by omega)) ?_
  refine t_go (op := o_aload 13 1) (fe_X6_keep 12) (fun _ _ => rfl) ?_
  refine t_call (op := o_callV 16 7 2 1) (fe_X6_keep 13) (g_callV hS (ly_kept hj) (by decide) rfl rfl rfl (Nat.le_of_ble_eq_true rfl)) ?_
  refine M_mono ?_ (b_become hS (ly_kept hj) (by decide) (by omega) hz)
  rintro v h2 ⟨q1, q2⟩
  rw [q1, q2]; clear q1 q2 v h2
  refine t_go (op := o_aload 17 0) (fe_X6_keep 16) (fun _ _ => rfl) ?_
  refine t_go (op := o_dupA 18) (fe_X6_keep 17) (fun _ _ => rfl) ?_
  refine t_go (op := o_getI 21 5 4) (fe_X6_keep 18) (g_getI hS (show (lay 14).1 = 5 by decide) (by decide)) ?_
  refine t_go (op := o_ci 22 1) (fe_X6_keep 21) (fun _ _ => rfl) ?_
  refine t_go (op := o_i2 23 (fun x y => x + y)) (fe_X6_keep 22) (fun _ _ => rfl) ?_
  refine t_go (op := o_putI 26 5 4) (fe_X6_keep 23) (g_putI hS (show (lay 14).1 = 5 by decide) (by decide)) ?_
  refine t_go (op := o_aload 27 0) (fe_X6_keep 26) (fun _ _ => rfl) ?_
  refine t_go (op := o_ci 29 16) (fe_X6_keep 27) (fun _ _ => rfl) ?_
  refine t_go (op := o_aload 30 0) (fe_X6_keep 29) (fun _ _ => rfl) ?_
  refine t_go (op := o_getI 33 5 5) (fe_X6_keep 30) (g_getI hS (show (lay 14).1 = 5 by decide) (by decide)) ?_
  refine t_go (op := o_ci 34 1) (fe_X6_keep 33) (fun _ _ => rfl) ?_
  refine t_go (op := o_i2 35 (fun x y => x + y)) (fe_X6_keep 34) (fun _ _ => rfl) ?_
  refine t_go (op := o_min 38) (fe_X6_keep 35) (g_min (Nat.le_of_ble_eq_true rfl)) ?_
  refine t_go (op := o_putI 41 5 5) (fe_X6_keep 38) (g_putI hS (show (lay 14).1 = 5 by decide) (by decide)) ?_
  refine t_ret (op := o_vret) (fe_X6_keep 41) (fun _ _ => rfl) ?_
  exact ⟨rfl, rfl⟩
theorem m_bringBack {d : Nat} {h : AHP} {j : Nat} (hS : Std h) (hj : j < 16) (ej : (h.1 14 4 - 1) &&& 15 = nI j) (hp : 0 < h.1 14 5) (hz : h.1 (19 + 5 * j) 5 = 0 ∨ h.1 (19 + 5 * j) 5 = 1) : MM (d + 1) 64 [.ref 14, .ref 5] h (fun v h2 => v = some (.int 1) ∧ h2 = backH h j) := by
  refine ⟨Nat.le_of_ble_eq_true rfl, ?_⟩
  refine t_go (op := o_aload 1 0) (fe_X6_bringBack 0) (fun _ _ => rfl) ?_
  refine t_go (op := o_getI 4 5 5) (fe_X6_bringBack 1) (g_getI hS (show (lay 14).1 = 5 by decide) (by decide)) ?_
  refine t_ite (op := o_if 7 9 (fun x => 0 < x) (fun _ => inferInstance)) (fe_X6_bringBack 4) g_if (fun c1 => ?_) (fun c1 => ?_)
  · refine t_go (op := o_aload 10 0) (fe_X6_bringBack 9) (fun _ _ => rfl) ?_
    refine t_go (op := o_dupA 11) (fe_X6_bringBack 10) (fun _ _ => rfl) ?_
    refine t_go (op := o_getI 14 5 4) (fe_X6_bringBack 11) (g_getI hS (show (lay 14).1 = 5 by decide) (by decide)) ?_
    refine t_go (op := o_ci 15 1) (fe_X6_bringBack 14) (fun _ _ => rfl) ?_
    refine t_go (op := o_i2 16 (fun x y => x - y)) (fe_X6_bringBack 15) (fun _ _ => rfl) ?_
    refine t_go (op := o_putI 19 5 4) (fe_X6_bringBack 16) (g_putI hS (show (lay 14).1 = 5 by decide) (by decide)) ?_
    refine t_go (op := o_aload 20 0) (fe_X6_bringBack 19) (fun _ _ => rfl) ?_
    refine t_go (op := o_dupA 21) (fe_X6_bringBack 20) (fun _ _ => rfl) ?_
    refine t_go (op := o_getI 24 5 5) (fe_X6_bringBack 21) (g_getI hS (show (lay 14).1 = 5 by decide) (by decide)) ?_
    refine t_go (op := o_ci 25 1) (fe_X6_bringBack 24) (fun _ _ => rfl) ?_
    refine t_go (op := o_i2 26 (fun x y => x - y)) (fe_X6_bringBack 25) (fun _ _ => rfl) ?_
    refine t_go (op := o_putI 29 5 5) (fe_X6_bringBack 26) (g_putI hS (show (lay 14).1 = 5 by decide) (by decide)) ?_
    refine t_go (op := o_aload 30 1) (fe_X6_bringBack 29) (fun _ _ => rfl) ?_
    refine t_go (op := o_aload 31 0) (fe_X6_bringBack 30) (fun _ _ => rfl) ?_
    refine t_go (op := o_getR 34 5 0) (fe_X6_bringBack 31) (g_getR hS (show (lay 14).1 = 5 by decide) (by decide) (fr_5_0 hS) (by decide)) ?_
    refine t_go (op := o_aload 35 0) (fe_X6_bringBack 34) (fun _ _ => rfl) ?_
    refine t_go (op := o_getI 38 5 4) (fe_X6_bringBack 35) (g_getI hS (show (lay 14).1 = 5 by decide) (by decide)) ?_
    refine t_go (op := o_ci 40 15) (fe_X6_bringBack 38) (fun _ _ => rfl) ?_
    refine t_go (op := o_i2 41 (fun x y => x &&& y)) (fe_X6_bringBack 40) (fun _ _ => rfl) ?_
    show TT _ _ _ _ (.int ((h.1 14 4 - 1) &&& 15) :: _) _ _
    rw [ej]
    refine t_go (op := o_aald 42 23) (fe_X6_bringBack 41) (g_aald hS (show lay 15 = (23, 16) by decide) (by decide) (by first | assumption | exact inb_n hj (by decide)) (fr_keptN hS hj) (by omega)) ?_
    refine t_call (op := o_callV 45 7 2 1) (fe_X6_bringBack 42) (g_callV hS (by decide) (by decide) rfl rfl rfl (Nat.le_of_ble_eq_true rfl)) ?_
    refine M_mono ?_ (b_become hS (by decide) (ly_kept hj) (by omega) (by rw [up_far (by omega), up_far (by omega)]; exact hz))
    rintro v h2 ⟨q1, q2⟩
    rw [q1, q2]; clear q1 q2 v h2
    refine t_go (op := o_ci 46 1) (fe_X6_bringBack 45) (fun _ _ => rfl) ?_
    refine t_ret (op := o_zret) (fe_X6_bringBack 46) (g_zret (Or.inr rfl)) ?_
    exact ⟨rfl, rfl⟩
  · exact absurd hp c1
theorem m_bringNone {d : Nat} {h : AHP} (hS : Std h) (hp : ¬ 0 < h.1 14 5) : MM (d + 1) 64 [.ref 14, .ref 5] h (fun v h2 => v = some (.int 0) ∧ h2 = h) := by
  refine ⟨Nat.le_of_ble_eq_true rfl, ?_⟩
  refine t_go (op := o_aload 1 0) (fe_X6_bringBack 0) (fun _ _ => rfl) ?_
  refine t_go (op := o_getI 4 5 5) (fe_X6_bringBack 1) (g_getI hS (show (lay 14).1 = 5 by decide) (by decide)) ?_
  refine t_ite (op := o_if 7 9 (fun x => 0 < x) (fun _ => inferInstance)) (fe_X6_bringBack 4) g_if (fun c1 => ?_) (fun c1 => ?_)
  · exact absurd c1 hp
  · refine t_go (op := o_ci 8 0) (fe_X6_bringBack 7) (fun _ _ => rfl) ?_
    refine t_ret (op := o_zret) (fe_X6_bringBack 8) (g_zret (Or.inl rfl)) ?_
    exact ⟨rfl, rfl⟩
theorem m_mark {d : Nat} {h : AHP} {m : Nat} (hS : Std h) (hm : m < 4) (hz : h.1 5 5 = 0 ∨ h.1 5 5 = 1) : MM (d + 1) 65 [.ref 14, .int (nI m), .ref 5, .ref 10] h (fun v h2 => v = some (.int 1) ∧ h2 = markH h m) := by
  refine ⟨Nat.le_of_ble_eq_true rfl, ?_⟩
  refine t_go (op := o_iload 1 1) (fe_X6_lay 0) (fun _ _ => rfl) ?_
  refine t_ite (op := o_if 4 9 (fun x => x < 0) (fun _ => inferInstance)) (fe_X6_lay 1) g_if (fun c1 => ?_) (fun c1 => ?_)
  · exact absurd c1 (nI_pos (by omega))
  · refine t_go (op := o_iload 5 1) (fe_X6_lay 4) (fun _ _ => rfl) ?_
    refine t_go (op := o_ci 6 4) (fe_X6_lay 5) (fun _ _ => rfl) ?_
    refine t_ite (op := o_icmp 9 11 (fun x y => x < y) (fun _ _ => inferInstance)) (fe_X6_lay 6) g_icmp (fun c2 => ?_) (fun c2 => ?_)
    · refine t_go (op := o_aload 12 0) (fe_X6_lay 11) (fun _ _ => rfl) ?_
      refine t_go (op := o_getR 15 5 1) (fe_X6_lay 12) (g_getR hS (show (lay 14).1 = 5 by decide) (by decide) (fr_5_1 hS) (by decide)) ?_
      refine t_go (op := o_iload 16 1) (fe_X6_lay 15) (fun _ _ => rfl) ?_
      refine t_go (op := o_aald 17 23) (fe_X6_lay 16) (g_aald hS (show lay 16 = (23, 4) by decide) (by decide) (by first | assumption | exact inb_n hm (by decide)) (fr_mfN hS hm) (by omega)) ?_
      refine t_go (op := o_aload 18 2) (fe_X6_lay 17) (fun _ _ => rfl) ?_
      refine t_call (op := o_callV 21 7 2 1) (fe_X6_lay 18) (g_callV hS (ly_mf hm) (by decide) rfl rfl rfl (Nat.le_of_ble_eq_true rfl)) ?_
      refine M_mono ?_ (b_become hS (ly_mf hm) (by decide) (by omega) hz)
      rintro v h2 ⟨q1, q2⟩
      rw [q1, q2]; clear q1 q2 v h2
      refine t_go (op := o_aload 22 0) (fe_X6_lay 21) (fun _ _ => rfl) ?_
      refine t_go (op := o_getR 25 5 2) (fe_X6_lay 22) (g_getR hS (show (lay 14).1 = 5 by decide) (by decide) (fr_5_2 hS) (by decide)) ?_
      refine t_go (op := o_iload 26 1) (fe_X6_lay 25) (fun _ _ => rfl) ?_
      refine t_go (op := o_aald 27 24) (fe_X6_lay 26) (g_aald hS (show lay 17 = (24, 4) by decide) (by decide) (by first | assumption | exact inb_n hm (by decide)) (fr_mtN hS hm) (by omega)) ?_
      refine t_go (op := o_aload 28 3) (fe_X6_lay 27) (fun _ _ => rfl) ?_
      refine t_call (op := o_callV 31 105 2 9) (fe_X6_lay 28) (g_callV hS (ly_mt hm) (by decide) rfl rfl rfl (Nat.le_of_ble_eq_true rfl)) ?_
      refine M_mono ?_ (m_toldBecome hS (ly_mt hm) (by decide))
      rintro v h2 ⟨q1, q2⟩
      rw [q1, q2]; clear q1 q2 v h2
      refine t_go (op := o_aload 32 0) (fe_X6_lay 31) (fun _ _ => rfl) ?_
      refine t_go (op := o_getR 35 5 3) (fe_X6_lay 32) (g_getR hS (show (lay 14).1 = 5 by decide) (by decide) (fr_5_3 hS) (by decide)) ?_
      refine t_go (op := o_iload 36 1) (fe_X6_lay 35) (fun _ _ => rfl) ?_
      refine t_go (op := o_ci 37 1) (fe_X6_lay 36) (fun _ _ => rfl) ?_
      refine t_go (op := o_zast 38) (fe_X6_lay 37) (g_zastN hS (show lay 18 = (22, 4) by decide) rfl (by omega) (by decide) (by decide)) ?_
      refine t_go (op := o_ci 39 1) (fe_X6_lay 38) (fun _ _ => rfl) ?_
      refine t_ret (op := o_zret) (fe_X6_lay 39) (g_zret (Or.inr rfl)) ?_
      exact ⟨rfl, rfl⟩
    · exact absurd (nI_lt (b := 4) hm (by decide)) c2
theorem m_markNone {d : Nat} {h : AHP} {x : Int32} (hS : Std h) (hx : x < 0 ∨ ¬ x < 4) : MM (d + 1) 65 [.ref 14, .int x, .ref 5, .ref 10] h (fun v h2 => v = some (.int 0) ∧ h2 = h) := by
  refine ⟨Nat.le_of_ble_eq_true rfl, ?_⟩
  refine t_go (op := o_iload 1 1) (fe_X6_lay 0) (fun _ _ => rfl) ?_
  refine t_ite (op := o_if 4 9 (fun x => x < 0) (fun _ => inferInstance)) (fe_X6_lay 1) g_if (fun c1 => ?_) (fun c1 => ?_)
  · refine t_go (op := o_ci 10 0) (fe_X6_lay 9) (fun _ _ => rfl) ?_
    refine t_ret (op := o_zret) (fe_X6_lay 10) (g_zret (Or.inl rfl)) ?_
    exact ⟨rfl, rfl⟩
  · refine t_go (op := o_iload 5 1) (fe_X6_lay 4) (fun _ _ => rfl) ?_
    refine t_go (op := o_ci 6 4) (fe_X6_lay 5) (fun _ _ => rfl) ?_
    refine t_ite (op := o_icmp 9 11 (fun x y => x < y) (fun _ _ => inferInstance)) (fe_X6_lay 6) g_icmp (fun c2 => ?_) (fun c2 => ?_)
    · exact absurd c2 (hx.resolve_left c1)
    · refine t_go (op := o_ci 10 0) (fe_X6_lay 9) (fun _ _ => rfl) ?_
      refine t_ret (op := o_zret) (fe_X6_lay 10) (g_zret (Or.inl rfl)) ?_
      exact ⟨rfl, rfl⟩
theorem m_goBack {d : Nat} {h : AHP} {m : Nat} (hS : Std h) (hm : m < 4) (hl : ¬ h.1 18 m = 0) (hz : h.1 (99 + 9 * m) 5 = 0 ∨ h.1 (99 + 9 * m) 5 = 1) : MM (d + 1) 66 [.ref 14, .int (nI m), .ref 5, .ref 10] h (fun v h2 => v = some (.int 1) ∧ h2 = goH h m) := by
  refine ⟨Nat.le_of_ble_eq_true rfl, ?_⟩
  refine t_go (op := o_iload 1 1) (fe_X6_goBack 0) (fun _ _ => rfl) ?_
  refine t_ite (op := o_if 4 18 (fun x => x < 0) (fun _ => inferInstance)) (fe_X6_goBack 1) g_if (fun c1 => ?_) (fun c1 => ?_)
  · exact absurd c1 (nI_pos (by omega))
  · refine t_go (op := o_iload 5 1) (fe_X6_goBack 4) (fun _ _ => rfl) ?_
    refine t_go (op := o_ci 6 4) (fe_X6_goBack 5) (fun _ _ => rfl) ?_
    refine t_ite (op := o_icmp 9 18 (fun x y => y ≤ x) (fun _ _ => inferInstance)) (fe_X6_goBack 6) g_icmp (fun c2 => ?_) (fun c2 => ?_)
    · exact absurd c2 (nI_ge (b := 4) hm (by decide))
    · refine t_go (op := o_aload 10 0) (fe_X6_goBack 9) (fun _ _ => rfl) ?_
      refine t_go (op := o_getR 13 5 3) (fe_X6_goBack 10) (g_getR hS (show (lay 14).1 = 5 by decide) (by decide) (fr_5_3 hS) (by decide)) ?_
      refine t_go (op := o_iload 14 1) (fe_X6_goBack 13) (fun _ _ => rfl) ?_
      refine t_go (op := o_zald 15) (fe_X6_goBack 14) (g_zaldN hS (show lay 18 = (22, 4) by decide) rfl (by omega) (by decide)) ?_
      refine t_ite (op := o_if 20 18 (fun x => x = 0) (fun _ => inferInstance)) (fe_X6_goBack 15) g_if (fun c3 => ?_) (fun c3 => ?_)
      · exact absurd c3 hl
      · refine t_go (op := o_aload 21 2) (fe_X6_goBack 20) (fun _ _ => rfl) ?_
        refine t_go (op := o_aload 22 0) (fe_X6_goBack 21) (fun _ _ => rfl) ?_
        refine t_go (op := o_getR 25 5 1) (fe_X6_goBack 22) (g_getR hS (show (lay 14).1 = 5 by decide) (by decide) (fr_5_1 hS) (by decide)) ?_
        refine t_go (op := o_iload 26 1) (fe_X6_goBack 25) (fun _ _ => rfl) ?_
        refine t_go (op := o_aald 27 23) (fe_X6_goBack 26) (g_aald hS (show lay 16 = (23, 4) by decide) (by decide) (by first | assumption | exact inb_n hm (by decide)) (fr_mfN hS hm) (by omega)) ?_
        refine t_call (op := o_callV 30 7 2 1) (fe_X6_goBack 27) (g_callV hS (by decide) (by decide) rfl rfl rfl (Nat.le_of_ble_eq_true rfl)) ?_
        refine M_mono ?_ (b_become hS (by decide) (ly_mf hm) (by omega) hz)
        rintro v h2 ⟨q1, q2⟩
        rw [q1, q2]; clear q1 q2 v h2
        refine t_go (op := o_aload 31 3) (fe_X6_goBack 30) (fun _ _ => rfl) ?_
        refine t_go (op := o_aload 32 0) (fe_X6_goBack 31) (fun _ _ => rfl) ?_
        refine t_go (op := o_getR 35 5 2) (fe_X6_goBack 32) (g_getR hS (show (lay 14).1 = 5 by decide) (by decide) (fr_5_2 hS) (by decide)) ?_
        refine t_go (op := o_iload 36 1) (fe_X6_goBack 35) (fun _ _ => rfl) ?_
        refine t_go (op := o_aald 37 24) (fe_X6_goBack 36) (g_aald hS (show lay 17 = (24, 4) by decide) (by decide) (by first | assumption | exact inb_n hm (by decide)) (fr_mtN hS hm) (by omega)) ?_
        refine t_call (op := o_callV 40 105 2 9) (fe_X6_goBack 37) (g_callV hS (show (lay 10).1 = 9 by decide) (by decide) rfl rfl rfl (Nat.le_of_ble_eq_true rfl)) ?_
        refine M_mono ?_ (m_toldBecome hS (by decide) (ly_mt hm))
        rintro v h2 ⟨q1, q2⟩
        rw [q1, q2]; clear q1 q2 v h2
        refine t_go (op := o_aload 41 0) (fe_X6_goBack 40) (fun _ _ => rfl) ?_
        refine t_go (op := o_ci 42 0) (fe_X6_goBack 41) (fun _ _ => rfl) ?_
        refine t_go (op := o_putI 45 5 5) (fe_X6_goBack 42) (g_putI hS (show (lay 14).1 = 5 by decide) (by decide)) ?_
        refine t_go (op := o_ci 46 1) (fe_X6_goBack 45) (fun _ _ => rfl) ?_
        refine t_ret (op := o_zret) (fe_X6_goBack 46) (g_zret (Or.inr rfl)) ?_
        exact ⟨rfl, rfl⟩
theorem m_goUnlaid {d : Nat} {h : AHP} {m : Nat} (hS : Std h) (hm : m < 4) (hl : h.1 18 m = 0) : MM (d + 1) 66 [.ref 14, .int (nI m), .ref 5, .ref 10] h (fun v h2 => v = some (.int 0) ∧ h2 = h) := by
  refine ⟨Nat.le_of_ble_eq_true rfl, ?_⟩
  refine t_go (op := o_iload 1 1) (fe_X6_goBack 0) (fun _ _ => rfl) ?_
  refine t_ite (op := o_if 4 18 (fun x => x < 0) (fun _ => inferInstance)) (fe_X6_goBack 1) g_if (fun c1 => ?_) (fun c1 => ?_)
  · exact absurd c1 (nI_pos (by omega))
  · clear c1
    refine t_go (op := o_iload 5 1) (fe_X6_goBack 4) (fun _ _ => rfl) ?_
    refine t_go (op := o_ci 6 4) (fe_X6_goBack 5) (fun _ _ => rfl) ?_
    refine t_ite (op := o_icmp 9 18 (fun x y => y ≤ x) (fun _ _ => inferInstance)) (fe_X6_goBack 6) g_icmp (fun c2 => ?_) (fun c2 => ?_)
    · refine t_go (op := o_ci 19 0) (fe_X6_goBack 18) (fun _ _ => rfl) ?_
      refine t_ret (op := o_zret) (fe_X6_goBack 19) (g_zret (Or.inl rfl)) ?_
      exact ⟨rfl, rfl⟩
    · refine t_go (op := o_aload 10 0) (fe_X6_goBack 9) (fun _ _ => rfl) ?_
      refine t_go (op := o_getR 13 5 3) (fe_X6_goBack 10) (g_getR hS (show (lay 14).1 = 5 by decide) (by decide) (fr_5_3 hS) (by decide)) ?_
      refine t_go (op := o_iload 14 1) (fe_X6_goBack 13) (fun _ _ => rfl) ?_
      refine t_go (op := o_zald 15) (fe_X6_goBack 14) (g_zaldN hS (show lay 18 = (22, 4) by decide) rfl (by omega) (by decide)) ?_
      refine t_ite (op := o_if 20 18 (fun x => x = 0) (fun _ => inferInstance)) (fe_X6_goBack 15) g_if (fun c3 => ?_) (fun c3 => ?_)
      · refine t_go (op := o_ci 19 0) (fe_X6_goBack 18) (fun _ _ => rfl) ?_
        refine t_ret (op := o_zret) (fe_X6_goBack 19) (g_zret (Or.inl rfl)) ?_
        exact ⟨rfl, rfl⟩
      · exact absurd hl c3
theorem m_goNone {d : Nat} {h : AHP} {x : Int32} (hS : Std h) (hx : x < 0 ∨ 4 ≤ x) : MM (d + 1) 66 [.ref 14, .int x, .ref 5, .ref 10] h (fun v h2 => v = some (.int 0) ∧ h2 = h) := by
  refine ⟨Nat.le_of_ble_eq_true rfl, ?_⟩
  refine t_go (op := o_iload 1 1) (fe_X6_goBack 0) (fun _ _ => rfl) ?_
  refine t_ite (op := o_if 4 18 (fun x => x < 0) (fun _ => inferInstance)) (fe_X6_goBack 1) g_if (fun c1 => ?_) (fun c1 => ?_)
  · refine t_go (op := o_ci 19 0) (fe_X6_goBack 18) (fun _ _ => rfl) ?_
    refine t_ret (op := o_zret) (fe_X6_goBack 19) (g_zret (Or.inl rfl)) ?_
    exact ⟨rfl, rfl⟩
  · refine t_go (op := o_iload 5 1) (fe_X6_goBack 4) (fun _ _ => rfl) ?_
    refine t_go (op := o_ci 6 4) (fe_X6_goBack 5) (fun _ _ => rfl) ?_
    refine t_ite (op := o_icmp 9 18 (fun x y => y ≤ x) (fun _ _ => inferInstance)) (fe_X6_goBack 6) g_icmp (fun c2 => ?_) (fun c2 => ?_)
    · refine t_go (op := o_ci 19 0) (fe_X6_goBack 18) (fun _ _ => rfl) ?_
      refine t_ret (op := o_zret) (fe_X6_goBack 19) (g_zret (Or.inl rfl)) ?_
      exact ⟨rfl, rfl⟩
    · exact absurd (hx.resolve_left c1) c2
theorem l_pforget {d : Nat}  {Q : Option Value → AHP → Prop} : ∀ (j i : Nat) (S : AHP), i + j = 4 → Std S → Q none (it unlS j i S) → TT d 67 7 [some (.ref 14), some (.int (nI i))] [] S Q := by
  intro j
  induction j with
  | zero =>
    intro i S hi hS hq
    have hN : i = 4 := by omega
    refine t_go (op := o_iload 8 1) (fe_X6_forget 7) (fun _ _ => rfl) ?_
    refine t_go (op := o_ci 9 4) (fe_X6_forget 8) (fun _ _ => rfl) ?_
    refine t_ite (op := o_icmp 12 25 (fun x y => y ≤ x) (fun _ _ => inferInstance)) (fe_X6_forget 9) g_icmp (fun c1 => ?_) (fun c1 => ?_)
    · refine t_ret (op := o_vret) (fe_X6_forget 25) (fun _ _ => rfl) ?_
      exact hq
    · exact absurd (by rw [hN]; exact Int32.le_refl _) c1
  | succ j ih =>
    intro i S hi hS hq
    have hb : inb (nI i) 4 := inb_n (by omega) (by decide)
    refine t_go (op := o_iload 8 1) (fe_X6_forget 7) (fun _ _ => rfl) ?_
    refine t_go (op := o_ci 9 4) (fe_X6_forget 8) (fun _ _ => rfl) ?_
    refine t_ite (op := o_icmp 12 25 (fun x y => y ≤ x) (fun _ _ => inferInstance)) (fe_X6_forget 9) g_icmp (fun c1 => ?_) (fun c1 => ?_)
    · exact absurd c1 (nI_ge (show i < 4 by omega) (by decide))
    · refine t_go (op := o_aload 13 0) (fe_X6_forget 12) (fun _ _ => rfl) ?_
      refine t_go (op := o_getR 16 5 3) (fe_X6_forget 13) (g_getR hS (show (lay 14).1 = 5 by decide) (by decide) (fr_5_3 hS) (by decide)) ?_
      refine t_go (op := o_iload 17 1) (fe_X6_forget 16) (fun _ _ => rfl) ?_
      refine t_go (op := o_ci 18 0) (fe_X6_forget 17) (fun _ _ => rfl) ?_
      refine t_go (op := o_zast 19) (fe_X6_forget 18) (g_zast hS (show lay 18 = (22, 4) by decide) (by first | assumption | exact inb_1 ‹_› ‹_› (by decide)) (by decide)) ?_
      refine t_go (op := o_iinc 22 1 1) (fe_X6_forget 19) (fun _ _ => rfl) ?_
      refine t_go (op := o_goto 7) (fe_X6_forget 22) (fun _ _ => rfl) ?_
      rw [it_step] at hq
      rw [nI_1]
      exact ih (i + 1) _ (by omega) hS hq
theorem m_pastForget {d : Nat} {h : AHP} (hS : Std h) : MM d 67 [.ref 14] h (fun v h2 => v = none ∧ h2 = it unlS 4 0 (sI h 14 5 0)) := by
  refine ⟨Nat.le_of_ble_eq_true rfl, ?_⟩
  refine t_go (op := o_aload 1 0) (fe_X6_forget 0) (fun _ _ => rfl) ?_
  refine t_go (op := o_ci 2 0) (fe_X6_forget 1) (fun _ _ => rfl) ?_
  refine t_go (op := o_putI 5 5 5) (fe_X6_forget 2) (g_putI hS (show (lay 14).1 = 5 by decide) (by decide)) ?_
  refine t_go (op := o_ci 6 0) (fe_X6_forget 5) (fun _ _ => rfl) ?_
  refine t_go (op := o_istore 7 1) (fe_X6_forget 6) (fun _ _ => rfl) ?_
  exact l_pforget 4 0 _ rfl hS ⟨rfl, rfl⟩
