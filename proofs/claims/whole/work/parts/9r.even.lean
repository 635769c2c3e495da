/-! ===== the reference reads an evening ===== -/
abbrev ES : Type := List (Nat × Nat × Nat)
def ixV (W : Nat → List Nat) (w : List Nat) : Nat → Nat → Nat
  | 0, i => i
  | j + 1, i => if W i = w then i else ixV W w j (i + 1)
theorem ix_s {W : Nat → List Nat} {w : List Nat} : ∀ (j i : Nat), i ≤ ixV W w j i ∧ ixV W w j i ≤ i + j ∧ (ixV W w j i < i + j → W (ixV W w j i) = w) ∧ ∀ t, i ≤ t → t < ixV W w j i → ¬ W t = w := by
  intro j
  induction j with
  | zero => intro i; exact ⟨Nat.le_refl _, Nat.le_refl _, fun q => absurd q (Nat.lt_irrefl _), fun t h1 h2 => absurd h2 (Nat.not_lt.mpr h1)⟩
  | succ j ih =>
    intro i
    rw [ixV]
    by_cases q : W i = w
    · rw [if_pos q]
      exact ⟨Nat.le_refl _, by omega, fun _ => q, fun t h1 h2 => absurd h2 (Nat.not_lt.mpr h1)⟩
    · rw [if_neg q]
      obtain ⟨a, b, c, d⟩ := ih (i + 1)
      refine ⟨by omega, by omega, fun h => c (by omega), fun t h1 h2 => ?_⟩
      by_cases e : t = i
      · rw [e]; exact q
      · exact d t (by omega) h2
theorem FIp_ix {W : Nat → List Nat} {w : List Nat} {P : Nat → Prop} {m : Nat} {v : Int32} (hP : ∀ k, k < m → (P k ↔ W k = w)) (h : FIp P m v) : (ixV W w m 0 < m → v = nI (ixV W w m 0)) ∧ (¬ ixV W w m 0 < m → v = -1) := by
  obtain ⟨_, b, c, d⟩ := ix_s (W := W) (w := w) m 0
  rw [Nat.zero_add] at b c
  rcases h with ⟨k, k1, k2, k3, k4⟩ | ⟨k1, k2⟩
  · have e : ixV W w m 0 = k := by
      rcases Nat.lt_trichotomy (ixV W w m 0) k with q | q | q
      · exact absurd ((hP _ (by omega)).mpr (c (by omega))) (k3 _ q)
      · exact q
      · exact absurd ((hP k k1).mp k2) (d k (Nat.zero_le _) q)
    exact ⟨fun _ => by rw [e]; exact k4, fun q => absurd k1 (by rw [← e]; exact q)⟩
  · refine ⟨fun q => absurd ((hP _ q).mpr (c q)) (k1 _ q), fun _ => k2⟩
def r3F (r : Nat → Int32) (n a e x : Nat) : Nat → Int32 := fup (fup (fup r (125 + 3 * n) (nI a)) (126 + 3 * n) (nI e)) (127 + 3 * n) (nI x)
theorem RQ_r4 {h : AHP} {TK : Nat → Tk} {n : Nat} {r : Nat → Int32} (hR : RQ h TK n) : RQ (rowI h 194 r) TK n := by
  obtain ⟨r1, r2, r3, r4, r5⟩ := hR
  refine ⟨r1, fun j hj => ?_, r3, r4, r5⟩
  have := r2 j hj
  unfold TkR at this ⊢
  rw [rowI_ne (by decide), rowI_ne (by decide)]
  exact this
theorem r_tT1 {d : Nat} {h : AHP} {TK : Nat → Tk} {n i : Nat} (hR : RQ h TK n) (hi : i ≤ n) {m : Nat} (hm : h.1 183 16 = nI m) (hm7 : m ≤ 7) (hN : ¬ nmP TK i) : MM (d + 3) 181 [.ref 183] (AT h i 0) (fun v h2 => v = some (.int 0) ∧ h2 = AT h i (wrF TK 1 i 0)) := by
  refine ⟨Nat.le_of_ble_eq_true rfl, ?_⟩
  have hS := hR.1
  have hB := hR.2.2.2.1
  have hn := hR.2.2.1
  refine t_go (op := o_aload 1 0) (fe_X12_takeTold 0) (fun _ _ => rfl) ?_
  refine t_go (op := o_getI 4 11 8) (fe_X12_takeTold 1) (g_getI hS (show (lay 183).1 = 11 by decide) (by decide)) ?_
  rw [show (AT h i 0).1 183 8 = nI 0 from AT_8]
  refine t_ite (op := o_if 19 7 (fun x => x = 0) (fun _ => inferInstance)) (fe_X12_takeTold 4) g_if (fun c1 => ?_) (fun c1 => ?_)
  · refine t_go (op := o_aload 8 0) (fe_X12_takeTold 7) (fun _ _ => rfl) ?_
    refine t_call (op := o_callV 11 179 1 11) (fe_X12_takeTold 8) (g_callV hS (show (lay 183).1 = 11 by decide) (by decide) rfl rfl rfl (Nat.le_of_ble_eq_true rfl)) ?_
    refine M_eq (r_isName (f := 0) hR hi (by decide)) ?_
    refine t_ite (op := o_if 19 14 (fun x => x = 0) (fun _ => inferInstance)) (fe_X12_takeTold 11) g_if (fun c2 => ?_) (fun c2 => ?_)
    · replace c2 := b2i_z c2
      refine t_go (op := o_aload 15 0) (fe_X12_takeTold 14) (fun _ _ => rfl) ?_
      refine t_go (op := o_ci 16 1) (fe_X12_takeTold 15) (fun _ _ => rfl) ?_
      refine t_call (op := o_callV 19 166 2 11) (fe_X12_takeTold 16) (g_callV hS (show (lay 183).1 = 11 by decide) (by decide) rfl rfl rfl (Nat.le_of_ble_eq_true rfl)) ?_
      refine M_eq (r_wrong (c := 1) (f := 0) hR hi (by decide)) ?_
      refine t_go (op := o_aload 20 0) (fe_X12_takeTold 19) (fun _ _ => rfl) ?_
      refine t_go (op := o_getI 23 11 8) (fe_X12_takeTold 20) (g_getI hS (show (lay 183).1 = 11 by decide) (by decide)) ?_
      rw [show (AT h i (wrF TK 1 i 0)).1 183 8 = nI (wrF TK 1 i 0) from AT_8]
      refine t_ite (op := o_if 26 30 (fun x => x ≤ 0) (fun _ => inferInstance)) (fe_X12_takeTold 23) g_if (fun c3 => ?_) (fun c3 => ?_)
      · exact absurd ((le_0 (wr0_b hB (by decide))).mp c3) (wrF_p (by decide))
      · refine t_go (op := o_ci 27 (-1)) (fe_X12_takeTold 26) (fun _ _ => rfl) ?_
        refine t_go (op := o_goto 35) (fe_X12_takeTold 27) (fun _ _ => rfl) ?_
        refine t_go (op := o_istore 36 1) (fe_X12_takeTold 35) (fun _ _ => rfl) ?_
        refine t_go (op := o_aload 37 0) (fe_X12_takeTold 36) (fun _ _ => rfl) ?_
        refine t_go (op := o_getI 40 11 8) (fe_X12_takeTold 37) (g_getI hS (show (lay 183).1 = 11 by decide) (by decide)) ?_
        rw [show (AT h i (wrF TK 1 i 0)).1 183 8 = nI (wrF TK 1 i 0) from AT_8]
        refine t_ite (op := o_if 52 43 (fun x => x = 0) (fun _ => inferInstance)) (fe_X12_takeTold 40) g_if (fun c4 => ?_) (fun c4 => ?_)
        · exact absurd ((f_0 (wr0_b hB (by decide))).mp c4) (wrF_p (by decide))
        · refine t_go (op := o_aload 53 0) (fe_X12_takeTold 52) (fun _ _ => rfl) ?_
          refine t_go (op := o_dupA 54) (fe_X12_takeTold 53) (fun _ _ => rfl) ?_
          refine t_go (op := o_getI 57 11 7) (fe_X12_takeTold 54) (g_getI hS (show (lay 183).1 = 11 by decide) (by decide)) ?_
          rw [show (AT h i (wrF TK 1 i 0)).1 183 7 = nI i from AT_7]
          refine t_go (op := o_aload 58 0) (fe_X12_takeTold 57) (fun _ _ => rfl) ?_
          refine t_go (op := o_getI 61 11 8) (fe_X12_takeTold 58) (g_getI hS (show (lay 183).1 = 11 by decide) (by decide)) ?_
          rw [show (AT h i (wrF TK 1 i 0)).1 183 8 = nI (wrF TK 1 i 0) from AT_8]
          refine t_ite (op := o_if 64 68 (fun x => x ≤ 0) (fun _ => inferInstance)) (fe_X12_takeTold 61) g_if (fun c5 => ?_) (fun c5 => ?_)
          · exact absurd ((le_0 (wr0_b hB (by decide))).mp c5) (wrF_p (by decide))
          · refine t_go (op := o_ci 65 0) (fe_X12_takeTold 64) (fun _ _ => rfl) ?_
            refine t_go (op := o_goto 69) (fe_X12_takeTold 65) (fun _ _ => rfl) ?_
            refine t_go (op := o_i2 70 (fun x y => x + y)) (fe_X12_takeTold 69) (fun _ _ => rfl) ?_
            refine t_go (op := o_putI 73 11 7) (fe_X12_takeTold 70) (g_putI hS (show (lay 183).1 = 11 by decide) (by decide)) ?_
            refine T_heap ((congrArg (sI (AT h i (wrF TK 1 i 0)) 183 7) (show (fun x y : Int32 => x + y) (nI i) 0 = nI i from nIa rfl (nIl 0))).trans AT_7s).symm ?_
            refine t_go (op := o_aload 74 0) (fe_X12_takeTold 73) (fun _ _ => rfl) ?_
            refine t_go (op := o_getI 77 11 8) (fe_X12_takeTold 74) (g_getI hS (show (lay 183).1 = 11 by decide) (by decide)) ?_
            rw [show (AT h i (wrF TK 1 i 0)).1 183 8 = nI (wrF TK 1 i 0) from AT_8]
            refine t_ite (op := o_if 80 84 (fun x => x ≤ 0) (fun _ => inferInstance)) (fe_X12_takeTold 77) g_if (fun c6 => ?_) (fun c6 => ?_)
            · exact absurd ((le_0 (wr0_b hB (by decide))).mp c6) (wrF_p (by decide))
            · refine t_go (op := o_ci 81 0) (fe_X12_takeTold 80) (fun _ _ => rfl) ?_
              refine t_go (op := o_goto 85) (fe_X12_takeTold 81) (fun _ _ => rfl) ?_
              refine t_ret (op := o_iret) (fe_X12_takeTold 85) (fun _ _ => rfl) ?_
              exact ⟨rfl, rfl⟩
    · exact absurd (b2i_nn c2).2 hN
  · exact absurd rfl c1
theorem r_tT2 {d : Nat} {h : AHP} {TK : Nat → Tk} {n i : Nat} (hR : RQ h TK n) (hi : i ≤ n) {m : Nat} (hm : h.1 183 16 = nI m) (hm7 : m ≤ 7) (hN : nmP TK i) (hu : ¬ (∃ k, k < m ∧ h.2.1 192 k = h.2.1 187 i)) : MM (d + 3) 181 [.ref 183] (AT h i 0) (fun v h2 => v = some (.int 0) ∧ h2 = AT h i (wrF TK 2 i 0)) := by
  refine ⟨Nat.le_of_ble_eq_true rfl, ?_⟩
  have hS := hR.1
  have hB := hR.2.2.2.1
  have hn := hR.2.2.1
  refine t_go (op := o_aload 1 0) (fe_X12_takeTold 0) (fun _ _ => rfl) ?_
  refine t_go (op := o_getI 4 11 8) (fe_X12_takeTold 1) (g_getI hS (show (lay 183).1 = 11 by decide) (by decide)) ?_
  rw [show (AT h i 0).1 183 8 = nI 0 from AT_8]
  refine t_ite (op := o_if 19 7 (fun x => x = 0) (fun _ => inferInstance)) (fe_X12_takeTold 4) g_if (fun c1 => ?_) (fun c1 => ?_)
  · refine t_go (op := o_aload 8 0) (fe_X12_takeTold 7) (fun _ _ => rfl) ?_
    refine t_call (op := o_callV 11 179 1 11) (fe_X12_takeTold 8) (g_callV hS (show (lay 183).1 = 11 by decide) (by decide) rfl rfl rfl (Nat.le_of_ble_eq_true rfl)) ?_
    refine M_eq (r_isName (f := 0) hR hi (by decide)) ?_
    refine t_ite (op := o_if 19 14 (fun x => x = 0) (fun _ => inferInstance)) (fe_X12_takeTold 11) g_if (fun c2 => ?_) (fun c2 => ?_)
    · exact absurd (show 0 = 0 ∧ nmP TK i from ⟨rfl, hN⟩) (b2i_z c2)
    · replace c2 := b2i_nn c2
      refine t_go (op := o_aload 20 0) (fe_X12_takeTold 19) (fun _ _ => rfl) ?_
      refine t_go (op := o_getI 23 11 8) (fe_X12_takeTold 20) (g_getI hS (show (lay 183).1 = 11 by decide) (by decide)) ?_
      rw [show (AT h i 0).1 183 8 = nI 0 from AT_8]
      refine t_ite (op := o_if 26 30 (fun x => x ≤ 0) (fun _ => inferInstance)) (fe_X12_takeTold 23) g_if (fun c3 => ?_) (fun c3 => ?_)
      · refine t_go (op := o_aload 31 0) (fe_X12_takeTold 30) (fun _ _ => rfl) ?_
        refine t_go (op := o_ci 32 0) (fe_X12_takeTold 31) (fun _ _ => rfl) ?_
        refine t_call (op := o_callV 35 180 2 11) (fe_X12_takeTold 32) (g_callV hS (show (lay 183).1 = 11 by decide) (by decide) rfl rfl rfl (Nat.le_of_ble_eq_true rfl)) ?_
        refine M_mono ?_ (r_nameAtF hR hi hm hm7)
        rintro _ h9 ⟨⟨a9, rfl, hF9⟩, e9⟩
        replace e9 := e9.symm
        subst e9
        refine t_go (op := o_istore 36 1) (fe_X12_takeTold 35) (fun _ _ => rfl) ?_
        refine t_go (op := o_aload 37 0) (fe_X12_takeTold 36) (fun _ _ => rfl) ?_
        refine t_go (op := o_getI 40 11 8) (fe_X12_takeTold 37) (g_getI hS (show (lay 183).1 = 11 by decide) (by decide)) ?_
        rw [show (AT h i 0).1 183 8 = nI 0 from AT_8]
        refine t_ite (op := o_if 52 43 (fun x => x = 0) (fun _ => inferInstance)) (fe_X12_takeTold 40) g_if (fun c4 => ?_) (fun c4 => ?_)
        · refine t_go (op := o_iload 44 1) (fe_X12_takeTold 43) (fun _ _ => rfl) ?_
          refine t_ite (op := o_if 47 52 (fun x => 0 ≤ x) (fun _ => inferInstance)) (fe_X12_takeTold 44) g_if (fun c5 => ?_) (fun c5 => ?_)
          · exact absurd ((FIp_y hm7 hF9).mpr hu) (Int32.not_lt.mpr c5)
          · refine t_go (op := o_aload 48 0) (fe_X12_takeTold 47) (fun _ _ => rfl) ?_
            refine t_go (op := o_ci 49 2) (fe_X12_takeTold 48) (fun _ _ => rfl) ?_
            refine t_call (op := o_callV 52 166 2 11) (fe_X12_takeTold 49) (g_callV hS (show (lay 183).1 = 11 by decide) (by decide) rfl rfl rfl (Nat.le_of_ble_eq_true rfl)) ?_
            refine M_eq (r_wrong (c := 2) (f := 0) hR hi (by decide)) ?_
            refine t_go (op := o_aload 53 0) (fe_X12_takeTold 52) (fun _ _ => rfl) ?_
            refine t_go (op := o_dupA 54) (fe_X12_takeTold 53) (fun _ _ => rfl) ?_
            refine t_go (op := o_getI 57 11 7) (fe_X12_takeTold 54) (g_getI hS (show (lay 183).1 = 11 by decide) (by decide)) ?_
            rw [show (AT h i (wrF TK 2 i 0)).1 183 7 = nI i from AT_7]
            refine t_go (op := o_aload 58 0) (fe_X12_takeTold 57) (fun _ _ => rfl) ?_
            refine t_go (op := o_getI 61 11 8) (fe_X12_takeTold 58) (g_getI hS (show (lay 183).1 = 11 by decide) (by decide)) ?_
            rw [show (AT h i (wrF TK 2 i 0)).1 183 8 = nI (wrF TK 2 i 0) from AT_8]
            refine t_ite (op := o_if 64 68 (fun x => x ≤ 0) (fun _ => inferInstance)) (fe_X12_takeTold 61) g_if (fun c6 => ?_) (fun c6 => ?_)
            · exact absurd ((le_0 (wr0_b hB (by decide))).mp c6) (wrF_p (by decide))
            · refine t_go (op := o_ci 65 0) (fe_X12_takeTold 64) (fun _ _ => rfl) ?_
              refine t_go (op := o_goto 69) (fe_X12_takeTold 65) (fun _ _ => rfl) ?_
              refine t_go (op := o_i2 70 (fun x y => x + y)) (fe_X12_takeTold 69) (fun _ _ => rfl) ?_
              refine t_go (op := o_putI 73 11 7) (fe_X12_takeTold 70) (g_putI hS (show (lay 183).1 = 11 by decide) (by decide)) ?_
              refine T_heap ((congrArg (sI (AT h i (wrF TK 2 i 0)) 183 7) (show (fun x y : Int32 => x + y) (nI i) 0 = nI i from nIa rfl (nIl 0))).trans AT_7s).symm ?_
              refine t_go (op := o_aload 74 0) (fe_X12_takeTold 73) (fun _ _ => rfl) ?_
              refine t_go (op := o_getI 77 11 8) (fe_X12_takeTold 74) (g_getI hS (show (lay 183).1 = 11 by decide) (by decide)) ?_
              rw [show (AT h i (wrF TK 2 i 0)).1 183 8 = nI (wrF TK 2 i 0) from AT_8]
              refine t_ite (op := o_if 80 84 (fun x => x ≤ 0) (fun _ => inferInstance)) (fe_X12_takeTold 77) g_if (fun c7 => ?_) (fun c7 => ?_)
              · exact absurd ((le_0 (wr0_b hB (by decide))).mp c7) (wrF_p (by decide))
              · refine t_go (op := o_ci 81 0) (fe_X12_takeTold 80) (fun _ _ => rfl) ?_
                refine t_go (op := o_goto 85) (fe_X12_takeTold 81) (fun _ _ => rfl) ?_
                refine t_ret (op := o_iret) (fe_X12_takeTold 85) (fun _ _ => rfl) ?_
                exact ⟨rfl, rfl⟩
        · exact absurd rfl c4
      · exact absurd (Int32.le_refl _) c3
  · exact absurd rfl c1
theorem r_tTY {d : Nat} {h : AHP} {TK : Nat → Tk} {n i : Nat} (hR : RQ h TK n) (hi : i ≤ n) {m : Nat} (hm : h.1 183 16 = nI m) (hm7 : m ≤ 7) (hN : nmP TK i) (hu : ∃ k, k < m ∧ h.2.1 192 k = h.2.1 187 i) : MM (d + 3) 181 [.ref 183] (AT h i 0) (fun v h2 => (∃ a, v = some (.int a) ∧ FIp (fun k => h.2.1 192 k = h.2.1 187 i) m a) ∧ h2 = AT h (i + 1) 0) := by
  refine ⟨Nat.le_of_ble_eq_true rfl, ?_⟩
  have hS := hR.1
  have hB := hR.2.2.2.1
  have hn := hR.2.2.1
  refine t_go (op := o_aload 1 0) (fe_X12_takeTold 0) (fun _ _ => rfl) ?_
  refine t_go (op := o_getI 4 11 8) (fe_X12_takeTold 1) (g_getI hS (show (lay 183).1 = 11 by decide) (by decide)) ?_
  rw [show (AT h i 0).1 183 8 = nI 0 from AT_8]
  refine t_ite (op := o_if 19 7 (fun x => x = 0) (fun _ => inferInstance)) (fe_X12_takeTold 4) g_if (fun c1 => ?_) (fun c1 => ?_)
  · refine t_go (op := o_aload 8 0) (fe_X12_takeTold 7) (fun _ _ => rfl) ?_
    refine t_call (op := o_callV 11 179 1 11) (fe_X12_takeTold 8) (g_callV hS (show (lay 183).1 = 11 by decide) (by decide) rfl rfl rfl (Nat.le_of_ble_eq_true rfl)) ?_
    refine M_eq (r_isName (f := 0) hR hi (by decide)) ?_
    refine t_ite (op := o_if 19 14 (fun x => x = 0) (fun _ => inferInstance)) (fe_X12_takeTold 11) g_if (fun c2 => ?_) (fun c2 => ?_)
    · exact absurd (show 0 = 0 ∧ nmP TK i from ⟨rfl, hN⟩) (b2i_z c2)
    · replace c2 := b2i_nn c2
      refine t_go (op := o_aload 20 0) (fe_X12_takeTold 19) (fun _ _ => rfl) ?_
      refine t_go (op := o_getI 23 11 8) (fe_X12_takeTold 20) (g_getI hS (show (lay 183).1 = 11 by decide) (by decide)) ?_
      rw [show (AT h i 0).1 183 8 = nI 0 from AT_8]
      refine t_ite (op := o_if 26 30 (fun x => x ≤ 0) (fun _ => inferInstance)) (fe_X12_takeTold 23) g_if (fun c3 => ?_) (fun c3 => ?_)
      · refine t_go (op := o_aload 31 0) (fe_X12_takeTold 30) (fun _ _ => rfl) ?_
        refine t_go (op := o_ci 32 0) (fe_X12_takeTold 31) (fun _ _ => rfl) ?_
        refine t_call (op := o_callV 35 180 2 11) (fe_X12_takeTold 32) (g_callV hS (show (lay 183).1 = 11 by decide) (by decide) rfl rfl rfl (Nat.le_of_ble_eq_true rfl)) ?_
        refine M_mono ?_ (r_nameAtF hR hi hm hm7)
        rintro _ h9 ⟨⟨a9, rfl, hF9⟩, e9⟩
        replace e9 := e9.symm
        subst e9
        refine t_go (op := o_istore 36 1) (fe_X12_takeTold 35) (fun _ _ => rfl) ?_
        refine t_go (op := o_aload 37 0) (fe_X12_takeTold 36) (fun _ _ => rfl) ?_
        refine t_go (op := o_getI 40 11 8) (fe_X12_takeTold 37) (g_getI hS (show (lay 183).1 = 11 by decide) (by decide)) ?_
        rw [show (AT h i 0).1 183 8 = nI 0 from AT_8]
        refine t_ite (op := o_if 52 43 (fun x => x = 0) (fun _ => inferInstance)) (fe_X12_takeTold 40) g_if (fun c4 => ?_) (fun c4 => ?_)
        · refine t_go (op := o_iload 44 1) (fe_X12_takeTold 43) (fun _ _ => rfl) ?_
          refine t_ite (op := o_if 47 52 (fun x => 0 ≤ x) (fun _ => inferInstance)) (fe_X12_takeTold 44) g_if (fun c5 => ?_) (fun c5 => ?_)
          · refine t_go (op := o_aload 53 0) (fe_X12_takeTold 52) (fun _ _ => rfl) ?_
            refine t_go (op := o_dupA 54) (fe_X12_takeTold 53) (fun _ _ => rfl) ?_
            refine t_go (op := o_getI 57 11 7) (fe_X12_takeTold 54) (g_getI hS (show (lay 183).1 = 11 by decide) (by decide)) ?_
            rw [show (AT h i 0).1 183 7 = nI i from AT_7]
            refine t_go (op := o_aload 58 0) (fe_X12_takeTold 57) (fun _ _ => rfl) ?_
            refine t_go (op := o_getI 61 11 8) (fe_X12_takeTold 58) (g_getI hS (show (lay 183).1 = 11 by decide) (by decide)) ?_
            rw [show (AT h i 0).1 183 8 = nI 0 from AT_8]
            refine t_ite (op := o_if 64 68 (fun x => x ≤ 0) (fun _ => inferInstance)) (fe_X12_takeTold 61) g_if (fun c6 => ?_) (fun c6 => ?_)
            · refine t_go (op := o_ci 69 1) (fe_X12_takeTold 68) (fun _ _ => rfl) ?_
              refine t_go (op := o_i2 70 (fun x y => x + y)) (fe_X12_takeTold 69) (fun _ _ => rfl) ?_
              refine t_go (op := o_putI 73 11 7) (fe_X12_takeTold 70) (g_putI hS (show (lay 183).1 = 11 by decide) (by decide)) ?_
              refine T_heap ((congrArg (sI (AT h i 0) 183 7) (show (fun x y : Int32 => x + y) (nI i) 1 = nI (i + 1) from nI_1 i)).trans AT_7s).symm ?_
              refine t_go (op := o_aload 74 0) (fe_X12_takeTold 73) (fun _ _ => rfl) ?_
              refine t_go (op := o_getI 77 11 8) (fe_X12_takeTold 74) (g_getI hS (show (lay 183).1 = 11 by decide) (by decide)) ?_
              rw [show (AT h (i + 1) 0).1 183 8 = nI 0 from AT_8]
              refine t_ite (op := o_if 80 84 (fun x => x ≤ 0) (fun _ => inferInstance)) (fe_X12_takeTold 77) g_if (fun c7 => ?_) (fun c7 => ?_)
              · refine t_go (op := o_iload 85 1) (fe_X12_takeTold 84) (fun _ _ => rfl) ?_
                refine t_ret (op := o_iret) (fe_X12_takeTold 85) (fun _ _ => rfl) ?_
                exact ⟨⟨a9, rfl, hF9⟩, rfl⟩
              · exact absurd (Int32.le_refl _) c7
            · exact absurd (Int32.le_refl _) c6
          · exact absurd hu ((FIp_y hm7 hF9).mp (Int32.not_le.mp c5))
        · exact absurd rfl c4
      · exact absurd (Int32.le_refl _) c3
  · exact absurd rfl c1
set_option maxRecDepth 8000 in
theorem r_v11E {d : Nat} {h : AHP} {TK : Nat → Tk} {n i : Nat} (hR : RQ h TK n) (hi : i ≤ n) {n1 : Nat} {x2 : Option Value} (h0 : (TK i).1 = 0) {Q : Option Value → AHP → Prop} (hq : TT (d + 6) 187 165 [some (.ref 183), some (.int (nI n1)), x2] [] (AT h i 0) Q) : TT (d + 6) 187 11 [some (.ref 183), some (.int (nI n1)), x2] [] (AT h i 0) Q := by
  have hS := hR.1
  have hB := hR.2.2.2.1
  have hn := hR.2.2.1
  refine t_go (op := o_aload 12 0) (fe_X12_evening 11) (fun _ _ => rfl) ?_
  refine t_go (op := o_getI 15 11 8) (fe_X12_evening 12) (g_getI hS (show (lay 183).1 = 11 by decide) (by decide)) ?_
  rw [show (AT h i 0).1 183 8 = nI 0 from AT_8]
  refine t_ite (op := o_if 165 18 (fun x => x = 0) (fun _ => inferInstance)) (fe_X12_evening 15) g_if (fun c1 => ?_) (fun c1 => ?_)
  · refine t_go (op := o_aload 19 0) (fe_X12_evening 18) (fun _ _ => rfl) ?_
    refine t_go (op := o_getR 22 11 4) (fe_X12_evening 19) (g_getR hS (show (lay 183).1 = 11 by decide) (by decide) (fr_11_4 hS) (by decide)) ?_
    refine t_go (op := o_aload 23 0) (fe_X12_evening 22) (fun _ _ => rfl) ?_
    refine t_go (op := o_getI 26 11 7) (fe_X12_evening 23) (g_getI hS (show (lay 183).1 = 11 by decide) (by decide)) ?_
    rw [show (AT h i 0).1 183 7 = nI i from AT_7]
    refine t_go (op := o_iald 27) (fe_X12_evening 26) (g_ialdN hS (show lay 185 = (20, 1002) by decide) rfl (by omega) (by decide)) ?_
    rw [show (AT h i 0).1 185 i = nI (TK i).1 from (congrFun (AT_r (by decide)) i).trans (hR.2.1 i hi).1]
    refine t_ite (op := o_if 30 165 (fun x => x = 0) (fun _ => inferInstance)) (fe_X12_evening 27) g_if (fun c2 => ?_) (fun c2 => ?_)
    · exact hq
    · exact absurd (by rw [h0]; rfl) c2
  · exact absurd rfl c1
set_option maxRecDepth 8000 in
theorem r_v11F {d : Nat} {h : AHP} {TK : Nat → Tk} {n i f : Nat} (hR : RQ h TK n) (hi : i ≤ n) (hf : f < 100000) (h0 : ¬ f = 0) {n1 : Nat} {x2 : Option Value} {Q : Option Value → AHP → Prop} (hq : TT (d + 6) 187 165 [some (.ref 183), some (.int (nI n1)), x2] [] (AT h i f) Q) : TT (d + 6) 187 11 [some (.ref 183), some (.int (nI n1)), x2] [] (AT h i f) Q := by
  have hS := hR.1
  have hB := hR.2.2.2.1
  have hn := hR.2.2.1
  refine t_go (op := o_aload 12 0) (fe_X12_evening 11) (fun _ _ => rfl) ?_
  refine t_go (op := o_getI 15 11 8) (fe_X12_evening 12) (g_getI hS (show (lay 183).1 = 11 by decide) (by decide)) ?_
  rw [show (AT h i f).1 183 8 = nI f from AT_8]
  refine t_ite (op := o_if 165 18 (fun x => x = 0) (fun _ => inferInstance)) (fe_X12_evening 15) g_if (fun c1 => ?_) (fun c1 => ?_)
  · exact absurd ((f_0 hf).mp c1) h0
  · exact hq
set_option maxRecDepth 8000 in
theorem r_v1 {d : Nat} {h : AHP} {TK : Nat → Tk} {n i : Nat} (hR : RQ h TK n) (hi : i ≤ n) {n1 : Nat} {x2 : Option Value} (hn0 : ¬ (TK i).1 = 0) (hw : ¬ whP TK 7 i 0 5) {Q : Option Value → AHP → Prop} (hq : ∀ x2, TT (d + 6) 187 156 [some (.ref 183), some (.int (nI n1)), x2] [] (AT h i (wrF TK 1 i 0)) Q) : TT (d + 6) 187 11 [some (.ref 183), some (.int (nI n1)), x2] [] (AT h i 0) Q := by
  have hS := hR.1
  have hB := hR.2.2.2.1
  have hn := hR.2.2.1
  refine t_go (op := o_aload 12 0) (fe_X12_evening 11) (fun _ _ => rfl) ?_
  refine t_go (op := o_getI 15 11 8) (fe_X12_evening 12) (g_getI hS (show (lay 183).1 = 11 by decide) (by decide)) ?_
  rw [show (AT h i 0).1 183 8 = nI 0 from AT_8]
  refine t_ite (op := o_if 165 18 (fun x => x = 0) (fun _ => inferInstance)) (fe_X12_evening 15) g_if (fun c1 => ?_) (fun c1 => ?_)
  · refine t_go (op := o_aload 19 0) (fe_X12_evening 18) (fun _ _ => rfl) ?_
    refine t_go (op := o_getR 22 11 4) (fe_X12_evening 19) (g_getR hS (show (lay 183).1 = 11 by decide) (by decide) (fr_11_4 hS) (by decide)) ?_
    refine t_go (op := o_aload 23 0) (fe_X12_evening 22) (fun _ _ => rfl) ?_
    refine t_go (op := o_getI 26 11 7) (fe_X12_evening 23) (g_getI hS (show (lay 183).1 = 11 by decide) (by decide)) ?_
    rw [show (AT h i 0).1 183 7 = nI i from AT_7]
    refine t_go (op := o_iald 27) (fe_X12_evening 26) (g_ialdN hS (show lay 185 = (20, 1002) by decide) rfl (by omega) (by decide)) ?_
    rw [show (AT h i 0).1 185 i = nI (TK i).1 from (congrFun (AT_r (by decide)) i).trans (hR.2.1 i hi).1]
    refine t_ite (op := o_if 30 165 (fun x => x = 0) (fun _ => inferInstance)) (fe_X12_evening 27) g_if (fun c2 => ?_) (fun c2 => ?_)
    · exact absurd ((nI_eq (b := 0) (by have := (hB i).1; omega) (by decide)).mp c2) hn0
    · refine t_go (op := o_aload 31 0) (fe_X12_evening 30) (fun _ _ => rfl) ?_
      refine t_go (op := o_ci 33 7) (fe_X12_evening 31) (fun _ _ => rfl) ?_
      refine t_go (op := o_ci 34 5) (fe_X12_evening 33) (fun _ _ => rfl) ?_
      refine t_call (op := o_callV 37 177 3 11) (fe_X12_evening 34) (g_callV hS (show (lay 183).1 = 11 by decide) (by decide) rfl rfl rfl (Nat.le_of_ble_eq_true rfl)) ?_
      refine M_eq (r_wordHere (b := 7) (cnt := 5) (f := 0) hR hi (by decide) (by decide)) ?_
      rw [whV_no hw]
      refine t_go (op := o_istore 38 2) (fe_X12_evening 37) (fun _ _ => rfl) ?_
      refine t_go (op := o_iload 39 2) (fe_X12_evening 38) (fun _ _ => rfl) ?_
      refine t_ite (op := o_if 42 50 (fun x => 0 ≤ x) (fun _ => inferInstance)) (fe_X12_evening 39) g_if (fun c3 => ?_) (fun c3 => ?_)
      · exact absurd c3 (by decide)
      · clear c3
        refine t_go (op := o_aload 43 0) (fe_X12_evening 42) (fun _ _ => rfl) ?_
        refine t_go (op := o_ci 44 1) (fe_X12_evening 43) (fun _ _ => rfl) ?_
        refine t_call (op := o_callV 47 166 2 11) (fe_X12_evening 44) (g_callV hS (show (lay 183).1 = 11 by decide) (by decide) rfl rfl rfl (Nat.le_of_ble_eq_true rfl)) ?_
        refine M_eq (r_wrong (c := 1) (f := 0) hR hi (by decide)) ?_
        refine t_go (op := o_goto 156) (fe_X12_evening 47) (fun _ _ => rfl) ?_
        exact hq _
  · exact absurd rfl c1
set_option maxRecDepth 8000 in
theorem r_v5 {d : Nat} {h : AHP} {TK : Nat → Tk} {n i : Nat} (hR : RQ h TK n) (hi : i ≤ n) {n1 : Nat} {x2 : Option Value} (hn0 : ¬ (TK i).1 = 0) (hw : whP TK 7 i 0 5) (h40 : n1 = 40) {Q : Option Value → AHP → Prop} (hq : ∀ x2, TT (d + 6) 187 156 [some (.ref 183), some (.int (nI n1)), x2] [] (AT h i (wrF TK 5 i 0)) Q) : TT (d + 6) 187 11 [some (.ref 183), some (.int (nI n1)), x2] [] (AT h i 0) Q := by
  have hS := hR.1
  have hB := hR.2.2.2.1
  have hn := hR.2.2.1
  refine t_go (op := o_aload 12 0) (fe_X12_evening 11) (fun _ _ => rfl) ?_
  refine t_go (op := o_getI 15 11 8) (fe_X12_evening 12) (g_getI hS (show (lay 183).1 = 11 by decide) (by decide)) ?_
  rw [show (AT h i 0).1 183 8 = nI 0 from AT_8]
  refine t_ite (op := o_if 165 18 (fun x => x = 0) (fun _ => inferInstance)) (fe_X12_evening 15) g_if (fun c1 => ?_) (fun c1 => ?_)
  · refine t_go (op := o_aload 19 0) (fe_X12_evening 18) (fun _ _ => rfl) ?_
    refine t_go (op := o_getR 22 11 4) (fe_X12_evening 19) (g_getR hS (show (lay 183).1 = 11 by decide) (by decide) (fr_11_4 hS) (by decide)) ?_
    refine t_go (op := o_aload 23 0) (fe_X12_evening 22) (fun _ _ => rfl) ?_
    refine t_go (op := o_getI 26 11 7) (fe_X12_evening 23) (g_getI hS (show (lay 183).1 = 11 by decide) (by decide)) ?_
    rw [show (AT h i 0).1 183 7 = nI i from AT_7]
    refine t_go (op := o_iald 27) (fe_X12_evening 26) (g_ialdN hS (show lay 185 = (20, 1002) by decide) rfl (by omega) (by decide)) ?_
    rw [show (AT h i 0).1 185 i = nI (TK i).1 from (congrFun (AT_r (by decide)) i).trans (hR.2.1 i hi).1]
    refine t_ite (op := o_if 30 165 (fun x => x = 0) (fun _ => inferInstance)) (fe_X12_evening 27) g_if (fun c2 => ?_) (fun c2 => ?_)
    · exact absurd ((nI_eq (b := 0) (by have := (hB i).1; omega) (by decide)).mp c2) hn0
    · refine t_go (op := o_aload 31 0) (fe_X12_evening 30) (fun _ _ => rfl) ?_
      refine t_go (op := o_ci 33 7) (fe_X12_evening 31) (fun _ _ => rfl) ?_
      refine t_go (op := o_ci 34 5) (fe_X12_evening 33) (fun _ _ => rfl) ?_
      refine t_call (op := o_callV 37 177 3 11) (fe_X12_evening 34) (g_callV hS (show (lay 183).1 = 11 by decide) (by decide) rfl rfl rfl (Nat.le_of_ble_eq_true rfl)) ?_
      refine M_eq (r_wordHere (b := 7) (cnt := 5) (f := 0) hR hi (by decide) (by decide)) ?_
      refine t_go (op := o_istore 38 2) (fe_X12_evening 37) (fun _ _ => rfl) ?_
      refine t_go (op := o_iload 39 2) (fe_X12_evening 38) (fun _ _ => rfl) ?_
      refine t_ite (op := o_if 42 50 (fun x => 0 ≤ x) (fun _ => inferInstance)) (fe_X12_evening 39) g_if (fun c3 => ?_) (fun c3 => ?_)
      · refine t_go (op := o_iload 51 1) (fe_X12_evening 50) (fun _ _ => rfl) ?_
        refine t_go (op := o_ci 53 40) (fe_X12_evening 51) (fun _ _ => rfl) ?_
        refine t_ite (op := o_icmp 64 56 (fun x y => x = y) (fun _ _ => inferInstance)) (fe_X12_evening 53) g_icmp (fun c4 => ?_) (fun c4 => ?_)
        · refine t_go (op := o_aload 57 0) (fe_X12_evening 56) (fun _ _ => rfl) ?_
          refine t_go (op := o_ci 58 5) (fe_X12_evening 57) (fun _ _ => rfl) ?_
          refine t_call (op := o_callV 61 166 2 11) (fe_X12_evening 58) (g_callV hS (show (lay 183).1 = 11 by decide) (by decide) rfl rfl rfl (Nat.le_of_ble_eq_true rfl)) ?_
          refine M_eq (r_wrong (c := 5) (f := 0) hR hi (by decide)) ?_
          refine t_go (op := o_goto 156) (fe_X12_evening 61) (fun _ _ => rfl) ?_
          exact hq _
        · exact absurd (by rw [h40]; rfl) c4
      · exact absurd ((whV_n (hB i)).mpr hw) c3
  · exact absurd rfl c1
set_option maxRecDepth 8000 in
theorem r_b0 {d : Nat} {h : AHP} {TK : Nat → Tk} {n i n1 : Nat} {r : Nat → Int32} {x2 : Option Value} (hR : RQ h TK n) (hi : i ≤ n) (hn0 : ¬ (TK i).1 = 0) (hi1 : i + 1 ≤ n) (h40 : n1 < 40) (hw : isWd TK 7 i 0) {Q : Option Value → AHP → Prop} (hq : ∀ x2, TT (d + 6) 187 156 [some (.ref 183), some (.int (nI (n1 + 1))), x2] [] (AT (rowI h 194 (r3F r n1 0 0 0)) (i + 1) 0) Q) : TT (d + 6) 187 11 [some (.ref 183), some (.int (nI n1)), x2] [] (AT (rowI h 194 r) i 0) Q := by
  have hR1 := RQ_r4 (r := r) hR
  have hR2 := hR1
  have hS := hR1.1
  have hB := hR.2.2.2.1
  have hn := hR.2.2.1
  refine t_go (op := o_aload 12 0) (fe_X12_evening 11) (fun _ _ => rfl) ?_
  refine t_go (op := o_getI 15 11 8) (fe_X12_evening 12) (g_getI hS (show (lay 183).1 = 11 by decide) (by decide)) ?_
  rw [show (AT (rowI h 194 r) i 0).1 183 8 = nI 0 from AT_8]
  refine t_ite (op := o_if 165 18 (fun x => x = 0) (fun _ => inferInstance)) (fe_X12_evening 15) g_if (fun c1 => ?_) (fun c1 => ?_)
  · refine t_go (op := o_aload 19 0) (fe_X12_evening 18) (fun _ _ => rfl) ?_
    refine t_go (op := o_getR 22 11 4) (fe_X12_evening 19) (g_getR hS (show (lay 183).1 = 11 by decide) (by decide) (fr_11_4 hS) (by decide)) ?_
    refine t_go (op := o_aload 23 0) (fe_X12_evening 22) (fun _ _ => rfl) ?_
    refine t_go (op := o_getI 26 11 7) (fe_X12_evening 23) (g_getI hS (show (lay 183).1 = 11 by decide) (by decide)) ?_
    rw [show (AT (rowI h 194 r) i 0).1 183 7 = nI i from AT_7]
    refine t_go (op := o_iald 27) (fe_X12_evening 26) (g_ialdN hS (show lay 185 = (20, 1002) by decide) rfl (by omega) (by decide)) ?_
    rw [show (AT (rowI h 194 r) i 0).1 185 i = nI (TK i).1 from (congrFun (AT_r (by decide)) i).trans (hR1.2.1 i hi).1]
    refine t_ite (op := o_if 30 165 (fun x => x = 0) (fun _ => inferInstance)) (fe_X12_evening 27) g_if (fun c2 => ?_) (fun c2 => ?_)
    · exact absurd ((nI_eq (b := 0) (by have := (hB i).1; omega) (by decide)).mp c2) hn0
    · refine t_go (op := o_aload 31 0) (fe_X12_evening 30) (fun _ _ => rfl) ?_
      refine t_go (op := o_ci 33 7) (fe_X12_evening 31) (fun _ _ => rfl) ?_
      refine t_go (op := o_ci 34 5) (fe_X12_evening 33) (fun _ _ => rfl) ?_
      refine t_call (op := o_callV 37 177 3 11) (fe_X12_evening 34) (g_callV hS (show (lay 183).1 = 11 by decide) (by decide) rfl rfl rfl (Nat.le_of_ble_eq_true rfl)) ?_
      refine M_eq (r_wordHere (h := rowI h 194 r) (b := 7) (cnt := 5) (f := 0) hR1 hi (by decide) (by decide)) ?_
      rw [show whV TK 7 i 0 5 = 0 from whV_at (q := 0) hw (by decide)]
      refine t_go (op := o_istore 38 2) (fe_X12_evening 37) (fun _ _ => rfl) ?_
      refine t_go (op := o_iload 39 2) (fe_X12_evening 38) (fun _ _ => rfl) ?_
      refine t_ite (op := o_if 42 50 (fun x => 0 ≤ x) (fun _ => inferInstance)) (fe_X12_evening 39) g_if (fun c3 => ?_) (fun c3 => ?_)
      · clear c3
        refine t_go (op := o_iload 51 1) (fe_X12_evening 50) (fun _ _ => rfl) ?_
        refine t_go (op := o_ci 53 40) (fe_X12_evening 51) (fun _ _ => rfl) ?_
        refine t_ite (op := o_icmp 64 56 (fun x y => x = y) (fun _ _ => inferInstance)) (fe_X12_evening 53) g_icmp (fun c4 => ?_) (fun c4 => ?_)
        · exact absurd ((nI_eq (b := 40) (by omega) (by decide)).mp c4) (by omega)
        · refine t_go (op := o_aload 65 0) (fe_X12_evening 64) (fun _ _ => rfl) ?_
          refine t_go (op := o_dupA 66) (fe_X12_evening 65) (fun _ _ => rfl) ?_
          refine t_go (op := o_getI 69 11 7) (fe_X12_evening 66) (g_getI hS (show (lay 183).1 = 11 by decide) (by decide)) ?_
          rw [show (AT (rowI h 194 r) i 0).1 183 7 = nI i from AT_7]
          refine t_go (op := o_ci 70 1) (fe_X12_evening 69) (fun _ _ => rfl) ?_
          refine t_go (op := o_i2 71 (fun x y => x + y)) (fe_X12_evening 70) (fun _ _ => rfl) ?_
          refine t_go (op := o_putI 74 11 7) (fe_X12_evening 71) (g_putI hS (show (lay 183).1 = 11 by decide) (by decide)) ?_
          refine T_heap ((congrArg (sI (AT (rowI h 194 r) i 0) 183 7) (show (fun x y : Int32 => x + y) (nI i) 1 = nI (i + 1) from nI_1 i)).trans AT_7s).symm ?_
          refine t_go (op := o_aload 75 0) (fe_X12_evening 74) (fun _ _ => rfl) ?_
          refine t_go (op := o_getR 78 11 19) (fe_X12_evening 75) (g_getR hS (show (lay 183).1 = 11 by decide) (by decide) (fr_11_19 hS) (by decide)) ?_
          refine t_go (op := o_ci 80 125) (fe_X12_evening 78) (fun _ _ => rfl) ?_
          refine t_go (op := o_ci 81 3) (fe_X12_evening 80) (fun _ _ => rfl) ?_
          refine t_go (op := o_iload 82 1) (fe_X12_evening 81) (fun _ _ => rfl) ?_
          refine t_go (op := o_i2 83 (fun x y => x * y)) (fe_X12_evening 82) (fun _ _ => rfl) ?_
          refine t_go (op := o_i2 84 (fun x y => x + y)) (fe_X12_evening 83) (fun _ _ => rfl) ?_
          refine t_go (op := o_iload 85 2) (fe_X12_evening 84) (fun _ _ => rfl) ?_
          refine t_go (op := o_iast 86) (fe_X12_evening 85) (g_iastN hS (show lay 194 = (20, 250) by decide) (nIa (nIl 125) (nIm (nIl 3) rfl)) (by omega) (by decide)) ?_
          refine T_heap (show AT (rowI h 194 (fup r (125 + 3 * n1) (nI 0))) (i + 1) 0 = sI (AT (rowI h 194 r) (i + 1) 0) 194 (125 + 3 * n1) (nI 0) from by rw [sI_AT (by decide), rowI_up]) ?_
          have hR125 := RQ_r4 (r := (fup r (125 + 3 * n1) (nI 0))) hR
          refine t_go (op := o_aload 87 0) (fe_X12_evening 86) (fun _ _ => rfl) ?_
          refine t_go (op := o_getR 90 11 19) (fe_X12_evening 87) (g_getR hS (show (lay 183).1 = 11 by decide) (by decide) (fr_11_19 hS) (by decide)) ?_
          refine t_go (op := o_ci 92 126) (fe_X12_evening 90) (fun _ _ => rfl) ?_
          refine t_go (op := o_ci 93 3) (fe_X12_evening 92) (fun _ _ => rfl) ?_
          refine t_go (op := o_iload 94 1) (fe_X12_evening 93) (fun _ _ => rfl) ?_
          refine t_go (op := o_i2 95 (fun x y => x * y)) (fe_X12_evening 94) (fun _ _ => rfl) ?_
          refine t_go (op := o_i2 96 (fun x y => x + y)) (fe_X12_evening 95) (fun _ _ => rfl) ?_
          refine t_go (op := o_iload 97 2) (fe_X12_evening 96) (fun _ _ => rfl) ?_
          refine t_go (op := o_ci 98 4) (fe_X12_evening 97) (fun _ _ => rfl) ?_
          refine t_go (op := o_i2d 99 (fun x y => x - x / y * y)) (fe_X12_evening 98) (g_i2d (by decide)) ?_
          refine t_ite (op := o_if 106 102 (fun x => x = 0) (fun _ => inferInstance)) (fe_X12_evening 99) g_if (fun c5 => ?_) (fun c5 => ?_)
          · refine t_go (op := o_ci 103 0) (fe_X12_evening 102) (fun _ _ => rfl) ?_
            refine t_go (op := o_goto 110) (fe_X12_evening 103) (fun _ _ => rfl) ?_
            refine t_go (op := o_iast 111) (fe_X12_evening 110) (g_iastN hS (show lay 194 = (20, 250) by decide) (nIa (nIl 126) (nIm (nIl 3) rfl)) (by omega) (by decide)) ?_
            refine T_heap (show AT (rowI h 194 (fup (fup r (125 + 3 * n1) (nI 0)) (126 + 3 * n1) (nI 0))) (i + 1) 0 = sI (AT (rowI h 194 (fup r (125 + 3 * n1) (nI 0))) (i + 1) 0) 194 (126 + 3 * n1) (nI 0) from by rw [sI_AT (by decide), rowI_up]) ?_
            have hR126 := RQ_r4 (r := (fup (fup r (125 + 3 * n1) (nI 0)) (126 + 3 * n1) (nI 0))) hR
            refine t_go (op := o_aload 112 0) (fe_X12_evening 111) (fun _ _ => rfl) ?_
            refine t_go (op := o_getR 115 11 19) (fe_X12_evening 112) (g_getR hS (show (lay 183).1 = 11 by decide) (by decide) (fr_11_19 hS) (by decide)) ?_
            refine t_go (op := o_ci 117 127) (fe_X12_evening 115) (fun _ _ => rfl) ?_
            refine t_go (op := o_ci 118 3) (fe_X12_evening 117) (fun _ _ => rfl) ?_
            refine t_go (op := o_iload 119 1) (fe_X12_evening 118) (fun _ _ => rfl) ?_
            refine t_go (op := o_i2 120 (fun x y => x * y)) (fe_X12_evening 119) (fun _ _ => rfl) ?_
            refine t_go (op := o_i2 121 (fun x y => x + y)) (fe_X12_evening 120) (fun _ _ => rfl) ?_
            refine t_go (op := o_iload 122 2) (fe_X12_evening 121) (fun _ _ => rfl) ?_
            refine t_go (op := o_ci 123 2) (fe_X12_evening 122) (fun _ _ => rfl) ?_
            refine t_ite (op := o_icmp 136 126 (fun x y => x = y) (fun _ _ => inferInstance)) (fe_X12_evening 123) g_icmp (fun c6 => ?_) (fun c6 => ?_)
            · exact absurd c6 (by decide)
            · clear c6
              refine t_go (op := o_iload 137 2) (fe_X12_evening 136) (fun _ _ => rfl) ?_
              refine t_go (op := o_ci 138 3) (fe_X12_evening 137) (fun _ _ => rfl) ?_
              refine t_ite (op := o_icmp 151 141 (fun x y => x = y) (fun _ _ => inferInstance)) (fe_X12_evening 138) g_icmp (fun c7 => ?_) (fun c7 => ?_)
              · exact absurd c7 (by decide)
              · clear c7
                refine t_go (op := o_ci 152 0) (fe_X12_evening 151) (fun _ _ => rfl) ?_
                refine t_go (op := o_iast 153) (fe_X12_evening 152) (g_iastN hS (show lay 194 = (20, 250) by decide) (nIa (nIl 127) (nIm (nIl 3) rfl)) (by omega) (by decide)) ?_
                refine T_heap (show AT (rowI h 194 (fup (fup (fup r (125 + 3 * n1) (nI 0)) (126 + 3 * n1) (nI 0)) (127 + 3 * n1) (nI 0))) (i + 1) 0 = sI (AT (rowI h 194 (fup (fup r (125 + 3 * n1) (nI 0)) (126 + 3 * n1) (nI 0))) (i + 1) 0) 194 (127 + 3 * n1) (nI 0) from by rw [sI_AT (by decide), rowI_up]) ?_
                have hR127 := RQ_r4 (r := (fup (fup (fup r (125 + 3 * n1) (nI 0)) (126 + 3 * n1) (nI 0)) (127 + 3 * n1) (nI 0))) hR
                refine t_go (op := o_iinc 156 1 1) (fe_X12_evening 153) (fun _ _ => rfl) ?_
                rw [nI_1]
                exact hq _
          · exact absurd (by decide) c5
      · exact absurd (by decide) c3
  · exact absurd rfl c1
set_option maxRecDepth 8000 in
theorem r_b4 {d : Nat} {h : AHP} {TK : Nat → Tk} {n i n1 : Nat} {r : Nat → Int32} {x2 : Option Value} (hR : RQ h TK n) (hi : i ≤ n) (hn0 : ¬ (TK i).1 = 0) (hi1 : i + 1 ≤ n) (h40 : n1 < 40) (hw : isWd TK 11 i 0) {Q : Option Value → AHP → Prop} (hq : ∀ x2, TT (d + 6) 187 156 [some (.ref 183), some (.int (nI (n1 + 1))), x2] [] (AT (rowI h 194 (r3F r n1 4 0 0)) (i + 1) 0) Q) : TT (d + 6) 187 11 [some (.ref 183), some (.int (nI n1)), x2] [] (AT (rowI h 194 r) i 0) Q := by
  have hR1 := RQ_r4 (r := r) hR
  have hR2 := hR1
  have hS := hR1.1
  have hB := hR.2.2.2.1
  have hn := hR.2.2.1
  refine t_go (op := o_aload 12 0) (fe_X12_evening 11) (fun _ _ => rfl) ?_
  refine t_go (op := o_getI 15 11 8) (fe_X12_evening 12) (g_getI hS (show (lay 183).1 = 11 by decide) (by decide)) ?_
  rw [show (AT (rowI h 194 r) i 0).1 183 8 = nI 0 from AT_8]
  refine t_ite (op := o_if 165 18 (fun x => x = 0) (fun _ => inferInstance)) (fe_X12_evening 15) g_if (fun c1 => ?_) (fun c1 => ?_)
  · refine t_go (op := o_aload 19 0) (fe_X12_evening 18) (fun _ _ => rfl) ?_
    refine t_go (op := o_getR 22 11 4) (fe_X12_evening 19) (g_getR hS (show (lay 183).1 = 11 by decide) (by decide) (fr_11_4 hS) (by decide)) ?_
    refine t_go (op := o_aload 23 0) (fe_X12_evening 22) (fun _ _ => rfl) ?_
    refine t_go (op := o_getI 26 11 7) (fe_X12_evening 23) (g_getI hS (show (lay 183).1 = 11 by decide) (by decide)) ?_
    rw [show (AT (rowI h 194 r) i 0).1 183 7 = nI i from AT_7]
    refine t_go (op := o_iald 27) (fe_X12_evening 26) (g_ialdN hS (show lay 185 = (20, 1002) by decide) rfl (by omega) (by decide)) ?_
    rw [show (AT (rowI h 194 r) i 0).1 185 i = nI (TK i).1 from (congrFun (AT_r (by decide)) i).trans (hR1.2.1 i hi).1]
    refine t_ite (op := o_if 30 165 (fun x => x = 0) (fun _ => inferInstance)) (fe_X12_evening 27) g_if (fun c2 => ?_) (fun c2 => ?_)
    · exact absurd ((nI_eq (b := 0) (by have := (hB i).1; omega) (by decide)).mp c2) hn0
    · refine t_go (op := o_aload 31 0) (fe_X12_evening 30) (fun _ _ => rfl) ?_
      refine t_go (op := o_ci 33 7) (fe_X12_evening 31) (fun _ _ => rfl) ?_
      refine t_go (op := o_ci 34 5) (fe_X12_evening 33) (fun _ _ => rfl) ?_
      refine t_call (op := o_callV 37 177 3 11) (fe_X12_evening 34) (g_callV hS (show (lay 183).1 = 11 by decide) (by decide) rfl rfl rfl (Nat.le_of_ble_eq_true rfl)) ?_
      refine M_eq (r_wordHere (h := rowI h 194 r) (b := 7) (cnt := 5) (f := 0) hR1 hi (by decide) (by decide)) ?_
      rw [show whV TK 7 i 0 5 = 4 from whV_at (q := 4) hw (by decide)]
      refine t_go (op := o_istore 38 2) (fe_X12_evening 37) (fun _ _ => rfl) ?_
      refine t_go (op := o_iload 39 2) (fe_X12_evening 38) (fun _ _ => rfl) ?_
      refine t_ite (op := o_if 42 50 (fun x => 0 ≤ x) (fun _ => inferInstance)) (fe_X12_evening 39) g_if (fun c3 => ?_) (fun c3 => ?_)
      · clear c3
        refine t_go (op := o_iload 51 1) (fe_X12_evening 50) (fun _ _ => rfl) ?_
        refine t_go (op := o_ci 53 40) (fe_X12_evening 51) (fun _ _ => rfl) ?_
        refine t_ite (op := o_icmp 64 56 (fun x y => x = y) (fun _ _ => inferInstance)) (fe_X12_evening 53) g_icmp (fun c4 => ?_) (fun c4 => ?_)
        · exact absurd ((nI_eq (b := 40) (by omega) (by decide)).mp c4) (by omega)
        · refine t_go (op := o_aload 65 0) (fe_X12_evening 64) (fun _ _ => rfl) ?_
          refine t_go (op := o_dupA 66) (fe_X12_evening 65) (fun _ _ => rfl) ?_
          refine t_go (op := o_getI 69 11 7) (fe_X12_evening 66) (g_getI hS (show (lay 183).1 = 11 by decide) (by decide)) ?_
          rw [show (AT (rowI h 194 r) i 0).1 183 7 = nI i from AT_7]
          refine t_go (op := o_ci 70 1) (fe_X12_evening 69) (fun _ _ => rfl) ?_
          refine t_go (op := o_i2 71 (fun x y => x + y)) (fe_X12_evening 70) (fun _ _ => rfl) ?_
          refine t_go (op := o_putI 74 11 7) (fe_X12_evening 71) (g_putI hS (show (lay 183).1 = 11 by decide) (by decide)) ?_
          refine T_heap ((congrArg (sI (AT (rowI h 194 r) i 0) 183 7) (show (fun x y : Int32 => x + y) (nI i) 1 = nI (i + 1) from nI_1 i)).trans AT_7s).symm ?_
          refine t_go (op := o_aload 75 0) (fe_X12_evening 74) (fun _ _ => rfl) ?_
          refine t_go (op := o_getR 78 11 19) (fe_X12_evening 75) (g_getR hS (show (lay 183).1 = 11 by decide) (by decide) (fr_11_19 hS) (by decide)) ?_
          refine t_go (op := o_ci 80 125) (fe_X12_evening 78) (fun _ _ => rfl) ?_
          refine t_go (op := o_ci 81 3) (fe_X12_evening 80) (fun _ _ => rfl) ?_
          refine t_go (op := o_iload 82 1) (fe_X12_evening 81) (fun _ _ => rfl) ?_
          refine t_go (op := o_i2 83 (fun x y => x * y)) (fe_X12_evening 82) (fun _ _ => rfl) ?_
          refine t_go (op := o_i2 84 (fun x y => x + y)) (fe_X12_evening 83) (fun _ _ => rfl) ?_
          refine t_go (op := o_iload 85 2) (fe_X12_evening 84) (fun _ _ => rfl) ?_
          refine t_go (op := o_iast 86) (fe_X12_evening 85) (g_iastN hS (show lay 194 = (20, 250) by decide) (nIa (nIl 125) (nIm (nIl 3) rfl)) (by omega) (by decide)) ?_
          refine T_heap (show AT (rowI h 194 (fup r (125 + 3 * n1) (nI 4))) (i + 1) 0 = sI (AT (rowI h 194 r) (i + 1) 0) 194 (125 + 3 * n1) (nI 4) from by rw [sI_AT (by decide), rowI_up]) ?_
          have hR125 := RQ_r4 (r := (fup r (125 + 3 * n1) (nI 4))) hR
          refine t_go (op := o_aload 87 0) (fe_X12_evening 86) (fun _ _ => rfl) ?_
          refine t_go (op := o_getR 90 11 19) (fe_X12_evening 87) (g_getR hS (show (lay 183).1 = 11 by decide) (by decide) (fr_11_19 hS) (by decide)) ?_
          refine t_go (op := o_ci 92 126) (fe_X12_evening 90) (fun _ _ => rfl) ?_
          refine t_go (op := o_ci 93 3) (fe_X12_evening 92) (fun _ _ => rfl) ?_
          refine t_go (op := o_iload 94 1) (fe_X12_evening 93) (fun _ _ => rfl) ?_
          refine t_go (op := o_i2 95 (fun x y => x * y)) (fe_X12_evening 94) (fun _ _ => rfl) ?_
          refine t_go (op := o_i2 96 (fun x y => x + y)) (fe_X12_evening 95) (fun _ _ => rfl) ?_
          refine t_go (op := o_iload 97 2) (fe_X12_evening 96) (fun _ _ => rfl) ?_
          refine t_go (op := o_ci 98 4) (fe_X12_evening 97) (fun _ _ => rfl) ?_
          refine t_go (op := o_i2d 99 (fun x y => x - x / y * y)) (fe_X12_evening 98) (g_i2d (by decide)) ?_
          refine t_ite (op := o_if 106 102 (fun x => x = 0) (fun _ => inferInstance)) (fe_X12_evening 99) g_if (fun c5 => ?_) (fun c5 => ?_)
          · refine t_go (op := o_ci 103 0) (fe_X12_evening 102) (fun _ _ => rfl) ?_
            refine t_go (op := o_goto 110) (fe_X12_evening 103) (fun _ _ => rfl) ?_
            refine t_go (op := o_iast 111) (fe_X12_evening 110) (g_iastN hS (show lay 194 = (20, 250) by decide) (nIa (nIl 126) (nIm (nIl 3) rfl)) (by omega) (by decide)) ?_
            refine T_heap (show AT (rowI h 194 (fup (fup r (125 + 3 * n1) (nI 4)) (126 + 3 * n1) (nI 0))) (i + 1) 0 = sI (AT (rowI h 194 (fup r (125 + 3 * n1) (nI 4))) (i + 1) 0) 194 (126 + 3 * n1) (nI 0) from by rw [sI_AT (by decide), rowI_up]) ?_
            have hR126 := RQ_r4 (r := (fup (fup r (125 + 3 * n1) (nI 4)) (126 + 3 * n1) (nI 0))) hR
            refine t_go (op := o_aload 112 0) (fe_X12_evening 111) (fun _ _ => rfl) ?_
            refine t_go (op := o_getR 115 11 19) (fe_X12_evening 112) (g_getR hS (show (lay 183).1 = 11 by decide) (by decide) (fr_11_19 hS) (by decide)) ?_
            refine t_go (op := o_ci 117 127) (fe_X12_evening 115) (fun _ _ => rfl) ?_
            refine t_go (op := o_ci 118 3) (fe_X12_evening 117) (fun _ _ => rfl) ?_
            refine t_go (op := o_iload 119 1) (fe_X12_evening 118) (fun _ _ => rfl) ?_
            refine t_go (op := o_i2 120 (fun x y => x * y)) (fe_X12_evening 119) (fun _ _ => rfl) ?_
            refine t_go (op := o_i2 121 (fun x y => x + y)) (fe_X12_evening 120) (fun _ _ => rfl) ?_
            refine t_go (op := o_iload 122 2) (fe_X12_evening 121) (fun _ _ => rfl) ?_
            refine t_go (op := o_ci 123 2) (fe_X12_evening 122) (fun _ _ => rfl) ?_
            refine t_ite (op := o_icmp 136 126 (fun x y => x = y) (fun _ _ => inferInstance)) (fe_X12_evening 123) g_icmp (fun c6 => ?_) (fun c6 => ?_)
            · exact absurd c6 (by decide)
            · clear c6
              refine t_go (op := o_iload 137 2) (fe_X12_evening 136) (fun _ _ => rfl) ?_
              refine t_go (op := o_ci 138 3) (fe_X12_evening 137) (fun _ _ => rfl) ?_
              refine t_ite (op := o_icmp 151 141 (fun x y => x = y) (fun _ _ => inferInstance)) (fe_X12_evening 138) g_icmp (fun c7 => ?_) (fun c7 => ?_)
              · exact absurd c7 (by decide)
              · clear c7
                refine t_go (op := o_ci 152 0) (fe_X12_evening 151) (fun _ _ => rfl) ?_
                refine t_go (op := o_iast 153) (fe_X12_evening 152) (g_iastN hS (show lay 194 = (20, 250) by decide) (nIa (nIl 127) (nIm (nIl 3) rfl)) (by omega) (by decide)) ?_
                refine T_heap (show AT (rowI h 194 (fup (fup (fup r (125 + 3 * n1) (nI 4)) (126 + 3 * n1) (nI 0)) (127 + 3 * n1) (nI 0))) (i + 1) 0 = sI (AT (rowI h 194 (fup (fup r (125 + 3 * n1) (nI 4)) (126 + 3 * n1) (nI 0))) (i + 1) 0) 194 (127 + 3 * n1) (nI 0) from by rw [sI_AT (by decide), rowI_up]) ?_
                have hR127 := RQ_r4 (r := (fup (fup (fup r (125 + 3 * n1) (nI 4)) (126 + 3 * n1) (nI 0)) (127 + 3 * n1) (nI 0))) hR
                refine t_go (op := o_iinc 156 1 1) (fe_X12_evening 153) (fun _ _ => rfl) ?_
                rw [nI_1]
                exact hq _
          · exact absurd (by decide) c5
      · exact absurd (by decide) c3
  · exact absurd rfl c1
set_option maxRecDepth 8000 in
theorem r_b11 {d : Nat} {h : AHP} {TK : Nat → Tk} {n i n1 : Nat} {r : Nat → Int32} {x2 : Option Value} (hR : RQ h TK n) (hi : i ≤ n) (hn0 : ¬ (TK i).1 = 0) (hi1 : i + 1 ≤ n) (h40 : n1 < 40) (hw : isWd TK 8 i 0) {m : Nat} (hm : h.1 183 16 = nI m) (hm7 : m ≤ 7) (hN : ¬ nmP TK (i + 1)) {Q : Option Value → AHP → Prop} (hq : ∀ x2, TT (d + 6) 187 156 [some (.ref 183), some (.int (nI (n1 + 1))), x2] [] (AT (rowI h 194 (r3F r n1 1 0 0)) (i + 1) (wrF TK 1 (i + 1) 0)) Q) : TT (d + 6) 187 11 [some (.ref 183), some (.int (nI n1)), x2] [] (AT (rowI h 194 r) i 0) Q := by
  have hR1 := RQ_r4 (r := r) hR
  have hR2 := hR1
  have hS := hR1.1
  have hB := hR.2.2.2.1
  have hn := hR.2.2.1
  refine t_go (op := o_aload 12 0) (fe_X12_evening 11) (fun _ _ => rfl) ?_
  refine t_go (op := o_getI 15 11 8) (fe_X12_evening 12) (g_getI hS (show (lay 183).1 = 11 by decide) (by decide)) ?_
  rw [show (AT (rowI h 194 r) i 0).1 183 8 = nI 0 from AT_8]
  refine t_ite (op := o_if 165 18 (fun x => x = 0) (fun _ => inferInstance)) (fe_X12_evening 15) g_if (fun c1 => ?_) (fun c1 => ?_)
  · refine t_go (op := o_aload 19 0) (fe_X12_evening 18) (fun _ _ => rfl) ?_
    refine t_go (op := o_getR 22 11 4) (fe_X12_evening 19) (g_getR hS (show (lay 183).1 = 11 by decide) (by decide) (fr_11_4 hS) (by decide)) ?_
    refine t_go (op := o_aload 23 0) (fe_X12_evening 22) (fun _ _ => rfl) ?_
    refine t_go (op := o_getI 26 11 7) (fe_X12_evening 23) (g_getI hS (show (lay 183).1 = 11 by decide) (by decide)) ?_
    rw [show (AT (rowI h 194 r) i 0).1 183 7 = nI i from AT_7]
    refine t_go (op := o_iald 27) (fe_X12_evening 26) (g_ialdN hS (show lay 185 = (20, 1002) by decide) rfl (by omega) (by decide)) ?_
    rw [show (AT (rowI h 194 r) i 0).1 185 i = nI (TK i).1 from (congrFun (AT_r (by decide)) i).trans (hR1.2.1 i hi).1]
    refine t_ite (op := o_if 30 165 (fun x => x = 0) (fun _ => inferInstance)) (fe_X12_evening 27) g_if (fun c2 => ?_) (fun c2 => ?_)
    · exact absurd ((nI_eq (b := 0) (by have := (hB i).1; omega) (by decide)).mp c2) hn0
    · refine t_go (op := o_aload 31 0) (fe_X12_evening 30) (fun _ _ => rfl) ?_
      refine t_go (op := o_ci 33 7) (fe_X12_evening 31) (fun _ _ => rfl) ?_
      refine t_go (op := o_ci 34 5) (fe_X12_evening 33) (fun _ _ => rfl) ?_
      refine t_call (op := o_callV 37 177 3 11) (fe_X12_evening 34) (g_callV hS (show (lay 183).1 = 11 by decide) (by decide) rfl rfl rfl (Nat.le_of_ble_eq_true rfl)) ?_
      refine M_eq (r_wordHere (h := rowI h 194 r) (b := 7) (cnt := 5) (f := 0) hR1 hi (by decide) (by decide)) ?_
      rw [show whV TK 7 i 0 5 = 1 from whV_at (q := 1) hw (by decide)]
      refine t_go (op := o_istore 38 2) (fe_X12_evening 37) (fun _ _ => rfl) ?_
      refine t_go (op := o_iload 39 2) (fe_X12_evening 38) (fun _ _ => rfl) ?_
      refine t_ite (op := o_if 42 50 (fun x => 0 ≤ x) (fun _ => inferInstance)) (fe_X12_evening 39) g_if (fun c3 => ?_) (fun c3 => ?_)
      · clear c3
        refine t_go (op := o_iload 51 1) (fe_X12_evening 50) (fun _ _ => rfl) ?_
        refine t_go (op := o_ci 53 40) (fe_X12_evening 51) (fun _ _ => rfl) ?_
        refine t_ite (op := o_icmp 64 56 (fun x y => x = y) (fun _ _ => inferInstance)) (fe_X12_evening 53) g_icmp (fun c4 => ?_) (fun c4 => ?_)
        · exact absurd ((nI_eq (b := 40) (by omega) (by decide)).mp c4) (by omega)
        · refine t_go (op := o_aload 65 0) (fe_X12_evening 64) (fun _ _ => rfl) ?_
          refine t_go (op := o_dupA 66) (fe_X12_evening 65) (fun _ _ => rfl) ?_
          refine t_go (op := o_getI 69 11 7) (fe_X12_evening 66) (g_getI hS (show (lay 183).1 = 11 by decide) (by decide)) ?_
          rw [show (AT (rowI h 194 r) i 0).1 183 7 = nI i from AT_7]
          refine t_go (op := o_ci 70 1) (fe_X12_evening 69) (fun _ _ => rfl) ?_
          refine t_go (op := o_i2 71 (fun x y => x + y)) (fe_X12_evening 70) (fun _ _ => rfl) ?_
          refine t_go (op := o_putI 74 11 7) (fe_X12_evening 71) (g_putI hS (show (lay 183).1 = 11 by decide) (by decide)) ?_
          refine T_heap ((congrArg (sI (AT (rowI h 194 r) i 0) 183 7) (show (fun x y : Int32 => x + y) (nI i) 1 = nI (i + 1) from nI_1 i)).trans AT_7s).symm ?_
          refine t_go (op := o_aload 75 0) (fe_X12_evening 74) (fun _ _ => rfl) ?_
          refine t_go (op := o_getR 78 11 19) (fe_X12_evening 75) (g_getR hS (show (lay 183).1 = 11 by decide) (by decide) (fr_11_19 hS) (by decide)) ?_
          refine t_go (op := o_ci 80 125) (fe_X12_evening 78) (fun _ _ => rfl) ?_
          refine t_go (op := o_ci 81 3) (fe_X12_evening 80) (fun _ _ => rfl) ?_
          refine t_go (op := o_iload 82 1) (fe_X12_evening 81) (fun _ _ => rfl) ?_
          refine t_go (op := o_i2 83 (fun x y => x * y)) (fe_X12_evening 82) (fun _ _ => rfl) ?_
          refine t_go (op := o_i2 84 (fun x y => x + y)) (fe_X12_evening 83) (fun _ _ => rfl) ?_
          refine t_go (op := o_iload 85 2) (fe_X12_evening 84) (fun _ _ => rfl) ?_
          refine t_go (op := o_iast 86) (fe_X12_evening 85) (g_iastN hS (show lay 194 = (20, 250) by decide) (nIa (nIl 125) (nIm (nIl 3) rfl)) (by omega) (by decide)) ?_
          refine T_heap (show AT (rowI h 194 (fup r (125 + 3 * n1) (nI 1))) (i + 1) 0 = sI (AT (rowI h 194 r) (i + 1) 0) 194 (125 + 3 * n1) (nI 1) from by rw [sI_AT (by decide), rowI_up]) ?_
          have hR125 := RQ_r4 (r := (fup r (125 + 3 * n1) (nI 1))) hR
          refine t_go (op := o_aload 87 0) (fe_X12_evening 86) (fun _ _ => rfl) ?_
          refine t_go (op := o_getR 90 11 19) (fe_X12_evening 87) (g_getR hS (show (lay 183).1 = 11 by decide) (by decide) (fr_11_19 hS) (by decide)) ?_
          refine t_go (op := o_ci 92 126) (fe_X12_evening 90) (fun _ _ => rfl) ?_
          refine t_go (op := o_ci 93 3) (fe_X12_evening 92) (fun _ _ => rfl) ?_
          refine t_go (op := o_iload 94 1) (fe_X12_evening 93) (fun _ _ => rfl) ?_
          refine t_go (op := o_i2 95 (fun x y => x * y)) (fe_X12_evening 94) (fun _ _ => rfl) ?_
          refine t_go (op := o_i2 96 (fun x y => x + y)) (fe_X12_evening 95) (fun _ _ => rfl) ?_
          refine t_go (op := o_iload 97 2) (fe_X12_evening 96) (fun _ _ => rfl) ?_
          refine t_go (op := o_ci 98 4) (fe_X12_evening 97) (fun _ _ => rfl) ?_
          refine t_go (op := o_i2d 99 (fun x y => x - x / y * y)) (fe_X12_evening 98) (g_i2d (by decide)) ?_
          refine t_ite (op := o_if 106 102 (fun x => x = 0) (fun _ => inferInstance)) (fe_X12_evening 99) g_if (fun c5 => ?_) (fun c5 => ?_)
          · exact absurd c5 (by decide)
          · refine t_go (op := o_aload 107 0) (fe_X12_evening 106) (fun _ _ => rfl) ?_
            refine t_call (op := o_callV 110 181 1 11) (fe_X12_evening 107) (g_callV hS (show (lay 183).1 = 11 by decide) (by decide) rfl rfl rfl (Nat.le_of_ble_eq_true rfl)) ?_
            refine M_eq (r_tT1 (h := rowI h 194 (fup r (125 + 3 * n1) (nI 1))) hR125 hi1 (show (rowI h 194 (fup r (125 + 3 * n1) (nI 1))).1 183 16 = nI m from (congrFun (rowI_ne (by decide)) 16).trans hm) hm7 hN) ?_
            refine t_go (op := o_iast 111) (fe_X12_evening 110) (g_iastN hS (show lay 194 = (20, 250) by decide) (nIa (nIl 126) (nIm (nIl 3) rfl)) (by omega) (by decide)) ?_
            refine T_heap (show AT (rowI h 194 (fup (fup r (125 + 3 * n1) (nI 1)) (126 + 3 * n1) (nI 0))) (i + 1) (wrF TK 1 (i + 1) 0) = sI (AT (rowI h 194 (fup r (125 + 3 * n1) (nI 1))) (i + 1) (wrF TK 1 (i + 1) 0)) 194 (126 + 3 * n1) (nI 0) from by rw [sI_AT (by decide), rowI_up]) ?_
            have hR126 := RQ_r4 (r := (fup (fup r (125 + 3 * n1) (nI 1)) (126 + 3 * n1) (nI 0))) hR
            refine t_go (op := o_aload 112 0) (fe_X12_evening 111) (fun _ _ => rfl) ?_
            refine t_go (op := o_getR 115 11 19) (fe_X12_evening 112) (g_getR hS (show (lay 183).1 = 11 by decide) (by decide) (fr_11_19 hS) (by decide)) ?_
            refine t_go (op := o_ci 117 127) (fe_X12_evening 115) (fun _ _ => rfl) ?_
            refine t_go (op := o_ci 118 3) (fe_X12_evening 117) (fun _ _ => rfl) ?_
            refine t_go (op := o_iload 119 1) (fe_X12_evening 118) (fun _ _ => rfl) ?_
            refine t_go (op := o_i2 120 (fun x y => x * y)) (fe_X12_evening 119) (fun _ _ => rfl) ?_
            refine t_go (op := o_i2 121 (fun x y => x + y)) (fe_X12_evening 120) (fun _ _ => rfl) ?_
            refine t_go (op := o_iload 122 2) (fe_X12_evening 121) (fun _ _ => rfl) ?_
            refine t_go (op := o_ci 123 2) (fe_X12_evening 122) (fun _ _ => rfl) ?_
            refine t_ite (op := o_icmp 136 126 (fun x y => x = y) (fun _ _ => inferInstance)) (fe_X12_evening 123) g_icmp (fun c6 => ?_) (fun c6 => ?_)
            · exact absurd c6 (by decide)
            · clear c6
              refine t_go (op := o_iload 137 2) (fe_X12_evening 136) (fun _ _ => rfl) ?_
              refine t_go (op := o_ci 138 3) (fe_X12_evening 137) (fun _ _ => rfl) ?_
              refine t_ite (op := o_icmp 151 141 (fun x y => x = y) (fun _ _ => inferInstance)) (fe_X12_evening 138) g_icmp (fun c7 => ?_) (fun c7 => ?_)
              · exact absurd c7 (by decide)
              · clear c7
                refine t_go (op := o_ci 152 0) (fe_X12_evening 151) (fun _ _ => rfl) ?_
                refine t_go (op := o_iast 153) (fe_X12_evening 152) (g_iastN hS (show lay 194 = (20, 250) by decide) (nIa (nIl 127) (nIm (nIl 3) rfl)) (by omega) (by decide)) ?_
                refine T_heap (show AT (rowI h 194 (fup (fup (fup r (125 + 3 * n1) (nI 1)) (126 + 3 * n1) (nI 0)) (127 + 3 * n1) (nI 0))) (i + 1) (wrF TK 1 (i + 1) 0) = sI (AT (rowI h 194 (fup (fup r (125 + 3 * n1) (nI 1)) (126 + 3 * n1) (nI 0))) (i + 1) (wrF TK 1 (i + 1) 0)) 194 (127 + 3 * n1) (nI 0) from by rw [sI_AT (by decide), rowI_up]) ?_
                have hR127 := RQ_r4 (r := (fup (fup (fup r (125 + 3 * n1) (nI 1)) (126 + 3 * n1) (nI 0)) (127 + 3 * n1) (nI 0))) hR
                refine t_go (op := o_iinc 156 1 1) (fe_X12_evening 153) (fun _ _ => rfl) ?_
                rw [nI_1]
                exact hq _
      · exact absurd (by decide) c3
  · exact absurd rfl c1
set_option maxRecDepth 8000 in
theorem r_b12 {d : Nat} {h : AHP} {TK : Nat → Tk} {n i n1 : Nat} {r : Nat → Int32} {x2 : Option Value} (hR : RQ h TK n) (hi : i ≤ n) (hn0 : ¬ (TK i).1 = 0) (hi1 : i + 1 ≤ n) (h40 : n1 < 40) (hw : isWd TK 8 i 0) {m : Nat} (hm : h.1 183 16 = nI m) (hm7 : m ≤ 7) (hN : nmP TK (i + 1)) (hu : ¬ (∃ k, k < m ∧ h.2.1 192 k = h.2.1 187 (i + 1))) {Q : Option Value → AHP → Prop} (hq : ∀ x2, TT (d + 6) 187 156 [some (.ref 183), some (.int (nI (n1 + 1))), x2] [] (AT (rowI h 194 (r3F r n1 1 0 0)) (i + 1) (wrF TK 2 (i + 1) 0)) Q) : TT (d + 6) 187 11 [some (.ref 183), some (.int (nI n1)), x2] [] (AT (rowI h 194 r) i 0) Q := by
  have hR1 := RQ_r4 (r := r) hR
  have hR2 := hR1
  have hS := hR1.1
  have hB := hR.2.2.2.1
  have hn := hR.2.2.1
  refine t_go (op := o_aload 12 0) (fe_X12_evening 11) (fun _ _ => rfl) ?_
  refine t_go (op := o_getI 15 11 8) (fe_X12_evening 12) (g_getI hS (show (lay 183).1 = 11 by decide) (by decide)) ?_
  rw [show (AT (rowI h 194 r) i 0).1 183 8 = nI 0 from AT_8]
  refine t_ite (op := o_if 165 18 (fun x => x = 0) (fun _ => inferInstance)) (fe_X12_evening 15) g_if (fun c1 => ?_) (fun c1 => ?_)
  · refine t_go (op := o_aload 19 0) (fe_X12_evening 18) (fun _ _ => rfl) ?_
    refine t_go (op := o_getR 22 11 4) (fe_X12_evening 19) (g_getR hS (show (lay 183).1 = 11 by decide) (by decide) (fr_11_4 hS) (by decide)) ?_
    refine t_go (op := o_aload 23 0) (fe_X12_evening 22) (fun _ _ => rfl) ?_
    refine t_go (op := o_getI 26 11 7) (fe_X12_evening 23) (g_getI hS (show (lay 183).1 = 11 by decide) (by decide)) ?_
    rw [show (AT (rowI h 194 r) i 0).1 183 7 = nI i from AT_7]
    refine t_go (op := o_iald 27) (fe_X12_evening 26) (g_ialdN hS (show lay 185 = (20, 1002) by decide) rfl (by omega) (by decide)) ?_
    rw [show (AT (rowI h 194 r) i 0).1 185 i = nI (TK i).1 from (congrFun (AT_r (by decide)) i).trans (hR1.2.1 i hi).1]
    refine t_ite (op := o_if 30 165 (fun x => x = 0) (fun _ => inferInstance)) (fe_X12_evening 27) g_if (fun c2 => ?_) (fun c2 => ?_)
    · exact absurd ((nI_eq (b := 0) (by have := (hB i).1; omega) (by decide)).mp c2) hn0
    · refine t_go (op := o_aload 31 0) (fe_X12_evening 30) (fun _ _ => rfl) ?_
      refine t_go (op := o_ci 33 7) (fe_X12_evening 31) (fun _ _ => rfl) ?_
      refine t_go (op := o_ci 34 5) (fe_X12_evening 33) (fun _ _ => rfl) ?_
      refine t_call (op := o_callV 37 177 3 11) (fe_X12_evening 34) (g_callV hS (show (lay 183).1 = 11 by decide) (by decide) rfl rfl rfl (Nat.le_of_ble_eq_true rfl)) ?_
      refine M_eq (r_wordHere (h := rowI h 194 r) (b := 7) (cnt := 5) (f := 0) hR1 hi (by decide) (by decide)) ?_
      rw [show whV TK 7 i 0 5 = 1 from whV_at (q := 1) hw (by decide)]
      refine t_go (op := o_istore 38 2) (fe_X12_evening 37) (fun _ _ => rfl) ?_
      refine t_go (op := o_iload 39 2) (fe_X12_evening 38) (fun _ _ => rfl) ?_
      refine t_ite (op := o_if 42 50 (fun x => 0 ≤ x) (fun _ => inferInstance)) (fe_X12_evening 39) g_if (fun c3 => ?_) (fun c3 => ?_)
      · clear c3
        refine t_go (op := o_iload 51 1) (fe_X12_evening 50) (fun _ _ => rfl) ?_
        refine t_go (op := o_ci 53 40) (fe_X12_evening 51) (fun _ _ => rfl) ?_
        refine t_ite (op := o_icmp 64 56 (fun x y => x = y) (fun _ _ => inferInstance)) (fe_X12_evening 53) g_icmp (fun c4 => ?_) (fun c4 => ?_)
        · exact absurd ((nI_eq (b := 40) (by omega) (by decide)).mp c4) (by omega)
        · refine t_go (op := o_aload 65 0) (fe_X12_evening 64) (fun _ _ => rfl) ?_
          refine t_go (op := o_dupA 66) (fe_X12_evening 65) (fun _ _ => rfl) ?_
          refine t_go (op := o_getI 69 11 7) (fe_X12_evening 66) (g_getI hS (show (lay 183).1 = 11 by decide) (by decide)) ?_
          rw [show (AT (rowI h 194 r) i 0).1 183 7 = nI i from AT_7]
          refine t_go (op := o_ci 70 1) (fe_X12_evening 69) (fun _ _ => rfl) ?_
          refine t_go (op := o_i2 71 (fun x y => x + y)) (fe_X12_evening 70) (fun _ _ => rfl) ?_
          refine t_go (op := o_putI 74 11 7) (fe_X12_evening 71) (g_putI hS (show (lay 183).1 = 11 by decide) (by decide)) ?_
          refine T_heap ((congrArg (sI (AT (rowI h 194 r) i 0) 183 7) (show (fun x y : Int32 => x + y) (nI i) 1 = nI (i + 1) from nI_1 i)).trans AT_7s).symm ?_
          refine t_go (op := o_aload 75 0) (fe_X12_evening 74) (fun _ _ => rfl) ?_
          refine t_go (op := o_getR 78 11 19) (fe_X12_evening 75) (g_getR hS (show (lay 183).1 = 11 by decide) (by decide) (fr_11_19 hS) (by decide)) ?_
          refine t_go (op := o_ci 80 125) (fe_X12_evening 78) (fun _ _ => rfl) ?_
          refine t_go (op := o_ci 81 3) (fe_X12_evening 80) (fun _ _ => rfl) ?_
          refine t_go (op := o_iload 82 1) (fe_X12_evening 81) (fun _ _ => rfl) ?_
          refine t_go (op := o_i2 83 (fun x y => x * y)) (fe_X12_evening 82) (fun _ _ => rfl) ?_
          refine t_go (op := o_i2 84 (fun x y => x + y)) (fe_X12_evening 83) (fun _ _ => rfl) ?_
          refine t_go (op := o_iload 85 2) (fe_X12_evening 84) (fun _ _ => rfl) ?_
          refine t_go (op := o_iast 86) (fe_X12_evening 85) (g_iastN hS (show lay 194 = (20, 250) by decide) (nIa (nIl 125) (nIm (nIl 3) rfl)) (by omega) (by decide)) ?_
          refine T_heap (show AT (rowI h 194 (fup r (125 + 3 * n1) (nI 1))) (i + 1) 0 = sI (AT (rowI h 194 r) (i + 1) 0) 194 (125 + 3 * n1) (nI 1) from by rw [sI_AT (by decide), rowI_up]) ?_
          have hR125 := RQ_r4 (r := (fup r (125 + 3 * n1) (nI 1))) hR
          refine t_go (op := o_aload 87 0) (fe_X12_evening 86) (fun _ _ => rfl) ?_
          refine t_go (op := o_getR 90 11 19) (fe_X12_evening 87) (g_getR hS (show (lay 183).1 = 11 by decide) (by decide) (fr_11_19 hS) (by decide)) ?_
          refine t_go (op := o_ci 92 126) (fe_X12_evening 90) (fun _ _ => rfl) ?_
          refine t_go (op := o_ci 93 3) (fe_X12_evening 92) (fun _ _ => rfl) ?_
          refine t_go (op := o_iload 94 1) (fe_X12_evening 93) (fun _ _ => rfl) ?_
          refine t_go (op := o_i2 95 (fun x y => x * y)) (fe_X12_evening 94) (fun _ _ => rfl) ?_
          refine t_go (op := o_i2 96 (fun x y => x + y)) (fe_X12_evening 95) (fun _ _ => rfl) ?_
          refine t_go (op := o_iload 97 2) (fe_X12_evening 96) (fun _ _ => rfl) ?_
          refine t_go (op := o_ci 98 4) (fe_X12_evening 97) (fun _ _ => rfl) ?_
          refine t_go (op := o_i2d 99 (fun x y => x - x / y * y)) (fe_X12_evening 98) (g_i2d (by decide)) ?_
          refine t_ite (op := o_if 106 102 (fun x => x = 0) (fun _ => inferInstance)) (fe_X12_evening 99) g_if (fun c5 => ?_) (fun c5 => ?_)
          · exact absurd c5 (by decide)
          · refine t_go (op := o_aload 107 0) (fe_X12_evening 106) (fun _ _ => rfl) ?_
            refine t_call (op := o_callV 110 181 1 11) (fe_X12_evening 107) (g_callV hS (show (lay 183).1 = 11 by decide) (by decide) rfl rfl rfl (Nat.le_of_ble_eq_true rfl)) ?_
            refine M_eq (r_tT2 (h := rowI h 194 (fup r (125 + 3 * n1) (nI 1))) hR125 hi1 (show (rowI h 194 (fup r (125 + 3 * n1) (nI 1))).1 183 16 = nI m from (congrFun (rowI_ne (by decide)) 16).trans hm) hm7 hN hu) ?_
            refine t_go (op := o_iast 111) (fe_X12_evening 110) (g_iastN hS (show lay 194 = (20, 250) by decide) (nIa (nIl 126) (nIm (nIl 3) rfl)) (by omega) (by decide)) ?_
            refine T_heap (show AT (rowI h 194 (fup (fup r (125 + 3 * n1) (nI 1)) (126 + 3 * n1) (nI 0))) (i + 1) (wrF TK 2 (i + 1) 0) = sI (AT (rowI h 194 (fup r (125 + 3 * n1) (nI 1))) (i + 1) (wrF TK 2 (i + 1) 0)) 194 (126 + 3 * n1) (nI 0) from by rw [sI_AT (by decide), rowI_up]) ?_
            have hR126 := RQ_r4 (r := (fup (fup r (125 + 3 * n1) (nI 1)) (126 + 3 * n1) (nI 0))) hR
            refine t_go (op := o_aload 112 0) (fe_X12_evening 111) (fun _ _ => rfl) ?_
            refine t_go (op := o_getR 115 11 19) (fe_X12_evening 112) (g_getR hS (show (lay 183).1 = 11 by decide) (by decide) (fr_11_19 hS) (by decide)) ?_
            refine t_go (op := o_ci 117 127) (fe_X12_evening 115) (fun _ _ => rfl) ?_
            refine t_go (op := o_ci 118 3) (fe_X12_evening 117) (fun _ _ => rfl) ?_
            refine t_go (op := o_iload 119 1) (fe_X12_evening 118) (fun _ _ => rfl) ?_
            refine t_go (op := o_i2 120 (fun x y => x * y)) (fe_X12_evening 119) (fun _ _ => rfl) ?_
            refine t_go (op := o_i2 121 (fun x y => x + y)) (fe_X12_evening 120) (fun _ _ => rfl) ?_
            refine t_go (op := o_iload 122 2) (fe_X12_evening 121) (fun _ _ => rfl) ?_
            refine t_go (op := o_ci 123 2) (fe_X12_evening 122) (fun _ _ => rfl) ?_
            refine t_ite (op := o_icmp 136 126 (fun x y => x = y) (fun _ _ => inferInstance)) (fe_X12_evening 123) g_icmp (fun c6 => ?_) (fun c6 => ?_)
            · exact absurd c6 (by decide)
            · clear c6
              refine t_go (op := o_iload 137 2) (fe_X12_evening 136) (fun _ _ => rfl) ?_
              refine t_go (op := o_ci 138 3) (fe_X12_evening 137) (fun _ _ => rfl) ?_
              refine t_ite (op := o_icmp 151 141 (fun x y => x = y) (fun _ _ => inferInstance)) (fe_X12_evening 138) g_icmp (fun c7 => ?_) (fun c7 => ?_)
              · exact absurd c7 (by decide)
              · clear c7
                refine t_go (op := o_ci 152 0) (fe_X12_evening 151) (fun _ _ => rfl) ?_
                refine t_go (op := o_iast 153) (fe_X12_evening 152) (g_iastN hS (show lay 194 = (20, 250) by decide) (nIa (nIl 127) (nIm (nIl 3) rfl)) (by omega) (by decide)) ?_
                refine T_heap (show AT (rowI h 194 (fup (fup (fup r (125 + 3 * n1) (nI 1)) (126 + 3 * n1) (nI 0)) (127 + 3 * n1) (nI 0))) (i + 1) (wrF TK 2 (i + 1) 0) = sI (AT (rowI h 194 (fup (fup r (125 + 3 * n1) (nI 1)) (126 + 3 * n1) (nI 0))) (i + 1) (wrF TK 2 (i + 1) 0)) 194 (127 + 3 * n1) (nI 0) from by rw [sI_AT (by decide), rowI_up]) ?_
                have hR127 := RQ_r4 (r := (fup (fup (fup r (125 + 3 * n1) (nI 1)) (126 + 3 * n1) (nI 0)) (127 + 3 * n1) (nI 0))) hR
                refine t_go (op := o_iinc 156 1 1) (fe_X12_evening 153) (fun _ _ => rfl) ?_
                rw [nI_1]
                exact hq _
      · exact absurd (by decide) c3
  · exact absurd rfl c1
set_option maxRecDepth 8000 in
theorem r_b1Y {d : Nat} {h : AHP} {TK : Nat → Tk} {n i n1 : Nat} {r : Nat → Int32} {x2 : Option Value} (hR : RQ h TK n) (hi : i ≤ n) (hn0 : ¬ (TK i).1 = 0) (hi1 : i + 1 ≤ n) (h40 : n1 < 40) (hw : isWd TK 8 i 0) {m : Nat} (hm : h.1 183 16 = nI m) (hm7 : m ≤ 7) {ix : Nat} (hN : nmP TK (i + 1)) (hixm : ix < m) (hixk : h.2.1 192 ix = h.2.1 187 (i + 1)) (hix : ∀ a, FIp (fun k => h.2.1 192 k = h.2.1 187 (i + 1)) m a → a = nI ix) {Q : Option Value → AHP → Prop} (hq : ∀ x2, TT (d + 6) 187 156 [some (.ref 183), some (.int (nI (n1 + 1))), x2] [] (AT (rowI h 194 (r3F r n1 1 ix 0)) (i + 2) 0) Q) : TT (d + 6) 187 11 [some (.ref 183), some (.int (nI n1)), x2] [] (AT (rowI h 194 r) i 0) Q := by
  have hR1 := RQ_r4 (r := r) hR
  have hR2 := hR1
  have hS := hR1.1
  have hB := hR.2.2.2.1
  have hn := hR.2.2.1
  refine t_go (op := o_aload 12 0) (fe_X12_evening 11) (fun _ _ => rfl) ?_
  refine t_go (op := o_getI 15 11 8) (fe_X12_evening 12) (g_getI hS (show (lay 183).1 = 11 by decide) (by decide)) ?_
  rw [show (AT (rowI h 194 r) i 0).1 183 8 = nI 0 from AT_8]
  refine t_ite (op := o_if 165 18 (fun x => x = 0) (fun _ => inferInstance)) (fe_X12_evening 15) g_if (fun c1 => ?_) (fun c1 => ?_)
  · refine t_go (op := o_aload 19 0) (fe_X12_evening 18) (fun _ _ => rfl) ?_
    refine t_go (op := o_getR 22 11 4) (fe_X12_evening 19) (g_getR hS (show (lay 183).1 = 11 by decide) (by decide) (fr_11_4 hS) (by decide)) ?_
    refine t_go (op := o_aload 23 0) (fe_X12_evening 22) (fun _ _ => rfl) ?_
    refine t_go (op := o_getI 26 11 7) (fe_X12_evening 23) (g_getI hS (show (lay 183).1 = 11 by decide) (by decide)) ?_
    rw [show (AT (rowI h 194 r) i 0).1 183 7 = nI i from AT_7]
    refine t_go (op := o_iald 27) (fe_X12_evening 26) (g_ialdN hS (show lay 185 = (20, 1002) by decide) rfl (by omega) (by decide)) ?_
    rw [show (AT (rowI h 194 r) i 0).1 185 i = nI (TK i).1 from (congrFun (AT_r (by decide)) i).trans (hR1.2.1 i hi).1]
    refine t_ite (op := o_if 30 165 (fun x => x = 0) (fun _ => inferInstance)) (fe_X12_evening 27) g_if (fun c2 => ?_) (fun c2 => ?_)
    · exact absurd ((nI_eq (b := 0) (by have := (hB i).1; omega) (by decide)).mp c2) hn0
    · refine t_go (op := o_aload 31 0) (fe_X12_evening 30) (fun _ _ => rfl) ?_
      refine t_go (op := o_ci 33 7) (fe_X12_evening 31) (fun _ _ => rfl) ?_
      refine t_go (op := o_ci 34 5) (fe_X12_evening 33) (fun _ _ => rfl) ?_
      refine t_call (op := o_callV 37 177 3 11) (fe_X12_evening 34) (g_callV hS (show (lay 183).1 = 11 by decide) (by decide) rfl rfl rfl (Nat.le_of_ble_eq_true rfl)) ?_
      refine M_eq (r_wordHere (h := rowI h 194 r) (b := 7) (cnt := 5) (f := 0) hR1 hi (by decide) (by decide)) ?_
      rw [show whV TK 7 i 0 5 = 1 from whV_at (q := 1) hw (by decide)]
      refine t_go (op := o_istore 38 2) (fe_X12_evening 37) (fun _ _ => rfl) ?_
      refine t_go (op := o_iload 39 2) (fe_X12_evening 38) (fun _ _ => rfl) ?_
      refine t_ite (op := o_if 42 50 (fun x => 0 ≤ x) (fun _ => inferInstance)) (fe_X12_evening 39) g_if (fun c3 => ?_) (fun c3 => ?_)
      · clear c3
        refine t_go (op := o_iload 51 1) (fe_X12_evening 50) (fun _ _ => rfl) ?_
        refine t_go (op := o_ci 53 40) (fe_X12_evening 51) (fun _ _ => rfl) ?_
        refine t_ite (op := o_icmp 64 56 (fun x y => x = y) (fun _ _ => inferInstance)) (fe_X12_evening 53) g_icmp (fun c4 => ?_) (fun c4 => ?_)
        · exact absurd ((nI_eq (b := 40) (by omega) (by decide)).mp c4) (by omega)
        · refine t_go (op := o_aload 65 0) (fe_X12_evening 64) (fun _ _ => rfl) ?_
          refine t_go (op := o_dupA 66) (fe_X12_evening 65) (fun _ _ => rfl) ?_
          refine t_go (op := o_getI 69 11 7) (fe_X12_evening 66) (g_getI hS (show (lay 183).1 = 11 by decide) (by decide)) ?_
          rw [show (AT (rowI h 194 r) i 0).1 183 7 = nI i from AT_7]
          refine t_go (op := o_ci 70 1) (fe_X12_evening 69) (fun _ _ => rfl) ?_
          refine t_go (op := o_i2 71 (fun x y => x + y)) (fe_X12_evening 70) (fun _ _ => rfl) ?_
          refine t_go (op := o_putI 74 11 7) (fe_X12_evening 71) (g_putI hS (show (lay 183).1 = 11 by decide) (by decide)) ?_
          refine T_heap ((congrArg (sI (AT (rowI h 194 r) i 0) 183 7) (show (fun x y : Int32 => x + y) (nI i) 1 = nI (i + 1) from nI_1 i)).trans AT_7s).symm ?_
          refine t_go (op := o_aload 75 0) (fe_X12_evening 74) (fun _ _ => rfl) ?_
          refine t_go (op := o_getR 78 11 19) (fe_X12_evening 75) (g_getR hS (show (lay 183).1 = 11 by decide) (by decide) (fr_11_19 hS) (by decide)) ?_
          refine t_go (op := o_ci 80 125) (fe_X12_evening 78) (fun _ _ => rfl) ?_
          refine t_go (op := o_ci 81 3) (fe_X12_evening 80) (fun _ _ => rfl) ?_
          refine t_go (op := o_iload 82 1) (fe_X12_evening 81) (fun _ _ => rfl) ?_
          refine t_go (op := o_i2 83 (fun x y => x * y)) (fe_X12_evening 82) (fun _ _ => rfl) ?_
          refine t_go (op := o_i2 84 (fun x y => x + y)) (fe_X12_evening 83) (fun _ _ => rfl) ?_
          refine t_go (op := o_iload 85 2) (fe_X12_evening 84) (fun _ _ => rfl) ?_
          refine t_go (op := o_iast 86) (fe_X12_evening 85) (g_iastN hS (show lay 194 = (20, 250) by decide) (nIa (nIl 125) (nIm (nIl 3) rfl)) (by omega) (by decide)) ?_
          refine T_heap (show AT (rowI h 194 (fup r (125 + 3 * n1) (nI 1))) (i + 1) 0 = sI (AT (rowI h 194 r) (i + 1) 0) 194 (125 + 3 * n1) (nI 1) from by rw [sI_AT (by decide), rowI_up]) ?_
          have hR125 := RQ_r4 (r := (fup r (125 + 3 * n1) (nI 1))) hR
          refine t_go (op := o_aload 87 0) (fe_X12_evening 86) (fun _ _ => rfl) ?_
          refine t_go (op := o_getR 90 11 19) (fe_X12_evening 87) (g_getR hS (show (lay 183).1 = 11 by decide) (by decide) (fr_11_19 hS) (by decide)) ?_
          refine t_go (op := o_ci 92 126) (fe_X12_evening 90) (fun _ _ => rfl) ?_
          refine t_go (op := o_ci 93 3) (fe_X12_evening 92) (fun _ _ => rfl) ?_
          refine t_go (op := o_iload 94 1) (fe_X12_evening 93) (fun _ _ => rfl) ?_
          refine t_go (op := o_i2 95 (fun x y => x * y)) (fe_X12_evening 94) (fun _ _ => rfl) ?_
          refine t_go (op := o_i2 96 (fun x y => x + y)) (fe_X12_evening 95) (fun _ _ => rfl) ?_
          refine t_go (op := o_iload 97 2) (fe_X12_evening 96) (fun _ _ => rfl) ?_
          refine t_go (op := o_ci 98 4) (fe_X12_evening 97) (fun _ _ => rfl) ?_
          refine t_go (op := o_i2d 99 (fun x y => x - x / y * y)) (fe_X12_evening 98) (g_i2d (by decide)) ?_
          refine t_ite (op := o_if 106 102 (fun x => x = 0) (fun _ => inferInstance)) (fe_X12_evening 99) g_if (fun c5 => ?_) (fun c5 => ?_)
          · exact absurd c5 (by decide)
          · refine t_go (op := o_aload 107 0) (fe_X12_evening 106) (fun _ _ => rfl) ?_
            refine t_call (op := o_callV 110 181 1 11) (fe_X12_evening 107) (g_callV hS (show (lay 183).1 = 11 by decide) (by decide) rfl rfl rfl (Nat.le_of_ble_eq_true rfl)) ?_
            refine M_mono ?_ (r_tTY (h := rowI h 194 (fup r (125 + 3 * n1) (nI 1))) hR125 hi1 (show (rowI h 194 (fup r (125 + 3 * n1) (nI 1))).1 183 16 = nI m from (congrFun (rowI_ne (by decide)) 16).trans hm) hm7 hN ⟨_, hixm, hixk⟩)
            rintro _ _ ⟨⟨a8, rfl, hF8⟩, rfl⟩
            rw [show a8 = nI ix from hix a8 hF8]
            refine t_go (op := o_iast 111) (fe_X12_evening 110) (g_iastN hS (show lay 194 = (20, 250) by decide) (nIa (nIl 126) (nIm (nIl 3) rfl)) (by omega) (by decide)) ?_
            refine T_heap (show AT (rowI h 194 (fup (fup r (125 + 3 * n1) (nI 1)) (126 + 3 * n1) (nI ix))) (i + 2) 0 = sI (AT (rowI h 194 (fup r (125 + 3 * n1) (nI 1))) (i + 2) 0) 194 (126 + 3 * n1) (nI ix) from by rw [sI_AT (by decide), rowI_up]) ?_
            have hR126 := RQ_r4 (r := (fup (fup r (125 + 3 * n1) (nI 1)) (126 + 3 * n1) (nI ix))) hR
            refine t_go (op := o_aload 112 0) (fe_X12_evening 111) (fun _ _ => rfl) ?_
            refine t_go (op := o_getR 115 11 19) (fe_X12_evening 112) (g_getR hS (show (lay 183).1 = 11 by decide) (by decide) (fr_11_19 hS) (by decide)) ?_
            refine t_go (op := o_ci 117 127) (fe_X12_evening 115) (fun _ _ => rfl) ?_
            refine t_go (op := o_ci 118 3) (fe_X12_evening 117) (fun _ _ => rfl) ?_
            refine t_go (op := o_iload 119 1) (fe_X12_evening 118) (fun _ _ => rfl) ?_
            refine t_go (op := o_i2 120 (fun x y => x * y)) (fe_X12_evening 119) (fun _ _ => rfl) ?_
            refine t_go (op := o_i2 121 (fun x y => x + y)) (fe_X12_evening 120) (fun _ _ => rfl) ?_
            refine t_go (op := o_iload 122 2) (fe_X12_evening 121) (fun _ _ => rfl) ?_
            refine t_go (op := o_ci 123 2) (fe_X12_evening 122) (fun _ _ => rfl) ?_
            refine t_ite (op := o_icmp 136 126 (fun x y => x = y) (fun _ _ => inferInstance)) (fe_X12_evening 123) g_icmp (fun c6 => ?_) (fun c6 => ?_)
            · exact absurd c6 (by decide)
            · clear c6
              refine t_go (op := o_iload 137 2) (fe_X12_evening 136) (fun _ _ => rfl) ?_
              refine t_go (op := o_ci 138 3) (fe_X12_evening 137) (fun _ _ => rfl) ?_
              refine t_ite (op := o_icmp 151 141 (fun x y => x = y) (fun _ _ => inferInstance)) (fe_X12_evening 138) g_icmp (fun c7 => ?_) (fun c7 => ?_)
              · exact absurd c7 (by decide)
              · clear c7
                refine t_go (op := o_ci 152 0) (fe_X12_evening 151) (fun _ _ => rfl) ?_
                refine t_go (op := o_iast 153) (fe_X12_evening 152) (g_iastN hS (show lay 194 = (20, 250) by decide) (nIa (nIl 127) (nIm (nIl 3) rfl)) (by omega) (by decide)) ?_
                refine T_heap (show AT (rowI h 194 (fup (fup (fup r (125 + 3 * n1) (nI 1)) (126 + 3 * n1) (nI ix)) (127 + 3 * n1) (nI 0))) (i + 2) 0 = sI (AT (rowI h 194 (fup (fup r (125 + 3 * n1) (nI 1)) (126 + 3 * n1) (nI ix))) (i + 2) 0) 194 (127 + 3 * n1) (nI 0) from by rw [sI_AT (by decide), rowI_up]) ?_
                have hR127 := RQ_r4 (r := (fup (fup (fup r (125 + 3 * n1) (nI 1)) (126 + 3 * n1) (nI ix)) (127 + 3 * n1) (nI 0))) hR
                refine t_go (op := o_iinc 156 1 1) (fe_X12_evening 153) (fun _ _ => rfl) ?_
                rw [nI_1]
                exact hq _
      · exact absurd (by decide) c3
  · exact absurd rfl c1
set_option maxRecDepth 8000 in
theorem r_b21 {d : Nat} {h : AHP} {TK : Nat → Tk} {n i n1 : Nat} {r : Nat → Int32} {x2 : Option Value} (hR : RQ h TK n) (hi : i ≤ n) (hn0 : ¬ (TK i).1 = 0) (hi1 : i + 1 ≤ n) (h40 : n1 < 40) (hw : isWd TK 9 i 0) {m : Nat} (hm : h.1 183 16 = nI m) (hm7 : m ≤ 7) (hN : ¬ nmP TK (i + 1)) {Q : Option Value → AHP → Prop} (hq : ∀ x2, TT (d + 6) 187 156 [some (.ref 183), some (.int (nI (n1 + 1))), x2] [] (AT (rowI h 194 (r3F r n1 2 0 0)) (i + 1) (wrF TK 1 (i + 1) 0)) Q) : TT (d + 6) 187 11 [some (.ref 183), some (.int (nI n1)), x2] [] (AT (rowI h 194 r) i 0) Q := by
  have hR1 := RQ_r4 (r := r) hR
  have hR2 := hR1
  have hS := hR1.1
  have hB := hR.2.2.2.1
  have hn := hR.2.2.1
  refine t_go (op := o_aload 12 0) (fe_X12_evening 11) (fun _ _ => rfl) ?_
  refine t_go (op := o_getI 15 11 8) (fe_X12_evening 12) (g_getI hS (show (lay 183).1 = 11 by decide) (by decide)) ?_
  rw [show (AT (rowI h 194 r) i 0).1 183 8 = nI 0 from AT_8]
  refine t_ite (op := o_if 165 18 (fun x => x = 0) (fun _ => inferInstance)) (fe_X12_evening 15) g_if (fun c1 => ?_) (fun c1 => ?_)
  · refine t_go (op := o_aload 19 0) (fe_X12_evening 18) (fun _ _ => rfl) ?_
    refine t_go (op := o_getR 22 11 4) (fe_X12_evening 19) (g_getR hS (show (lay 183).1 = 11 by decide) (by decide) (fr_11_4 hS) (by decide)) ?_
    refine t_go (op := o_aload 23 0) (fe_X12_evening 22) (fun _ _ => rfl) ?_
    refine t_go (op := o_getI 26 11 7) (fe_X12_evening 23) (g_getI hS (show (lay 183).1 = 11 by decide) (by decide)) ?_
    rw [show (AT (rowI h 194 r) i 0).1 183 7 = nI i from AT_7]
    refine t_go (op := o_iald 27) (fe_X12_evening 26) (g_ialdN hS (show lay 185 = (20, 1002) by decide) rfl (by omega) (by decide)) ?_
    rw [show (AT (rowI h 194 r) i 0).1 185 i = nI (TK i).1 from (congrFun (AT_r (by decide)) i).trans (hR1.2.1 i hi).1]
    refine t_ite (op := o_if 30 165 (fun x => x = 0) (fun _ => inferInstance)) (fe_X12_evening 27) g_if (fun c2 => ?_) (fun c2 => ?_)
    · exact absurd ((nI_eq (b := 0) (by have := (hB i).1; omega) (by decide)).mp c2) hn0
    · refine t_go (op := o_aload 31 0) (fe_X12_evening 30) (fun _ _ => rfl) ?_
      refine t_go (op := o_ci 33 7) (fe_X12_evening 31) (fun _ _ => rfl) ?_
      refine t_go (op := o_ci 34 5) (fe_X12_evening 33) (fun _ _ => rfl) ?_
      refine t_call (op := o_callV 37 177 3 11) (fe_X12_evening 34) (g_callV hS (show (lay 183).1 = 11 by decide) (by decide) rfl rfl rfl (Nat.le_of_ble_eq_true rfl)) ?_
      refine M_eq (r_wordHere (h := rowI h 194 r) (b := 7) (cnt := 5) (f := 0) hR1 hi (by decide) (by decide)) ?_
      rw [show whV TK 7 i 0 5 = 2 from whV_at (q := 2) hw (by decide)]
      refine t_go (op := o_istore 38 2) (fe_X12_evening 37) (fun _ _ => rfl) ?_
      refine t_go (op := o_iload 39 2) (fe_X12_evening 38) (fun _ _ => rfl) ?_
      refine t_ite (op := o_if 42 50 (fun x => 0 ≤ x) (fun _ => inferInstance)) (fe_X12_evening 39) g_if (fun c3 => ?_) (fun c3 => ?_)
      · clear c3
        refine t_go (op := o_iload 51 1) (fe_X12_evening 50) (fun _ _ => rfl) ?_
        refine t_go (op := o_ci 53 40) (fe_X12_evening 51) (fun _ _ => rfl) ?_
        refine t_ite (op := o_icmp 64 56 (fun x y => x = y) (fun _ _ => inferInstance)) (fe_X12_evening 53) g_icmp (fun c4 => ?_) (fun c4 => ?_)
        · exact absurd ((nI_eq (b := 40) (by omega) (by decide)).mp c4) (by omega)
        · refine t_go (op := o_aload 65 0) (fe_X12_evening 64) (fun _ _ => rfl) ?_
          refine t_go (op := o_dupA 66) (fe_X12_evening 65) (fun _ _ => rfl) ?_
          refine t_go (op := o_getI 69 11 7) (fe_X12_evening 66) (g_getI hS (show (lay 183).1 = 11 by decide) (by decide)) ?_
          rw [show (AT (rowI h 194 r) i 0).1 183 7 = nI i from AT_7]
          refine t_go (op := o_ci 70 1) (fe_X12_evening 69) (fun _ _ => rfl) ?_
          refine t_go (op := o_i2 71 (fun x y => x + y)) (fe_X12_evening 70) (fun _ _ => rfl) ?_
          refine t_go (op := o_putI 74 11 7) (fe_X12_evening 71) (g_putI hS (show (lay 183).1 = 11 by decide) (by decide)) ?_
          refine T_heap ((congrArg (sI (AT (rowI h 194 r) i 0) 183 7) (show (fun x y : Int32 => x + y) (nI i) 1 = nI (i + 1) from nI_1 i)).trans AT_7s).symm ?_
          refine t_go (op := o_aload 75 0) (fe_X12_evening 74) (fun _ _ => rfl) ?_
          refine t_go (op := o_getR 78 11 19) (fe_X12_evening 75) (g_getR hS (show (lay 183).1 = 11 by decide) (by decide) (fr_11_19 hS) (by decide)) ?_
          refine t_go (op := o_ci 80 125) (fe_X12_evening 78) (fun _ _ => rfl) ?_
          refine t_go (op := o_ci 81 3) (fe_X12_evening 80) (fun _ _ => rfl) ?_
          refine t_go (op := o_iload 82 1) (fe_X12_evening 81) (fun _ _ => rfl) ?_
          refine t_go (op := o_i2 83 (fun x y => x * y)) (fe_X12_evening 82) (fun _ _ => rfl) ?_
          refine t_go (op := o_i2 84 (fun x y => x + y)) (fe_X12_evening 83) (fun _ _ => rfl) ?_
          refine t_go (op := o_iload 85 2) (fe_X12_evening 84) (fun _ _ => rfl) ?_
          refine t_go (op := o_iast 86) (fe_X12_evening 85) (g_iastN hS (show lay 194 = (20, 250) by decide) (nIa (nIl 125) (nIm (nIl 3) rfl)) (by omega) (by decide)) ?_
          refine T_heap (show AT (rowI h 194 (fup r (125 + 3 * n1) (nI 2))) (i + 1) 0 = sI (AT (rowI h 194 r) (i + 1) 0) 194 (125 + 3 * n1) (nI 2) from by rw [sI_AT (by decide), rowI_up]) ?_
          have hR125 := RQ_r4 (r := (fup r (125 + 3 * n1) (nI 2))) hR
          refine t_go (op := o_aload 87 0) (fe_X12_evening 86) (fun _ _ => rfl) ?_
          refine t_go (op := o_getR 90 11 19) (fe_X12_evening 87) (g_getR hS (show (lay 183).1 = 11 by decide) (by decide) (fr_11_19 hS) (by decide)) ?_
          refine t_go (op := o_ci 92 126) (fe_X12_evening 90) (fun _ _ => rfl) ?_
          refine t_go (op := o_ci 93 3) (fe_X12_evening 92) (fun _ _ => rfl) ?_
          refine t_go (op := o_iload 94 1) (fe_X12_evening 93) (fun _ _ => rfl) ?_
          refine t_go (op := o_i2 95 (fun x y => x * y)) (fe_X12_evening 94) (fun _ _ => rfl) ?_
          refine t_go (op := o_i2 96 (fun x y => x + y)) (fe_X12_evening 95) (fun _ _ => rfl) ?_
          refine t_go (op := o_iload 97 2) (fe_X12_evening 96) (fun _ _ => rfl) ?_
          refine t_go (op := o_ci 98 4) (fe_X12_evening 97) (fun _ _ => rfl) ?_
          refine t_go (op := o_i2d 99 (fun x y => x - x / y * y)) (fe_X12_evening 98) (g_i2d (by decide)) ?_
          refine t_ite (op := o_if 106 102 (fun x => x = 0) (fun _ => inferInstance)) (fe_X12_evening 99) g_if (fun c5 => ?_) (fun c5 => ?_)
          · exact absurd c5 (by decide)
          · refine t_go (op := o_aload 107 0) (fe_X12_evening 106) (fun _ _ => rfl) ?_
            refine t_call (op := o_callV 110 181 1 11) (fe_X12_evening 107) (g_callV hS (show (lay 183).1 = 11 by decide) (by decide) rfl rfl rfl (Nat.le_of_ble_eq_true rfl)) ?_
            refine M_eq (r_tT1 (h := rowI h 194 (fup r (125 + 3 * n1) (nI 2))) hR125 hi1 (show (rowI h 194 (fup r (125 + 3 * n1) (nI 2))).1 183 16 = nI m from (congrFun (rowI_ne (by decide)) 16).trans hm) hm7 hN) ?_
            refine t_go (op := o_iast 111) (fe_X12_evening 110) (g_iastN hS (show lay 194 = (20, 250) by decide) (nIa (nIl 126) (nIm (nIl 3) rfl)) (by omega) (by decide)) ?_
            refine T_heap (show AT (rowI h 194 (fup (fup r (125 + 3 * n1) (nI 2)) (126 + 3 * n1) (nI 0))) (i + 1) (wrF TK 1 (i + 1) 0) = sI (AT (rowI h 194 (fup r (125 + 3 * n1) (nI 2))) (i + 1) (wrF TK 1 (i + 1) 0)) 194 (126 + 3 * n1) (nI 0) from by rw [sI_AT (by decide), rowI_up]) ?_
            have hR126 := RQ_r4 (r := (fup (fup r (125 + 3 * n1) (nI 2)) (126 + 3 * n1) (nI 0))) hR
            refine t_go (op := o_aload 112 0) (fe_X12_evening 111) (fun _ _ => rfl) ?_
            refine t_go (op := o_getR 115 11 19) (fe_X12_evening 112) (g_getR hS (show (lay 183).1 = 11 by decide) (by decide) (fr_11_19 hS) (by decide)) ?_
            refine t_go (op := o_ci 117 127) (fe_X12_evening 115) (fun _ _ => rfl) ?_
            refine t_go (op := o_ci 118 3) (fe_X12_evening 117) (fun _ _ => rfl) ?_
            refine t_go (op := o_iload 119 1) (fe_X12_evening 118) (fun _ _ => rfl) ?_
            refine t_go (op := o_i2 120 (fun x y => x * y)) (fe_X12_evening 119) (fun _ _ => rfl) ?_
            refine t_go (op := o_i2 121 (fun x y => x + y)) (fe_X12_evening 120) (fun _ _ => rfl) ?_
            refine t_go (op := o_iload 122 2) (fe_X12_evening 121) (fun _ _ => rfl) ?_
            refine t_go (op := o_ci 123 2) (fe_X12_evening 122) (fun _ _ => rfl) ?_
            refine t_ite (op := o_icmp 136 126 (fun x y => x = y) (fun _ _ => inferInstance)) (fe_X12_evening 123) g_icmp (fun c6 => ?_) (fun c6 => ?_)
            · clear c6
              refine t_go (op := o_aload 127 0) (fe_X12_evening 126) (fun _ _ => rfl) ?_
              refine t_go (op := o_ci 128 0) (fe_X12_evening 127) (fun _ _ => rfl) ?_
              refine t_go (op := o_ci 130 11) (fe_X12_evening 128) (fun _ _ => rfl) ?_
              refine t_call (op := o_callV 133 175 3 11) (fe_X12_evening 130) (g_callV hS (show (lay 183).1 = 11 by decide) (by decide) rfl rfl rfl (Nat.le_of_ble_eq_true rfl)) ?_
              refine M_eq (r_takeNumberF (lo := 0) (hi2 := 11) hR126 hi1 (wr0_b hB (by decide)) (wrF_p (by decide)) (by decide) (by decide)) ?_
              refine t_go (op := o_goto 152) (fe_X12_evening 133) (fun _ _ => rfl) ?_
              refine t_go (op := o_iast 153) (fe_X12_evening 152) (g_iastN hS (show lay 194 = (20, 250) by decide) (nIa (nIl 127) (nIm (nIl 3) rfl)) (by omega) (by decide)) ?_
              refine T_heap (show AT (rowI h 194 (fup (fup (fup r (125 + 3 * n1) (nI 2)) (126 + 3 * n1) (nI 0)) (127 + 3 * n1) (nI 0))) (i + 1) (wrF TK 1 (i + 1) 0) = sI (AT (rowI h 194 (fup (fup r (125 + 3 * n1) (nI 2)) (126 + 3 * n1) (nI 0))) (i + 1) (wrF TK 1 (i + 1) 0)) 194 (127 + 3 * n1) (nI 0) from by rw [sI_AT (by decide), rowI_up]) ?_
              have hR127 := RQ_r4 (r := (fup (fup (fup r (125 + 3 * n1) (nI 2)) (126 + 3 * n1) (nI 0)) (127 + 3 * n1) (nI 0))) hR
              refine t_go (op := o_iinc 156 1 1) (fe_X12_evening 153) (fun _ _ => rfl) ?_
              rw [nI_1]
              exact hq _
            · exact absurd (by decide) c6
      · exact absurd (by decide) c3
  · exact absurd rfl c1
set_option maxRecDepth 8000 in
theorem r_b22 {d : Nat} {h : AHP} {TK : Nat → Tk} {n i n1 : Nat} {r : Nat → Int32} {x2 : Option Value} (hR : RQ h TK n) (hi : i ≤ n) (hn0 : ¬ (TK i).1 = 0) (hi1 : i + 1 ≤ n) (h40 : n1 < 40) (hw : isWd TK 9 i 0) {m : Nat} (hm : h.1 183 16 = nI m) (hm7 : m ≤ 7) (hN : nmP TK (i + 1)) (hu : ¬ (∃ k, k < m ∧ h.2.1 192 k = h.2.1 187 (i + 1))) {Q : Option Value → AHP → Prop} (hq : ∀ x2, TT (d + 6) 187 156 [some (.ref 183), some (.int (nI (n1 + 1))), x2] [] (AT (rowI h 194 (r3F r n1 2 0 0)) (i + 1) (wrF TK 2 (i + 1) 0)) Q) : TT (d + 6) 187 11 [some (.ref 183), some (.int (nI n1)), x2] [] (AT (rowI h 194 r) i 0) Q := by
  have hR1 := RQ_r4 (r := r) hR
  have hR2 := hR1
  have hS := hR1.1
  have hB := hR.2.2.2.1
  have hn := hR.2.2.1
  refine t_go (op := o_aload 12 0) (fe_X12_evening 11) (fun _ _ => rfl) ?_
  refine t_go (op := o_getI 15 11 8) (fe_X12_evening 12) (g_getI hS (show (lay 183).1 = 11 by decide) (by decide)) ?_
  rw [show (AT (rowI h 194 r) i 0).1 183 8 = nI 0 from AT_8]
  refine t_ite (op := o_if 165 18 (fun x => x = 0) (fun _ => inferInstance)) (fe_X12_evening 15) g_if (fun c1 => ?_) (fun c1 => ?_)
  · refine t_go (op := o_aload 19 0) (fe_X12_evening 18) (fun _ _ => rfl) ?_
    refine t_go (op := o_getR 22 11 4) (fe_X12_evening 19) (g_getR hS (show (lay 183).1 = 11 by decide) (by decide) (fr_11_4 hS) (by decide)) ?_
    refine t_go (op := o_aload 23 0) (fe_X12_evening 22) (fun _ _ => rfl) ?_
    refine t_go (op := o_getI 26 11 7) (fe_X12_evening 23) (g_getI hS (show (lay 183).1 = 11 by decide) (by decide)) ?_
    rw [show (AT (rowI h 194 r) i 0).1 183 7 = nI i from AT_7]
    refine t_go (op := o_iald 27) (fe_X12_evening 26) (g_ialdN hS (show lay 185 = (20, 1002) by decide) rfl (by omega) (by decide)) ?_
    rw [show (AT (rowI h 194 r) i 0).1 185 i = nI (TK i).1 from (congrFun (AT_r (by decide)) i).trans (hR1.2.1 i hi).1]
    refine t_ite (op := o_if 30 165 (fun x => x = 0) (fun _ => inferInstance)) (fe_X12_evening 27) g_if (fun c2 => ?_) (fun c2 => ?_)
    · exact absurd ((nI_eq (b := 0) (by have := (hB i).1; omega) (by decide)).mp c2) hn0
    · refine t_go (op := o_aload 31 0) (fe_X12_evening 30) (fun _ _ => rfl) ?_
      refine t_go (op := o_ci 33 7) (fe_X12_evening 31) (fun _ _ => rfl) ?_
      refine t_go (op := o_ci 34 5) (fe_X12_evening 33) (fun _ _ => rfl) ?_
      refine t_call (op := o_callV 37 177 3 11) (fe_X12_evening 34) (g_callV hS (show (lay 183).1 = 11 by decide) (by decide) rfl rfl rfl (Nat.le_of_ble_eq_true rfl)) ?_
      refine M_eq (r_wordHere (h := rowI h 194 r) (b := 7) (cnt := 5) (f := 0) hR1 hi (by decide) (by decide)) ?_
      rw [show whV TK 7 i 0 5 = 2 from whV_at (q := 2) hw (by decide)]
      refine t_go (op := o_istore 38 2) (fe_X12_evening 37) (fun _ _ => rfl) ?_
      refine t_go (op := o_iload 39 2) (fe_X12_evening 38) (fun _ _ => rfl) ?_
      refine t_ite (op := o_if 42 50 (fun x => 0 ≤ x) (fun _ => inferInstance)) (fe_X12_evening 39) g_if (fun c3 => ?_) (fun c3 => ?_)
      · clear c3
        refine t_go (op := o_iload 51 1) (fe_X12_evening 50) (fun _ _ => rfl) ?_
        refine t_go (op := o_ci 53 40) (fe_X12_evening 51) (fun _ _ => rfl) ?_
        refine t_ite (op := o_icmp 64 56 (fun x y => x = y) (fun _ _ => inferInstance)) (fe_X12_evening 53) g_icmp (fun c4 => ?_) (fun c4 => ?_)
        · exact absurd ((nI_eq (b := 40) (by omega) (by decide)).mp c4) (by omega)
        · refine t_go (op := o_aload 65 0) (fe_X12_evening 64) (fun _ _ => rfl) ?_
          refine t_go (op := o_dupA 66) (fe_X12_evening 65) (fun _ _ => rfl) ?_
          refine t_go (op := o_getI 69 11 7) (fe_X12_evening 66) (g_getI hS (show (lay 183).1 = 11 by decide) (by decide)) ?_
          rw [show (AT (rowI h 194 r) i 0).1 183 7 = nI i from AT_7]
          refine t_go (op := o_ci 70 1) (fe_X12_evening 69) (fun _ _ => rfl) ?_
          refine t_go (op := o_i2 71 (fun x y => x + y)) (fe_X12_evening 70) (fun _ _ => rfl) ?_
          refine t_go (op := o_putI 74 11 7) (fe_X12_evening 71) (g_putI hS (show (lay 183).1 = 11 by decide) (by decide)) ?_
          refine T_heap ((congrArg (sI (AT (rowI h 194 r) i 0) 183 7) (show (fun x y : Int32 => x + y) (nI i) 1 = nI (i + 1) from nI_1 i)).trans AT_7s).symm ?_
          refine t_go (op := o_aload 75 0) (fe_X12_evening 74) (fun _ _ => rfl) ?_
          refine t_go (op := o_getR 78 11 19) (fe_X12_evening 75) (g_getR hS (show (lay 183).1 = 11 by decide) (by decide) (fr_11_19 hS) (by decide)) ?_
          refine t_go (op := o_ci 80 125) (fe_X12_evening 78) (fun _ _ => rfl) ?_
          refine t_go (op := o_ci 81 3) (fe_X12_evening 80) (fun _ _ => rfl) ?_
          refine t_go (op := o_iload 82 1) (fe_X12_evening 81) (fun _ _ => rfl) ?_
          refine t_go (op := o_i2 83 (fun x y => x * y)) (fe_X12_evening 82) (fun _ _ => rfl) ?_
          refine t_go (op := o_i2 84 (fun x y => x + y)) (fe_X12_evening 83) (fun _ _ => rfl) ?_
          refine t_go (op := o_iload 85 2) (fe_X12_evening 84) (fun _ _ => rfl) ?_
          refine t_go (op := o_iast 86) (fe_X12_evening 85) (g_iastN hS (show lay 194 = (20, 250) by decide) (nIa (nIl 125) (nIm (nIl 3) rfl)) (by omega) (by decide)) ?_
          refine T_heap (show AT (rowI h 194 (fup r (125 + 3 * n1) (nI 2))) (i + 1) 0 = sI (AT (rowI h 194 r) (i + 1) 0) 194 (125 + 3 * n1) (nI 2) from by rw [sI_AT (by decide), rowI_up]) ?_
          have hR125 := RQ_r4 (r := (fup r (125 + 3 * n1) (nI 2))) hR
          refine t_go (op := o_aload 87 0) (fe_X12_evening 86) (fun _ _ => rfl) ?_
          refine t_go (op := o_getR 90 11 19) (fe_X12_evening 87) (g_getR hS (show (lay 183).1 = 11 by decide) (by decide) (fr_11_19 hS) (by decide)) ?_
          refine t_go (op := o_ci 92 126) (fe_X12_evening 90) (fun _ _ => rfl) ?_
          refine t_go (op := o_ci 93 3) (fe_X12_evening 92) (fun _ _ => rfl) ?_
          refine t_go (op := o_iload 94 1) (fe_X12_evening 93) (fun _ _ => rfl) ?_
          refine t_go (op := o_i2 95 (fun x y => x * y)) (fe_X12_evening 94) (fun _ _ => rfl) ?_
          refine t_go (op := o_i2 96 (fun x y => x + y)) (fe_X12_evening 95) (fun _ _ => rfl) ?_
          refine t_go (op := o_iload 97 2) (fe_X12_evening 96) (fun _ _ => rfl) ?_
          refine t_go (op := o_ci 98 4) (fe_X12_evening 97) (fun _ _ => rfl) ?_
          refine t_go (op := o_i2d 99 (fun x y => x - x / y * y)) (fe_X12_evening 98) (g_i2d (by decide)) ?_
          refine t_ite (op := o_if 106 102 (fun x => x = 0) (fun _ => inferInstance)) (fe_X12_evening 99) g_if (fun c5 => ?_) (fun c5 => ?_)
          · exact absurd c5 (by decide)
          · refine t_go (op := o_aload 107 0) (fe_X12_evening 106) (fun _ _ => rfl) ?_
            refine t_call (op := o_callV 110 181 1 11) (fe_X12_evening 107) (g_callV hS (show (lay 183).1 = 11 by decide) (by decide) rfl rfl rfl (Nat.le_of_ble_eq_true rfl)) ?_
            refine M_eq (r_tT2 (h := rowI h 194 (fup r (125 + 3 * n1) (nI 2))) hR125 hi1 (show (rowI h 194 (fup r (125 + 3 * n1) (nI 2))).1 183 16 = nI m from (congrFun (rowI_ne (by decide)) 16).trans hm) hm7 hN hu) ?_
            refine t_go (op := o_iast 111) (fe_X12_evening 110) (g_iastN hS (show lay 194 = (20, 250) by decide) (nIa (nIl 126) (nIm (nIl 3) rfl)) (by omega) (by decide)) ?_
            refine T_heap (show AT (rowI h 194 (fup (fup r (125 + 3 * n1) (nI 2)) (126 + 3 * n1) (nI 0))) (i + 1) (wrF TK 2 (i + 1) 0) = sI (AT (rowI h 194 (fup r (125 + 3 * n1) (nI 2))) (i + 1) (wrF TK 2 (i + 1) 0)) 194 (126 + 3 * n1) (nI 0) from by rw [sI_AT (by decide), rowI_up]) ?_
            have hR126 := RQ_r4 (r := (fup (fup r (125 + 3 * n1) (nI 2)) (126 + 3 * n1) (nI 0))) hR
            refine t_go (op := o_aload 112 0) (fe_X12_evening 111) (fun _ _ => rfl) ?_
            refine t_go (op := o_getR 115 11 19) (fe_X12_evening 112) (g_getR hS (show (lay 183).1 = 11 by decide) (by decide) (fr_11_19 hS) (by decide)) ?_
            refine t_go (op := o_ci 117 127) (fe_X12_evening 115) (fun _ _ => rfl) ?_
            refine t_go (op := o_ci 118 3) (fe_X12_evening 117) (fun _ _ => rfl) ?_
            refine t_go (op := o_iload 119 1) (fe_X12_evening 118) (fun _ _ => rfl) ?_
            refine t_go (op := o_i2 120 (fun x y => x * y)) (fe_X12_evening 119) (fun _ _ => rfl) ?_
            refine t_go (op := o_i2 121 (fun x y => x + y)) (fe_X12_evening 120) (fun _ _ => rfl) ?_
            refine t_go (op := o_iload 122 2) (fe_X12_evening 121) (fun _ _ => rfl) ?_
            refine t_go (op := o_ci 123 2) (fe_X12_evening 122) (fun _ _ => rfl) ?_
            refine t_ite (op := o_icmp 136 126 (fun x y => x = y) (fun _ _ => inferInstance)) (fe_X12_evening 123) g_icmp (fun c6 => ?_) (fun c6 => ?_)
            · clear c6
              refine t_go (op := o_aload 127 0) (fe_X12_evening 126) (fun _ _ => rfl) ?_
              refine t_go (op := o_ci 128 0) (fe_X12_evening 127) (fun _ _ => rfl) ?_
              refine t_go (op := o_ci 130 11) (fe_X12_evening 128) (fun _ _ => rfl) ?_
              refine t_call (op := o_callV 133 175 3 11) (fe_X12_evening 130) (g_callV hS (show (lay 183).1 = 11 by decide) (by decide) rfl rfl rfl (Nat.le_of_ble_eq_true rfl)) ?_
              refine M_eq (r_takeNumberF (lo := 0) (hi2 := 11) hR126 hi1 (wr0_b hB (by decide)) (wrF_p (by decide)) (by decide) (by decide)) ?_
              refine t_go (op := o_goto 152) (fe_X12_evening 133) (fun _ _ => rfl) ?_
              refine t_go (op := o_iast 153) (fe_X12_evening 152) (g_iastN hS (show lay 194 = (20, 250) by decide) (nIa (nIl 127) (nIm (nIl 3) rfl)) (by omega) (by decide)) ?_
              refine T_heap (show AT (rowI h 194 (fup (fup (fup r (125 + 3 * n1) (nI 2)) (126 + 3 * n1) (nI 0)) (127 + 3 * n1) (nI 0))) (i + 1) (wrF TK 2 (i + 1) 0) = sI (AT (rowI h 194 (fup (fup r (125 + 3 * n1) (nI 2)) (126 + 3 * n1) (nI 0))) (i + 1) (wrF TK 2 (i + 1) 0)) 194 (127 + 3 * n1) (nI 0) from by rw [sI_AT (by decide), rowI_up]) ?_
              have hR127 := RQ_r4 (r := (fup (fup (fup r (125 + 3 * n1) (nI 2)) (126 + 3 * n1) (nI 0)) (127 + 3 * n1) (nI 0))) hR
              refine t_go (op := o_iinc 156 1 1) (fe_X12_evening 153) (fun _ _ => rfl) ?_
              rw [nI_1]
              exact hq _
            · exact absurd (by decide) c6
      · exact absurd (by decide) c3
  · exact absurd rfl c1
set_option maxRecDepth 8000 in
theorem r_b2N {d : Nat} {h : AHP} {TK : Nat → Tk} {n i n1 : Nat} {r : Nat → Int32} {x2 : Option Value} (hR : RQ h TK n) (hi : i ≤ n) (hn0 : ¬ (TK i).1 = 0) (hi1 : i + 1 ≤ n) (h40 : n1 < 40) (hw : isWd TK 9 i 0) {m : Nat} (hm : h.1 183 16 = nI m) (hm7 : m ≤ 7) {ix : Nat} (hN : nmP TK (i + 1)) (hixm : ix < m) (hixk : h.2.1 192 ix = h.2.1 187 (i + 1)) (hix : ∀ a, FIp (fun k => h.2.1 192 k = h.2.1 187 (i + 1)) m a → a = nI ix) (hi2 : i + 2 ≤ n) (hNu : ¬ nuP TK 0 11 (i + 2) 0) {Q : Option Value → AHP → Prop} (hq : ∀ x2, TT (d + 6) 187 156 [some (.ref 183), some (.int (nI (n1 + 1))), x2] [] (AT (rowI h 194 (r3F r n1 2 ix 0)) (i + 2) (wrF TK (nmF TK (i + 2)) (i + 2) 0)) Q) : TT (d + 6) 187 11 [some (.ref 183), some (.int (nI n1)), x2] [] (AT (rowI h 194 r) i 0) Q := by
  have hR1 := RQ_r4 (r := r) hR
  have hR2 := hR1
  have hS := hR1.1
  have hB := hR.2.2.2.1
  have hn := hR.2.2.1
  refine t_go (op := o_aload 12 0) (fe_X12_evening 11) (fun _ _ => rfl) ?_
  refine t_go (op := o_getI 15 11 8) (fe_X12_evening 12) (g_getI hS (show (lay 183).1 = 11 by decide) (by decide)) ?_
  rw [show (AT (rowI h 194 r) i 0).1 183 8 = nI 0 from AT_8]
  refine t_ite (op := o_if 165 18 (fun x => x = 0) (fun _ => inferInstance)) (fe_X12_evening 15) g_if (fun c1 => ?_) (fun c1 => ?_)
  · refine t_go (op := o_aload 19 0) (fe_X12_evening 18) (fun _ _ => rfl) ?_
    refine t_go (op := o_getR 22 11 4) (fe_X12_evening 19) (g_getR hS (show (lay 183).1 = 11 by decide) (by decide) (fr_11_4 hS) (by decide)) ?_
    refine t_go (op := o_aload 23 0) (fe_X12_evening 22) (fun _ _ => rfl) ?_
    refine t_go (op := o_getI 26 11 7) (fe_X12_evening 23) (g_getI hS (show (lay 183).1 = 11 by decide) (by decide)) ?_
    rw [show (AT (rowI h 194 r) i 0).1 183 7 = nI i from AT_7]
    refine t_go (op := o_iald 27) (fe_X12_evening 26) (g_ialdN hS (show lay 185 = (20, 1002) by decide) rfl (by omega) (by decide)) ?_
    rw [show (AT (rowI h 194 r) i 0).1 185 i = nI (TK i).1 from (congrFun (AT_r (by decide)) i).trans (hR1.2.1 i hi).1]
    refine t_ite (op := o_if 30 165 (fun x => x = 0) (fun _ => inferInstance)) (fe_X12_evening 27) g_if (fun c2 => ?_) (fun c2 => ?_)
    · exact absurd ((nI_eq (b := 0) (by have := (hB i).1; omega) (by decide)).mp c2) hn0
    · refine t_go (op := o_aload 31 0) (fe_X12_evening 30) (fun _ _ => rfl) ?_
      refine t_go (op := o_ci 33 7) (fe_X12_evening 31) (fun _ _ => rfl) ?_
      refine t_go (op := o_ci 34 5) (fe_X12_evening 33) (fun _ _ => rfl) ?_
      refine t_call (op := o_callV 37 177 3 11) (fe_X12_evening 34) (g_callV hS (show (lay 183).1 = 11 by decide) (by decide) rfl rfl rfl (Nat.le_of_ble_eq_true rfl)) ?_
      refine M_eq (r_wordHere (h := rowI h 194 r) (b := 7) (cnt := 5) (f := 0) hR1 hi (by decide) (by decide)) ?_
      rw [show whV TK 7 i 0 5 = 2 from whV_at (q := 2) hw (by decide)]
      refine t_go (op := o_istore 38 2) (fe_X12_evening 37) (fun _ _ => rfl) ?_
      refine t_go (op := o_iload 39 2) (fe_X12_evening 38) (fun _ _ => rfl) ?_
      refine t_ite (op := o_if 42 50 (fun x => 0 ≤ x) (fun _ => inferInstance)) (fe_X12_evening 39) g_if (fun c3 => ?_) (fun c3 => ?_)
      · clear c3
        refine t_go (op := o_iload 51 1) (fe_X12_evening 50) (fun _ _ => rfl) ?_
        refine t_go (op := o_ci 53 40) (fe_X12_evening 51) (fun _ _ => rfl) ?_
        refine t_ite (op := o_icmp 64 56 (fun x y => x = y) (fun _ _ => inferInstance)) (fe_X12_evening 53) g_icmp (fun c4 => ?_) (fun c4 => ?_)
        · exact absurd ((nI_eq (b := 40) (by omega) (by decide)).mp c4) (by omega)
        · refine t_go (op := o_aload 65 0) (fe_X12_evening 64) (fun _ _ => rfl) ?_
          refine t_go (op := o_dupA 66) (fe_X12_evening 65) (fun _ _ => rfl) ?_
          refine t_go (op := o_getI 69 11 7) (fe_X12_evening 66) (g_getI hS (show (lay 183).1 = 11 by decide) (by decide)) ?_
          rw [show (AT (rowI h 194 r) i 0).1 183 7 = nI i from AT_7]
          refine t_go (op := o_ci 70 1) (fe_X12_evening 69) (fun _ _ => rfl) ?_
          refine t_go (op := o_i2 71 (fun x y => x + y)) (fe_X12_evening 70) (fun _ _ => rfl) ?_
          refine t_go (op := o_putI 74 11 7) (fe_X12_evening 71) (g_putI hS (show (lay 183).1 = 11 by decide) (by decide)) ?_
          refine T_heap ((congrArg (sI (AT (rowI h 194 r) i 0) 183 7) (show (fun x y : Int32 => x + y) (nI i) 1 = nI (i + 1) from nI_1 i)).trans AT_7s).symm ?_
          refine t_go (op := o_aload 75 0) (fe_X12_evening 74) (fun _ _ => rfl) ?_
          refine t_go (op := o_getR 78 11 19) (fe_X12_evening 75) (g_getR hS (show (lay 183).1 = 11 by decide) (by decide) (fr_11_19 hS) (by decide)) ?_
          refine t_go (op := o_ci 80 125) (fe_X12_evening 78) (fun _ _ => rfl) ?_
          refine t_go (op := o_ci 81 3) (fe_X12_evening 80) (fun _ _ => rfl) ?_
          refine t_go (op := o_iload 82 1) (fe_X12_evening 81) (fun _ _ => rfl) ?_
          refine t_go (op := o_i2 83 (fun x y => x * y)) (fe_X12_evening 82) (fun _ _ => rfl) ?_
          refine t_go (op := o_i2 84 (fun x y => x + y)) (fe_X12_evening 83) (fun _ _ => rfl) ?_
          refine t_go (op := o_iload 85 2) (fe_X12_evening 84) (fun _ _ => rfl) ?_
          refine t_go (op := o_iast 86) (fe_X12_evening 85) (g_iastN hS (show lay 194 = (20, 250) by decide) (nIa (nIl 125) (nIm (nIl 3) rfl)) (by omega) (by decide)) ?_
          refine T_heap (show AT (rowI h 194 (fup r (125 + 3 * n1) (nI 2))) (i + 1) 0 = sI (AT (rowI h 194 r) (i + 1) 0) 194 (125 + 3 * n1) (nI 2) from by rw [sI_AT (by decide), rowI_up]) ?_
          have hR125 := RQ_r4 (r := (fup r (125 + 3 * n1) (nI 2))) hR
          refine t_go (op := o_aload 87 0) (fe_X12_evening 86) (fun _ _ => rfl) ?_
          refine t_go (op := o_getR 90 11 19) (fe_X12_evening 87) (g_getR hS (show (lay 183).1 = 11 by decide) (by decide) (fr_11_19 hS) (by decide)) ?_
          refine t_go (op := o_ci 92 126) (fe_X12_evening 90) (fun _ _ => rfl) ?_
          refine t_go (op := o_ci 93 3) (fe_X12_evening 92) (fun _ _ => rfl) ?_
          refine t_go (op := o_iload 94 1) (fe_X12_evening 93) (fun _ _ => rfl) ?_
          refine t_go (op := o_i2 95 (fun x y => x * y)) (fe_X12_evening 94) (fun _ _ => rfl) ?_
          refine t_go (op := o_i2 96 (fun x y => x + y)) (fe_X12_evening 95) (fun _ _ => rfl) ?_
          refine t_go (op := o_iload 97 2) (fe_X12_evening 96) (fun _ _ => rfl) ?_
          refine t_go (op := o_ci 98 4) (fe_X12_evening 97) (fun _ _ => rfl) ?_
          refine t_go (op := o_i2d 99 (fun x y => x - x / y * y)) (fe_X12_evening 98) (g_i2d (by decide)) ?_
          refine t_ite (op := o_if 106 102 (fun x => x = 0) (fun _ => inferInstance)) (fe_X12_evening 99) g_if (fun c5 => ?_) (fun c5 => ?_)
          · exact absurd c5 (by decide)
          · refine t_go (op := o_aload 107 0) (fe_X12_evening 106) (fun _ _ => rfl) ?_
            refine t_call (op := o_callV 110 181 1 11) (fe_X12_evening 107) (g_callV hS (show (lay 183).1 = 11 by decide) (by decide) rfl rfl rfl (Nat.le_of_ble_eq_true rfl)) ?_
            refine M_mono ?_ (r_tTY (h := rowI h 194 (fup r (125 + 3 * n1) (nI 2))) hR125 hi1 (show (rowI h 194 (fup r (125 + 3 * n1) (nI 2))).1 183 16 = nI m from (congrFun (rowI_ne (by decide)) 16).trans hm) hm7 hN ⟨_, hixm, hixk⟩)
            rintro _ _ ⟨⟨a8, rfl, hF8⟩, rfl⟩
            rw [show a8 = nI ix from hix a8 hF8]
            refine t_go (op := o_iast 111) (fe_X12_evening 110) (g_iastN hS (show lay 194 = (20, 250) by decide) (nIa (nIl 126) (nIm (nIl 3) rfl)) (by omega) (by decide)) ?_
            refine T_heap (show AT (rowI h 194 (fup (fup r (125 + 3 * n1) (nI 2)) (126 + 3 * n1) (nI ix))) (i + 2) 0 = sI (AT (rowI h 194 (fup r (125 + 3 * n1) (nI 2))) (i + 2) 0) 194 (126 + 3 * n1) (nI ix) from by rw [sI_AT (by decide), rowI_up]) ?_
            have hR126 := RQ_r4 (r := (fup (fup r (125 + 3 * n1) (nI 2)) (126 + 3 * n1) (nI ix))) hR
            refine t_go (op := o_aload 112 0) (fe_X12_evening 111) (fun _ _ => rfl) ?_
            refine t_go (op := o_getR 115 11 19) (fe_X12_evening 112) (g_getR hS (show (lay 183).1 = 11 by decide) (by decide) (fr_11_19 hS) (by decide)) ?_
            refine t_go (op := o_ci 117 127) (fe_X12_evening 115) (fun _ _ => rfl) ?_
            refine t_go (op := o_ci 118 3) (fe_X12_evening 117) (fun _ _ => rfl) ?_
            refine t_go (op := o_iload 119 1) (fe_X12_evening 118) (fun _ _ => rfl) ?_
            refine t_go (op := o_i2 120 (fun x y => x * y)) (fe_X12_evening 119) (fun _ _ => rfl) ?_
            refine t_go (op := o_i2 121 (fun x y => x + y)) (fe_X12_evening 120) (fun _ _ => rfl) ?_
            refine t_go (op := o_iload 122 2) (fe_X12_evening 121) (fun _ _ => rfl) ?_
            refine t_go (op := o_ci 123 2) (fe_X12_evening 122) (fun _ _ => rfl) ?_
            refine t_ite (op := o_icmp 136 126 (fun x y => x = y) (fun _ _ => inferInstance)) (fe_X12_evening 123) g_icmp (fun c6 => ?_) (fun c6 => ?_)
            · clear c6
              refine t_go (op := o_aload 127 0) (fe_X12_evening 126) (fun _ _ => rfl) ?_
              refine t_go (op := o_ci 128 0) (fe_X12_evening 127) (fun _ _ => rfl) ?_
              refine t_go (op := o_ci 130 11) (fe_X12_evening 128) (fun _ _ => rfl) ?_
              refine t_call (op := o_callV 133 175 3 11) (fe_X12_evening 130) (g_callV hS (show (lay 183).1 = 11 by decide) (by decide) rfl rfl rfl (Nat.le_of_ble_eq_true rfl)) ?_
              refine M_eq (r_takeNumberN (lo := 0) (hi2 := 11) hR126 hi2 (by decide) (by decide) hNu) ?_
              refine t_go (op := o_goto 152) (fe_X12_evening 133) (fun _ _ => rfl) ?_
              refine t_go (op := o_iast 153) (fe_X12_evening 152) (g_iastN hS (show lay 194 = (20, 250) by decide) (nIa (nIl 127) (nIm (nIl 3) rfl)) (by omega) (by decide)) ?_
              refine T_heap (show AT (rowI h 194 (fup (fup (fup r (125 + 3 * n1) (nI 2)) (126 + 3 * n1) (nI ix)) (127 + 3 * n1) (nI 0))) (i + 2) (wrF TK (nmF TK (i + 2)) (i + 2) 0) = sI (AT (rowI h 194 (fup (fup r (125 + 3 * n1) (nI 2)) (126 + 3 * n1) (nI ix))) (i + 2) (wrF TK (nmF TK (i + 2)) (i + 2) 0)) 194 (127 + 3 * n1) (nI 0) from by rw [sI_AT (by decide), rowI_up]) ?_
              have hR127 := RQ_r4 (r := (fup (fup (fup r (125 + 3 * n1) (nI 2)) (126 + 3 * n1) (nI ix)) (127 + 3 * n1) (nI 0))) hR
              refine t_go (op := o_iinc 156 1 1) (fe_X12_evening 153) (fun _ _ => rfl) ?_
              rw [nI_1]
              exact hq _
            · exact absurd (by decide) c6
      · exact absurd (by decide) c3
  · exact absurd rfl c1
set_option maxRecDepth 8000 in
theorem r_b2Y {d : Nat} {h : AHP} {TK : Nat → Tk} {n i n1 : Nat} {r : Nat → Int32} {x2 : Option Value} (hR : RQ h TK n) (hi : i ≤ n) (hn0 : ¬ (TK i).1 = 0) (hi1 : i + 1 ≤ n) (h40 : n1 < 40) (hw : isWd TK 9 i 0) {m : Nat} (hm : h.1 183 16 = nI m) (hm7 : m ≤ 7) {ix : Nat} (hN : nmP TK (i + 1)) (hixm : ix < m) (hixk : h.2.1 192 ix = h.2.1 187 (i + 1)) (hix : ∀ a, FIp (fun k => h.2.1 192 k = h.2.1 187 (i + 1)) m a → a = nI ix) (hi2 : i + 2 ≤ n) (hNu : nuP TK 0 11 (i + 2) 0) {Q : Option Value → AHP → Prop} (hq : ∀ x2, TT (d + 6) 187 156 [some (.ref 183), some (.int (nI (n1 + 1))), x2] [] (AT (rowI h 194 (r3F r n1 2 ix (TK (i + 2)).2.2.1)) (i + 3) 0) Q) : TT (d + 6) 187 11 [some (.ref 183), some (.int (nI n1)), x2] [] (AT (rowI h 194 r) i 0) Q := by
  have hR1 := RQ_r4 (r := r) hR
  have hR2 := hR1
  have hS := hR1.1
  have hB := hR.2.2.2.1
  have hn := hR.2.2.1
  refine t_go (op := o_aload 12 0) (fe_X12_evening 11) (fun _ _ => rfl) ?_
  refine t_go (op := o_getI 15 11 8) (fe_X12_evening 12) (g_getI hS (show (lay 183).1 = 11 by decide) (by decide)) ?_
  rw [show (AT (rowI h 194 r) i 0).1 183 8 = nI 0 from AT_8]
  refine t_ite (op := o_if 165 18 (fun x => x = 0) (fun _ => inferInstance)) (fe_X12_evening 15) g_if (fun c1 => ?_) (fun c1 => ?_)
  · refine t_go (op := o_aload 19 0) (fe_X12_evening 18) (fun _ _ => rfl) ?_
    refine t_go (op := o_getR 22 11 4) (fe_X12_evening 19) (g_getR hS (show (lay 183).1 = 11 by decide) (by decide) (fr_11_4 hS) (by decide)) ?_
    refine t_go (op := o_aload 23 0) (fe_X12_evening 22) (fun _ _ => rfl) ?_
    refine t_go (op := o_getI 26 11 7) (fe_X12_evening 23) (g_getI hS (show (lay 183).1 = 11 by decide) (by decide)) ?_
    rw [show (AT (rowI h 194 r) i 0).1 183 7 = nI i from AT_7]
    refine t_go (op := o_iald 27) (fe_X12_evening 26) (g_ialdN hS (show lay 185 = (20, 1002) by decide) rfl (by omega) (by decide)) ?_
    rw [show (AT (rowI h 194 r) i 0).1 185 i = nI (TK i).1 from (congrFun (AT_r (by decide)) i).trans (hR1.2.1 i hi).1]
    refine t_ite (op := o_if 30 165 (fun x => x = 0) (fun _ => inferInstance)) (fe_X12_evening 27) g_if (fun c2 => ?_) (fun c2 => ?_)
    · exact absurd ((nI_eq (b := 0) (by have := (hB i).1; omega) (by decide)).mp c2) hn0
    · refine t_go (op := o_aload 31 0) (fe_X12_evening 30) (fun _ _ => rfl) ?_
      refine t_go (op := o_ci 33 7) (fe_X12_evening 31) (fun _ _ => rfl) ?_
      refine t_go (op := o_ci 34 5) (fe_X12_evening 33) (fun _ _ => rfl) ?_
      refine t_call (op := o_callV 37 177 3 11) (fe_X12_evening 34) (g_callV hS (show (lay 183).1 = 11 by decide) (by decide) rfl rfl rfl (Nat.le_of_ble_eq_true rfl)) ?_
      refine M_eq (r_wordHere (h := rowI h 194 r) (b := 7) (cnt := 5) (f := 0) hR1 hi (by decide) (by decide)) ?_
      rw [show whV TK 7 i 0 5 = 2 from whV_at (q := 2) hw (by decide)]
      refine t_go (op := o_istore 38 2) (fe_X12_evening 37) (fun _ _ => rfl) ?_
      refine t_go (op := o_iload 39 2) (fe_X12_evening 38) (fun _ _ => rfl) ?_
      refine t_ite (op := o_if 42 50 (fun x => 0 ≤ x) (fun _ => inferInstance)) (fe_X12_evening 39) g_if (fun c3 => ?_) (fun c3 => ?_)
      · clear c3
        refine t_go (op := o_iload 51 1) (fe_X12_evening 50) (fun _ _ => rfl) ?_
        refine t_go (op := o_ci 53 40) (fe_X12_evening 51) (fun _ _ => rfl) ?_
        refine t_ite (op := o_icmp 64 56 (fun x y => x = y) (fun _ _ => inferInstance)) (fe_X12_evening 53) g_icmp (fun c4 => ?_) (fun c4 => ?_)
        · exact absurd ((nI_eq (b := 40) (by omega) (by decide)).mp c4) (by omega)
        · refine t_go (op := o_aload 65 0) (fe_X12_evening 64) (fun _ _ => rfl) ?_
          refine t_go (op := o_dupA 66) (fe_X12_evening 65) (fun _ _ => rfl) ?_
          refine t_go (op := o_getI 69 11 7) (fe_X12_evening 66) (g_getI hS (show (lay 183).1 = 11 by decide) (by decide)) ?_
          rw [show (AT (rowI h 194 r) i 0).1 183 7 = nI i from AT_7]
          refine t_go (op := o_ci 70 1) (fe_X12_evening 69) (fun _ _ => rfl) ?_
          refine t_go (op := o_i2 71 (fun x y => x + y)) (fe_X12_evening 70) (fun _ _ => rfl) ?_
          refine t_go (op := o_putI 74 11 7) (fe_X12_evening 71) (g_putI hS (show (lay 183).1 = 11 by decide) (by decide)) ?_
          refine T_heap ((congrArg (sI (AT (rowI h 194 r) i 0) 183 7) (show (fun x y : Int32 => x + y) (nI i) 1 = nI (i + 1) from nI_1 i)).trans AT_7s).symm ?_
          refine t_go (op := o_aload 75 0) (fe_X12_evening 74) (fun _ _ => rfl) ?_
          refine t_go (op := o_getR 78 11 19) (fe_X12_evening 75) (g_getR hS (show (lay 183).1 = 11 by decide) (by decide) (fr_11_19 hS) (by decide)) ?_
          refine t_go (op := o_ci 80 125) (fe_X12_evening 78) (fun _ _ => rfl) ?_
          refine t_go (op := o_ci 81 3) (fe_X12_evening 80) (fun _ _ => rfl) ?_
          refine t_go (op := o_iload 82 1) (fe_X12_evening 81) (fun _ _ => rfl) ?_
          refine t_go (op := o_i2 83 (fun x y => x * y)) (fe_X12_evening 82) (fun _ _ => rfl) ?_
          refine t_go (op := o_i2 84 (fun x y => x + y)) (fe_X12_evening 83) (fun _ _ => rfl) ?_
          refine t_go (op := o_iload 85 2) (fe_X12_evening 84) (fun _ _ => rfl) ?_
          refine t_go (op := o_iast 86) (fe_X12_evening 85) (g_iastN hS (show lay 194 = (20, 250) by decide) (nIa (nIl 125) (nIm (nIl 3) rfl)) (by omega) (by decide)) ?_
          refine T_heap (show AT (rowI h 194 (fup r (125 + 3 * n1) (nI 2))) (i + 1) 0 = sI (AT (rowI h 194 r) (i + 1) 0) 194 (125 + 3 * n1) (nI 2) from by rw [sI_AT (by decide), rowI_up]) ?_
          have hR125 := RQ_r4 (r := (fup r (125 + 3 * n1) (nI 2))) hR
          refine t_go (op := o_aload 87 0) (fe_X12_evening 86) (fun _ _ => rfl) ?_
          refine t_go (op := o_getR 90 11 19) (fe_X12_evening 87) (g_getR hS (show (lay 183).1 = 11 by decide) (by decide) (fr_11_19 hS) (by decide)) ?_
          refine t_go (op := o_ci 92 126) (fe_X12_evening 90) (fun _ _ => rfl) ?_
          refine t_go (op := o_ci 93 3) (fe_X12_evening 92) (fun _ _ => rfl) ?_
          refine t_go (op := o_iload 94 1) (fe_X12_evening 93) (fun _ _ => rfl) ?_
          refine t_go (op := o_i2 95 (fun x y => x * y)) (fe_X12_evening 94) (fun _ _ => rfl) ?_
          refine t_go (op := o_i2 96 (fun x y => x + y)) (fe_X12_evening 95) (fun _ _ => rfl) ?_
          refine t_go (op := o_iload 97 2) (fe_X12_evening 96) (fun _ _ => rfl) ?_
          refine t_go (op := o_ci 98 4) (fe_X12_evening 97) (fun _ _ => rfl) ?_
          refine t_go (op := o_i2d 99 (fun x y => x - x / y * y)) (fe_X12_evening 98) (g_i2d (by decide)) ?_
          refine t_ite (op := o_if 106 102 (fun x => x = 0) (fun _ => inferInstance)) (fe_X12_evening 99) g_if (fun c5 => ?_) (fun c5 => ?_)
          · exact absurd c5 (by decide)
          · refine t_go (op := o_aload 107 0) (fe_X12_evening 106) (fun _ _ => rfl) ?_
            refine t_call (op := o_callV 110 181 1 11) (fe_X12_evening 107) (g_callV hS (show (lay 183).1 = 11 by decide) (by decide) rfl rfl rfl (Nat.le_of_ble_eq_true rfl)) ?_
            refine M_mono ?_ (r_tTY (h := rowI h 194 (fup r (125 + 3 * n1) (nI 2))) hR125 hi1 (show (rowI h 194 (fup r (125 + 3 * n1) (nI 2))).1 183 16 = nI m from (congrFun (rowI_ne (by decide)) 16).trans hm) hm7 hN ⟨_, hixm, hixk⟩)
            rintro _ _ ⟨⟨a8, rfl, hF8⟩, rfl⟩
            rw [show a8 = nI ix from hix a8 hF8]
            refine t_go (op := o_iast 111) (fe_X12_evening 110) (g_iastN hS (show lay 194 = (20, 250) by decide) (nIa (nIl 126) (nIm (nIl 3) rfl)) (by omega) (by decide)) ?_
            refine T_heap (show AT (rowI h 194 (fup (fup r (125 + 3 * n1) (nI 2)) (126 + 3 * n1) (nI ix))) (i + 2) 0 = sI (AT (rowI h 194 (fup r (125 + 3 * n1) (nI 2))) (i + 2) 0) 194 (126 + 3 * n1) (nI ix) from by rw [sI_AT (by decide), rowI_up]) ?_
            have hR126 := RQ_r4 (r := (fup (fup r (125 + 3 * n1) (nI 2)) (126 + 3 * n1) (nI ix))) hR
            refine t_go (op := o_aload 112 0) (fe_X12_evening 111) (fun _ _ => rfl) ?_
            refine t_go (op := o_getR 115 11 19) (fe_X12_evening 112) (g_getR hS (show (lay 183).1 = 11 by decide) (by decide) (fr_11_19 hS) (by decide)) ?_
            refine t_go (op := o_ci 117 127) (fe_X12_evening 115) (fun _ _ => rfl) ?_
            refine t_go (op := o_ci 118 3) (fe_X12_evening 117) (fun _ _ => rfl) ?_
            refine t_go (op := o_iload 119 1) (fe_X12_evening 118) (fun _ _ => rfl) ?_
            refine t_go (op := o_i2 120 (fun x y => x * y)) (fe_X12_evening 119) (fun _ _ => rfl) ?_
            refine t_go (op := o_i2 121 (fun x y => x + y)) (fe_X12_evening 120) (fun _ _ => rfl) ?_
            refine t_go (op := o_iload 122 2) (fe_X12_evening 121) (fun _ _ => rfl) ?_
            refine t_go (op := o_ci 123 2) (fe_X12_evening 122) (fun _ _ => rfl) ?_
            refine t_ite (op := o_icmp 136 126 (fun x y => x = y) (fun _ _ => inferInstance)) (fe_X12_evening 123) g_icmp (fun c6 => ?_) (fun c6 => ?_)
            · clear c6
              refine t_go (op := o_aload 127 0) (fe_X12_evening 126) (fun _ _ => rfl) ?_
              refine t_go (op := o_ci 128 0) (fe_X12_evening 127) (fun _ _ => rfl) ?_
              refine t_go (op := o_ci 130 11) (fe_X12_evening 128) (fun _ _ => rfl) ?_
              refine t_call (op := o_callV 133 175 3 11) (fe_X12_evening 130) (g_callV hS (show (lay 183).1 = 11 by decide) (by decide) rfl rfl rfl (Nat.le_of_ble_eq_true rfl)) ?_
              refine M_eq (r_takeNumberY (lo := 0) (hi2 := 11) hR126 hi2 (by decide) (by decide) hNu) ?_
              refine t_go (op := o_goto 152) (fe_X12_evening 133) (fun _ _ => rfl) ?_
              refine t_go (op := o_iast 153) (fe_X12_evening 152) (g_iastN hS (show lay 194 = (20, 250) by decide) (nIa (nIl 127) (nIm (nIl 3) rfl)) (by omega) (by decide)) ?_
              refine T_heap (show AT (rowI h 194 (fup (fup (fup r (125 + 3 * n1) (nI 2)) (126 + 3 * n1) (nI ix)) (127 + 3 * n1) (nI (TK (i + 2)).2.2.1))) (i + 3) 0 = sI (AT (rowI h 194 (fup (fup r (125 + 3 * n1) (nI 2)) (126 + 3 * n1) (nI ix))) (i + 3) 0) 194 (127 + 3 * n1) (nI (TK (i + 2)).2.2.1) from by rw [sI_AT (by decide), rowI_up]) ?_
              have hR127 := RQ_r4 (r := (fup (fup (fup r (125 + 3 * n1) (nI 2)) (126 + 3 * n1) (nI ix)) (127 + 3 * n1) (nI (TK (i + 2)).2.2.1))) hR
              refine t_go (op := o_iinc 156 1 1) (fe_X12_evening 153) (fun _ _ => rfl) ?_
              rw [nI_1]
              exact hq _
            · exact absurd (by decide) c6
      · exact absurd (by decide) c3
  · exact absurd rfl c1
set_option maxRecDepth 8000 in
theorem r_b31 {d : Nat} {h : AHP} {TK : Nat → Tk} {n i n1 : Nat} {r : Nat → Int32} {x2 : Option Value} (hR : RQ h TK n) (hi : i ≤ n) (hn0 : ¬ (TK i).1 = 0) (hi1 : i + 1 ≤ n) (h40 : n1 < 40) (hw : isWd TK 10 i 0) {m : Nat} (hm : h.1 183 16 = nI m) (hm7 : m ≤ 7) (hN : ¬ nmP TK (i + 1)) {Q : Option Value → AHP → Prop} (hq : ∀ x2, TT (d + 6) 187 156 [some (.ref 183), some (.int (nI (n1 + 1))), x2] [] (AT (rowI h 194 (r3F r n1 3 0 0)) (i + 1) (wrF TK 1 (i + 1) 0)) Q) : TT (d + 6) 187 11 [some (.ref 183), some (.int (nI n1)), x2] [] (AT (rowI h 194 r) i 0) Q := by
  have hR1 := RQ_r4 (r := r) hR
  have hR2 := hR1
  have hS := hR1.1
  have hB := hR.2.2.2.1
  have hn := hR.2.2.1
  refine t_go (op := o_aload 12 0) (fe_X12_evening 11) (fun _ _ => rfl) ?_
  refine t_go (op := o_getI 15 11 8) (fe_X12_evening 12) (g_getI hS (show (lay 183).1 = 11 by decide) (by decide)) ?_
  rw [show (AT (rowI h 194 r) i 0).1 183 8 = nI 0 from AT_8]
  refine t_ite (op := o_if 165 18 (fun x => x = 0) (fun _ => inferInstance)) (fe_X12_evening 15) g_if (fun c1 => ?_) (fun c1 => ?_)
  · refine t_go (op := o_aload 19 0) (fe_X12_evening 18) (fun _ _ => rfl) ?_
    refine t_go (op := o_getR 22 11 4) (fe_X12_evening 19) (g_getR hS (show (lay 183).1 = 11 by decide) (by decide) (fr_11_4 hS) (by decide)) ?_
    refine t_go (op := o_aload 23 0) (fe_X12_evening 22) (fun _ _ => rfl) ?_
    refine t_go (op := o_getI 26 11 7) (fe_X12_evening 23) (g_getI hS (show (lay 183).1 = 11 by decide) (by decide)) ?_
    rw [show (AT (rowI h 194 r) i 0).1 183 7 = nI i from AT_7]
    refine t_go (op := o_iald 27) (fe_X12_evening 26) (g_ialdN hS (show lay 185 = (20, 1002) by decide) rfl (by omega) (by decide)) ?_
    rw [show (AT (rowI h 194 r) i 0).1 185 i = nI (TK i).1 from (congrFun (AT_r (by decide)) i).trans (hR1.2.1 i hi).1]
    refine t_ite (op := o_if 30 165 (fun x => x = 0) (fun _ => inferInstance)) (fe_X12_evening 27) g_if (fun c2 => ?_) (fun c2 => ?_)
    · exact absurd ((nI_eq (b := 0) (by have := (hB i).1; omega) (by decide)).mp c2) hn0
    · refine t_go (op := o_aload 31 0) (fe_X12_evening 30) (fun _ _ => rfl) ?_
      refine t_go (op := o_ci 33 7) (fe_X12_evening 31) (fun _ _ => rfl) ?_
      refine t_go (op := o_ci 34 5) (fe_X12_evening 33) (fun _ _ => rfl) ?_
      refine t_call (op := o_callV 37 177 3 11) (fe_X12_evening 34) (g_callV hS (show (lay 183).1 = 11 by decide) (by decide) rfl rfl rfl (Nat.le_of_ble_eq_true rfl)) ?_
      refine M_eq (r_wordHere (h := rowI h 194 r) (b := 7) (cnt := 5) (f := 0) hR1 hi (by decide) (by decide)) ?_
      rw [show whV TK 7 i 0 5 = 3 from whV_at (q := 3) hw (by decide)]
      refine t_go (op := o_istore 38 2) (fe_X12_evening 37) (fun _ _ => rfl) ?_
      refine t_go (op := o_iload 39 2) (fe_X12_evening 38) (fun _ _ => rfl) ?_
      refine t_ite (op := o_if 42 50 (fun x => 0 ≤ x) (fun _ => inferInstance)) (fe_X12_evening 39) g_if (fun c3 => ?_) (fun c3 => ?_)
      · clear c3
        refine t_go (op := o_iload 51 1) (fe_X12_evening 50) (fun _ _ => rfl) ?_
        refine t_go (op := o_ci 53 40) (fe_X12_evening 51) (fun _ _ => rfl) ?_
        refine t_ite (op := o_icmp 64 56 (fun x y => x = y) (fun _ _ => inferInstance)) (fe_X12_evening 53) g_icmp (fun c4 => ?_) (fun c4 => ?_)
        · exact absurd ((nI_eq (b := 40) (by omega) (by decide)).mp c4) (by omega)
        · refine t_go (op := o_aload 65 0) (fe_X12_evening 64) (fun _ _ => rfl) ?_
          refine t_go (op := o_dupA 66) (fe_X12_evening 65) (fun _ _ => rfl) ?_
          refine t_go (op := o_getI 69 11 7) (fe_X12_evening 66) (g_getI hS (show (lay 183).1 = 11 by decide) (by decide)) ?_
          rw [show (AT (rowI h 194 r) i 0).1 183 7 = nI i from AT_7]
          refine t_go (op := o_ci 70 1) (fe_X12_evening 69) (fun _ _ => rfl) ?_
          refine t_go (op := o_i2 71 (fun x y => x + y)) (fe_X12_evening 70) (fun _ _ => rfl) ?_
          refine t_go (op := o_putI 74 11 7) (fe_X12_evening 71) (g_putI hS (show (lay 183).1 = 11 by decide) (by decide)) ?_
          refine T_heap ((congrArg (sI (AT (rowI h 194 r) i 0) 183 7) (show (fun x y : Int32 => x + y) (nI i) 1 = nI (i + 1) from nI_1 i)).trans AT_7s).symm ?_
          refine t_go (op := o_aload 75 0) (fe_X12_evening 74) (fun _ _ => rfl) ?_
          refine t_go (op := o_getR 78 11 19) (fe_X12_evening 75) (g_getR hS (show (lay 183).1 = 11 by decide) (by decide) (fr_11_19 hS) (by decide)) ?_
          refine t_go (op := o_ci 80 125) (fe_X12_evening 78) (fun _ _ => rfl) ?_
          refine t_go (op := o_ci 81 3) (fe_X12_evening 80) (fun _ _ => rfl) ?_
          refine t_go (op := o_iload 82 1) (fe_X12_evening 81) (fun _ _ => rfl) ?_
          refine t_go (op := o_i2 83 (fun x y => x * y)) (fe_X12_evening 82) (fun _ _ => rfl) ?_
          refine t_go (op := o_i2 84 (fun x y => x + y)) (fe_X12_evening 83) (fun _ _ => rfl) ?_
          refine t_go (op := o_iload 85 2) (fe_X12_evening 84) (fun _ _ => rfl) ?_
          refine t_go (op := o_iast 86) (fe_X12_evening 85) (g_iastN hS (show lay 194 = (20, 250) by decide) (nIa (nIl 125) (nIm (nIl 3) rfl)) (by omega) (by decide)) ?_
          refine T_heap (show AT (rowI h 194 (fup r (125 + 3 * n1) (nI 3))) (i + 1) 0 = sI (AT (rowI h 194 r) (i + 1) 0) 194 (125 + 3 * n1) (nI 3) from by rw [sI_AT (by decide), rowI_up]) ?_
          have hR125 := RQ_r4 (r := (fup r (125 + 3 * n1) (nI 3))) hR
          refine t_go (op := o_aload 87 0) (fe_X12_evening 86) (fun _ _ => rfl) ?_
          refine t_go (op := o_getR 90 11 19) (fe_X12_evening 87) (g_getR hS (show (lay 183).1 = 11 by decide) (by decide) (fr_11_19 hS) (by decide)) ?_
          refine t_go (op := o_ci 92 126) (fe_X12_evening 90) (fun _ _ => rfl) ?_
          refine t_go (op := o_ci 93 3) (fe_X12_evening 92) (fun _ _ => rfl) ?_
          refine t_go (op := o_iload 94 1) (fe_X12_evening 93) (fun _ _ => rfl) ?_
          refine t_go (op := o_i2 95 (fun x y => x * y)) (fe_X12_evening 94) (fun _ _ => rfl) ?_
          refine t_go (op := o_i2 96 (fun x y => x + y)) (fe_X12_evening 95) (fun _ _ => rfl) ?_
          refine t_go (op := o_iload 97 2) (fe_X12_evening 96) (fun _ _ => rfl) ?_
          refine t_go (op := o_ci 98 4) (fe_X12_evening 97) (fun _ _ => rfl) ?_
          refine t_go (op := o_i2d 99 (fun x y => x - x / y * y)) (fe_X12_evening 98) (g_i2d (by decide)) ?_
          refine t_ite (op := o_if 106 102 (fun x => x = 0) (fun _ => inferInstance)) (fe_X12_evening 99) g_if (fun c5 => ?_) (fun c5 => ?_)
          · exact absurd c5 (by decide)
          · refine t_go (op := o_aload 107 0) (fe_X12_evening 106) (fun _ _ => rfl) ?_
            refine t_call (op := o_callV 110 181 1 11) (fe_X12_evening 107) (g_callV hS (show (lay 183).1 = 11 by decide) (by decide) rfl rfl rfl (Nat.le_of_ble_eq_true rfl)) ?_
            refine M_eq (r_tT1 (h := rowI h 194 (fup r (125 + 3 * n1) (nI 3))) hR125 hi1 (show (rowI h 194 (fup r (125 + 3 * n1) (nI 3))).1 183 16 = nI m from (congrFun (rowI_ne (by decide)) 16).trans hm) hm7 hN) ?_
            refine t_go (op := o_iast 111) (fe_X12_evening 110) (g_iastN hS (show lay 194 = (20, 250) by decide) (nIa (nIl 126) (nIm (nIl 3) rfl)) (by omega) (by decide)) ?_
            refine T_heap (show AT (rowI h 194 (fup (fup r (125 + 3 * n1) (nI 3)) (126 + 3 * n1) (nI 0))) (i + 1) (wrF TK 1 (i + 1) 0) = sI (AT (rowI h 194 (fup r (125 + 3 * n1) (nI 3))) (i + 1) (wrF TK 1 (i + 1) 0)) 194 (126 + 3 * n1) (nI 0) from by rw [sI_AT (by decide), rowI_up]) ?_
            have hR126 := RQ_r4 (r := (fup (fup r (125 + 3 * n1) (nI 3)) (126 + 3 * n1) (nI 0))) hR
            refine t_go (op := o_aload 112 0) (fe_X12_evening 111) (fun _ _ => rfl) ?_
            refine t_go (op := o_getR 115 11 19) (fe_X12_evening 112) (g_getR hS (show (lay 183).1 = 11 by decide) (by decide) (fr_11_19 hS) (by decide)) ?_
            refine t_go (op := o_ci 117 127) (fe_X12_evening 115) (fun _ _ => rfl) ?_
            refine t_go (op := o_ci 118 3) (fe_X12_evening 117) (fun _ _ => rfl) ?_
            refine t_go (op := o_iload 119 1) (fe_X12_evening 118) (fun _ _ => rfl) ?_
            refine t_go (op := o_i2 120 (fun x y => x * y)) (fe_X12_evening 119) (fun _ _ => rfl) ?_
            refine t_go (op := o_i2 121 (fun x y => x + y)) (fe_X12_evening 120) (fun _ _ => rfl) ?_
            refine t_go (op := o_iload 122 2) (fe_X12_evening 121) (fun _ _ => rfl) ?_
            refine t_go (op := o_ci 123 2) (fe_X12_evening 122) (fun _ _ => rfl) ?_
            refine t_ite (op := o_icmp 136 126 (fun x y => x = y) (fun _ _ => inferInstance)) (fe_X12_evening 123) g_icmp (fun c6 => ?_) (fun c6 => ?_)
            · exact absurd c6 (by decide)
            · clear c6
              refine t_go (op := o_iload 137 2) (fe_X12_evening 136) (fun _ _ => rfl) ?_
              refine t_go (op := o_ci 138 3) (fe_X12_evening 137) (fun _ _ => rfl) ?_
              refine t_ite (op := o_icmp 151 141 (fun x y => x = y) (fun _ _ => inferInstance)) (fe_X12_evening 138) g_icmp (fun c7 => ?_) (fun c7 => ?_)
              · clear c7
                refine t_go (op := o_aload 142 0) (fe_X12_evening 141) (fun _ _ => rfl) ?_
                refine t_go (op := o_ci 143 1) (fe_X12_evening 142) (fun _ _ => rfl) ?_
                refine t_go (op := o_ci 145 9) (fe_X12_evening 143) (fun _ _ => rfl) ?_
                refine t_call (op := o_callV 148 175 3 11) (fe_X12_evening 145) (g_callV hS (show (lay 183).1 = 11 by decide) (by decide) rfl rfl rfl (Nat.le_of_ble_eq_true rfl)) ?_
                refine M_eq (r_takeNumberF (lo := 1) (hi2 := 9) hR126 hi1 (wr0_b hB (by decide)) (wrF_p (by decide)) (by decide) (by decide)) ?_
                refine t_go (op := o_goto 152) (fe_X12_evening 148) (fun _ _ => rfl) ?_
                refine t_go (op := o_iast 153) (fe_X12_evening 152) (g_iastN hS (show lay 194 = (20, 250) by decide) (nIa (nIl 127) (nIm (nIl 3) rfl)) (by omega) (by decide)) ?_
                refine T_heap (show AT (rowI h 194 (fup (fup (fup r (125 + 3 * n1) (nI 3)) (126 + 3 * n1) (nI 0)) (127 + 3 * n1) (nI 0))) (i + 1) (wrF TK 1 (i + 1) 0) = sI (AT (rowI h 194 (fup (fup r (125 + 3 * n1) (nI 3)) (126 + 3 * n1) (nI 0))) (i + 1) (wrF TK 1 (i + 1) 0)) 194 (127 + 3 * n1) (nI 0) from by rw [sI_AT (by decide), rowI_up]) ?_
                have hR127 := RQ_r4 (r := (fup (fup (fup r (125 + 3 * n1) (nI 3)) (126 + 3 * n1) (nI 0)) (127 + 3 * n1) (nI 0))) hR
                refine t_go (op := o_iinc 156 1 1) (fe_X12_evening 153) (fun _ _ => rfl) ?_
                rw [nI_1]
                exact hq _
              · exact absurd (by decide) c7
      · exact absurd (by decide) c3
  · exact absurd rfl c1
set_option maxRecDepth 8000 in
theorem r_b32 {d : Nat} {h : AHP} {TK : Nat → Tk} {n i n1 : Nat} {r : Nat → Int32} {x2 : Option Value} (hR : RQ h TK n) (hi : i ≤ n) (hn0 : ¬ (TK i).1 = 0) (hi1 : i + 1 ≤ n) (h40 : n1 < 40) (hw : isWd TK 10 i 0) {m : Nat} (hm : h.1 183 16 = nI m) (hm7 : m ≤ 7) (hN : nmP TK (i + 1)) (hu : ¬ (∃ k, k < m ∧ h.2.1 192 k = h.2.1 187 (i + 1))) {Q : Option Value → AHP → Prop} (hq : ∀ x2, TT (d + 6) 187 156 [some (.ref 183), some (.int (nI (n1 + 1))), x2] [] (AT (rowI h 194 (r3F r n1 3 0 0)) (i + 1) (wrF TK 2 (i + 1) 0)) Q) : TT (d + 6) 187 11 [some (.ref 183), some (.int (nI n1)), x2] [] (AT (rowI h 194 r) i 0) Q := by
  have hR1 := RQ_r4 (r := r) hR
  have hR2 := hR1
  have hS := hR1.1
  have hB := hR.2.2.2.1
  have hn := hR.2.2.1
  refine t_go (op := o_aload 12 0) (fe_X12_evening 11) (fun _ _ => rfl) ?_
  refine t_go (op := o_getI 15 11 8) (fe_X12_evening 12) (g_getI hS (show (lay 183).1 = 11 by decide) (by decide)) ?_
  rw [show (AT (rowI h 194 r) i 0).1 183 8 = nI 0 from AT_8]
  refine t_ite (op := o_if 165 18 (fun x => x = 0) (fun _ => inferInstance)) (fe_X12_evening 15) g_if (fun c1 => ?_) (fun c1 => ?_)
  · refine t_go (op := o_aload 19 0) (fe_X12_evening 18) (fun _ _ => rfl) ?_
    refine t_go (op := o_getR 22 11 4) (fe_X12_evening 19) (g_getR hS (show (lay 183).1 = 11 by decide) (by decide) (fr_11_4 hS) (by decide)) ?_
    refine t_go (op := o_aload 23 0) (fe_X12_evening 22) (fun _ _ => rfl) ?_
    refine t_go (op := o_getI 26 11 7) (fe_X12_evening 23) (g_getI hS (show (lay 183).1 = 11 by decide) (by decide)) ?_
    rw [show (AT (rowI h 194 r) i 0).1 183 7 = nI i from AT_7]
    refine t_go (op := o_iald 27) (fe_X12_evening 26) (g_ialdN hS (show lay 185 = (20, 1002) by decide) rfl (by omega) (by decide)) ?_
    rw [show (AT (rowI h 194 r) i 0).1 185 i = nI (TK i).1 from (congrFun (AT_r (by decide)) i).trans (hR1.2.1 i hi).1]
    refine t_ite (op := o_if 30 165 (fun x => x = 0) (fun _ => inferInstance)) (fe_X12_evening 27) g_if (fun c2 => ?_) (fun c2 => ?_)
    · exact absurd ((nI_eq (b := 0) (by have := (hB i).1; omega) (by decide)).mp c2) hn0
    · refine t_go (op := o_aload 31 0) (fe_X12_evening 30) (fun _ _ => rfl) ?_
      refine t_go (op := o_ci 33 7) (fe_X12_evening 31) (fun _ _ => rfl) ?_
      refine t_go (op := o_ci 34 5) (fe_X12_evening 33) (fun _ _ => rfl) ?_
      refine t_call (op := o_callV 37 177 3 11) (fe_X12_evening 34) (g_callV hS (show (lay 183).1 = 11 by decide) (by decide) rfl rfl rfl (Nat.le_of_ble_eq_true rfl)) ?_
      refine M_eq (r_wordHere (h := rowI h 194 r) (b := 7) (cnt := 5) (f := 0) hR1 hi (by decide) (by decide)) ?_
      rw [show whV TK 7 i 0 5 = 3 from whV_at (q := 3) hw (by decide)]
      refine t_go (op := o_istore 38 2) (fe_X12_evening 37) (fun _ _ => rfl) ?_
      refine t_go (op := o_iload 39 2) (fe_X12_evening 38) (fun _ _ => rfl) ?_
      refine t_ite (op := o_if 42 50 (fun x => 0 ≤ x) (fun _ => inferInstance)) (fe_X12_evening 39) g_if (fun c3 => ?_) (fun c3 => ?_)
      · clear c3
        refine t_go (op := o_iload 51 1) (fe_X12_evening 50) (fun _ _ => rfl) ?_
        refine t_go (op := o_ci 53 40) (fe_X12_evening 51) (fun _ _ => rfl) ?_
        refine t_ite (op := o_icmp 64 56 (fun x y => x = y) (fun _ _ => inferInstance)) (fe_X12_evening 53) g_icmp (fun c4 => ?_) (fun c4 => ?_)
        · exact absurd ((nI_eq (b := 40) (by omega) (by decide)).mp c4) (by omega)
        · refine t_go (op := o_aload 65 0) (fe_X12_evening 64) (fun _ _ => rfl) ?_
          refine t_go (op := o_dupA 66) (fe_X12_evening 65) (fun _ _ => rfl) ?_
          refine t_go (op := o_getI 69 11 7) (fe_X12_evening 66) (g_getI hS (show (lay 183).1 = 11 by decide) (by decide)) ?_
          rw [show (AT (rowI h 194 r) i 0).1 183 7 = nI i from AT_7]
          refine t_go (op := o_ci 70 1) (fe_X12_evening 69) (fun _ _ => rfl) ?_
          refine t_go (op := o_i2 71 (fun x y => x + y)) (fe_X12_evening 70) (fun _ _ => rfl) ?_
          refine t_go (op := o_putI 74 11 7) (fe_X12_evening 71) (g_putI hS (show (lay 183).1 = 11 by decide) (by decide)) ?_
          refine T_heap ((congrArg (sI (AT (rowI h 194 r) i 0) 183 7) (show (fun x y : Int32 => x + y) (nI i) 1 = nI (i + 1) from nI_1 i)).trans AT_7s).symm ?_
          refine t_go (op := o_aload 75 0) (fe_X12_evening 74) (fun _ _ => rfl) ?_
          refine t_go (op := o_getR 78 11 19) (fe_X12_evening 75) (g_getR hS (show (lay 183).1 = 11 by decide) (by decide) (fr_11_19 hS) (by decide)) ?_
          refine t_go (op := o_ci 80 125) (fe_X12_evening 78) (fun _ _ => rfl) ?_
          refine t_go (op := o_ci 81 3) (fe_X12_evening 80) (fun _ _ => rfl) ?_
          refine t_go (op := o_iload 82 1) (fe_X12_evening 81) (fun _ _ => rfl) ?_
          refine t_go (op := o_i2 83 (fun x y => x * y)) (fe_X12_evening 82) (fun _ _ => rfl) ?_
          refine t_go (op := o_i2 84 (fun x y => x + y)) (fe_X12_evening 83) (fun _ _ => rfl) ?_
          refine t_go (op := o_iload 85 2) (fe_X12_evening 84) (fun _ _ => rfl) ?_
          refine t_go (op := o_iast 86) (fe_X12_evening 85) (g_iastN hS (show lay 194 = (20, 250) by decide) (nIa (nIl 125) (nIm (nIl 3) rfl)) (by omega) (by decide)) ?_
          refine T_heap (show AT (rowI h 194 (fup r (125 + 3 * n1) (nI 3))) (i + 1) 0 = sI (AT (rowI h 194 r) (i + 1) 0) 194 (125 + 3 * n1) (nI 3) from by rw [sI_AT (by decide), rowI_up]) ?_
          have hR125 := RQ_r4 (r := (fup r (125 + 3 * n1) (nI 3))) hR
          refine t_go (op := o_aload 87 0) (fe_X12_evening 86) (fun _ _ => rfl) ?_
          refine t_go (op := o_getR 90 11 19) (fe_X12_evening 87) (g_getR hS (show (lay 183).1 = 11 by decide) (by decide) (fr_11_19 hS) (by decide)) ?_
          refine t_go (op := o_ci 92 126) (fe_X12_evening 90) (fun _ _ => rfl) ?_
          refine t_go (op := o_ci 93 3) (fe_X12_evening 92) (fun _ _ => rfl) ?_
          refine t_go (op := o_iload 94 1) (fe_X12_evening 93) (fun _ _ => rfl) ?_
          refine t_go (op := o_i2 95 (fun x y => x * y)) (fe_X12_evening 94) (fun _ _ => rfl) ?_
          refine t_go (op := o_i2 96 (fun x y => x + y)) (fe_X12_evening 95) (fun _ _ => rfl) ?_
          refine t_go (op := o_iload 97 2) (fe_X12_evening 96) (fun _ _ => rfl) ?_
          refine t_go (op := o_ci 98 4) (fe_X12_evening 97) (fun _ _ => rfl) ?_
          refine t_go (op := o_i2d 99 (fun x y => x - x / y * y)) (fe_X12_evening 98) (g_i2d (by decide)) ?_
          refine t_ite (op := o_if 106 102 (fun x => x = 0) (fun _ => inferInstance)) (fe_X12_evening 99) g_if (fun c5 => ?_) (fun c5 => ?_)
          · exact absurd c5 (by decide)
          · refine t_go (op := o_aload 107 0) (fe_X12_evening 106) (fun _ _ => rfl) ?_
            refine t_call (op := o_callV 110 181 1 11) (fe_X12_evening 107) (g_callV hS (show (lay 183).1 = 11 by decide) (by decide) rfl rfl rfl (Nat.le_of_ble_eq_true rfl)) ?_
            refine M_eq (r_tT2 (h := rowI h 194 (fup r (125 + 3 * n1) (nI 3))) hR125 hi1 (show (rowI h 194 (fup r (125 + 3 * n1) (nI 3))).1 183 16 = nI m from (congrFun (rowI_ne (by decide)) 16).trans hm) hm7 hN hu) ?_
            refine t_go (op := o_iast 111) (fe_X12_evening 110) (g_iastN hS (show lay 194 = (20, 250) by decide) (nIa (nIl 126) (nIm (nIl 3) rfl)) (by omega) (by decide)) ?_
            refine T_heap (show AT (rowI h 194 (fup (fup r (125 + 3 * n1) (nI 3)) (126 + 3 * n1) (nI 0))) (i + 1) (wrF TK 2 (i + 1) 0) = sI (AT (rowI h 194 (fup r (125 + 3 * n1) (nI 3))) (i + 1) (wrF TK 2 (i + 1) 0)) 194 (126 + 3 * n1) (nI 0) from by rw [sI_AT (by decide), rowI_up]) ?_
            have hR126 := RQ_r4 (r := (fup (fup r (125 + 3 * n1) (nI 3)) (126 + 3 * n1) (nI 0))) hR
            refine t_go (op := o_aload 112 0) (fe_X12_evening 111) (fun _ _ => rfl) ?_
            refine t_go (op := o_getR 115 11 19) (fe_X12_evening 112) (g_getR hS (show (lay 183).1 = 11 by decide) (by decide) (fr_11_19 hS) (by decide)) ?_
            refine t_go (op := o_ci 117 127) (fe_X12_evening 115) (fun _ _ => rfl) ?_
            refine t_go (op := o_ci 118 3) (fe_X12_evening 117) (fun _ _ => rfl) ?_
            refine t_go (op := o_iload 119 1) (fe_X12_evening 118) (fun _ _ => rfl) ?_
            refine t_go (op := o_i2 120 (fun x y => x * y)) (fe_X12_evening 119) (fun _ _ => rfl) ?_
            refine t_go (op := o_i2 121 (fun x y => x + y)) (fe_X12_evening 120) (fun _ _ => rfl) ?_
            refine t_go (op := o_iload 122 2) (fe_X12_evening 121) (fun _ _ => rfl) ?_
            refine t_go (op := o_ci 123 2) (fe_X12_evening 122) (fun _ _ => rfl) ?_
            refine t_ite (op := o_icmp 136 126 (fun x y => x = y) (fun _ _ => inferInstance)) (fe_X12_evening 123) g_icmp (fun c6 => ?_) (fun c6 => ?_)
            · exact absurd c6 (by decide)
            · clear c6
              refine t_go (op := o_iload 137 2) (fe_X12_evening 136) (fun _ _ => rfl) ?_
              refine t_go (op := o_ci 138 3) (fe_X12_evening 137) (fun _ _ => rfl) ?_
              refine t_ite (op := o_icmp 151 141 (fun x y => x = y) (fun _ _ => inferInstance)) (fe_X12_evening 138) g_icmp (fun c7 => ?_) (fun c7 => ?_)
              · clear c7
                refine t_go (op := o_aload 142 0) (fe_X12_evening 141) (fun _ _ => rfl) ?_
                refine t_go (op := o_ci 143 1) (fe_X12_evening 142) (fun _ _ => rfl) ?_
                refine t_go (op := o_ci 145 9) (fe_X12_evening 143) (fun _ _ => rfl) ?_
                refine t_call (op := o_callV 148 175 3 11) (fe_X12_evening 145) (g_callV hS (show (lay 183).1 = 11 by decide) (by decide) rfl rfl rfl (Nat.le_of_ble_eq_true rfl)) ?_
                refine M_eq (r_takeNumberF (lo := 1) (hi2 := 9) hR126 hi1 (wr0_b hB (by decide)) (wrF_p (by decide)) (by decide) (by decide)) ?_
                refine t_go (op := o_goto 152) (fe_X12_evening 148) (fun _ _ => rfl) ?_
                refine t_go (op := o_iast 153) (fe_X12_evening 152) (g_iastN hS (show lay 194 = (20, 250) by decide) (nIa (nIl 127) (nIm (nIl 3) rfl)) (by omega) (by decide)) ?_
                refine T_heap (show AT (rowI h 194 (fup (fup (fup r (125 + 3 * n1) (nI 3)) (126 + 3 * n1) (nI 0)) (127 + 3 * n1) (nI 0))) (i + 1) (wrF TK 2 (i + 1) 0) = sI (AT (rowI h 194 (fup (fup r (125 + 3 * n1) (nI 3)) (126 + 3 * n1) (nI 0))) (i + 1) (wrF TK 2 (i + 1) 0)) 194 (127 + 3 * n1) (nI 0) from by rw [sI_AT (by decide), rowI_up]) ?_
                have hR127 := RQ_r4 (r := (fup (fup (fup r (125 + 3 * n1) (nI 3)) (126 + 3 * n1) (nI 0)) (127 + 3 * n1) (nI 0))) hR
                refine t_go (op := o_iinc 156 1 1) (fe_X12_evening 153) (fun _ _ => rfl) ?_
                rw [nI_1]
                exact hq _
              · exact absurd (by decide) c7
      · exact absurd (by decide) c3
  · exact absurd rfl c1
set_option maxRecDepth 8000 in
theorem r_b3N {d : Nat} {h : AHP} {TK : Nat → Tk} {n i n1 : Nat} {r : Nat → Int32} {x2 : Option Value} (hR : RQ h TK n) (hi : i ≤ n) (hn0 : ¬ (TK i).1 = 0) (hi1 : i + 1 ≤ n) (h40 : n1 < 40) (hw : isWd TK 10 i 0) {m : Nat} (hm : h.1 183 16 = nI m) (hm7 : m ≤ 7) {ix : Nat} (hN : nmP TK (i + 1)) (hixm : ix < m) (hixk : h.2.1 192 ix = h.2.1 187 (i + 1)) (hix : ∀ a, FIp (fun k => h.2.1 192 k = h.2.1 187 (i + 1)) m a → a = nI ix) (hi2 : i + 2 ≤ n) (hNu : ¬ nuP TK 1 9 (i + 2) 0) {Q : Option Value → AHP → Prop} (hq : ∀ x2, TT (d + 6) 187 156 [some (.ref 183), some (.int (nI (n1 + 1))), x2] [] (AT (rowI h 194 (r3F r n1 3 ix 0)) (i + 2) (wrF TK (nmF TK (i + 2)) (i + 2) 0)) Q) : TT (d + 6) 187 11 [some (.ref 183), some (.int (nI n1)), x2] [] (AT (rowI h 194 r) i 0) Q := by
  have hR1 := RQ_r4 (r := r) hR
  have hR2 := hR1
  have hS := hR1.1
  have hB := hR.2.2.2.1
  have hn := hR.2.2.1
  refine t_go (op := o_aload 12 0) (fe_X12_evening 11) (fun _ _ => rfl) ?_
  refine t_go (op := o_getI 15 11 8) (fe_X12_evening 12) (g_getI hS (show (lay 183).1 = 11 by decide) (by decide)) ?_
  rw [show (AT (rowI h 194 r) i 0).1 183 8 = nI 0 from AT_8]
  refine t_ite (op := o_if 165 18 (fun x => x = 0) (fun _ => inferInstance)) (fe_X12_evening 15) g_if (fun c1 => ?_) (fun c1 => ?_)
  · refine t_go (op := o_aload 19 0) (fe_X12_evening 18) (fun _ _ => rfl) ?_
    refine t_go (op := o_getR 22 11 4) (fe_X12_evening 19) (g_getR hS (show (lay 183).1 = 11 by decide) (by decide) (fr_11_4 hS) (by decide)) ?_
    refine t_go (op := o_aload 23 0) (fe_X12_evening 22) (fun _ _ => rfl) ?_
    refine t_go (op := o_getI 26 11 7) (fe_X12_evening 23) (g_getI hS (show (lay 183).1 = 11 by decide) (by decide)) ?_
    rw [show (AT (rowI h 194 r) i 0).1 183 7 = nI i from AT_7]
    refine t_go (op := o_iald 27) (fe_X12_evening 26) (g_ialdN hS (show lay 185 = (20, 1002) by decide) rfl (by omega) (by decide)) ?_
    rw [show (AT (rowI h 194 r) i 0).1 185 i = nI (TK i).1 from (congrFun (AT_r (by decide)) i).trans (hR1.2.1 i hi).1]
    refine t_ite (op := o_if 30 165 (fun x => x = 0) (fun _ => inferInstance)) (fe_X12_evening 27) g_if (fun c2 => ?_) (fun c2 => ?_)
    · exact absurd ((nI_eq (b := 0) (by have := (hB i).1; omega) (by decide)).mp c2) hn0
    · refine t_go (op := o_aload 31 0) (fe_X12_evening 30) (fun _ _ => rfl) ?_
      refine t_go (op := o_ci 33 7) (fe_X12_evening 31) (fun _ _ => rfl) ?_
      refine t_go (op := o_ci 34 5) (fe_X12_evening 33) (fun _ _ => rfl) ?_
      refine t_call (op := o_callV 37 177 3 11) (fe_X12_evening 34) (g_callV hS (show (lay 183).1 = 11 by decide) (by decide) rfl rfl rfl (Nat.le_of_ble_eq_true rfl)) ?_
      refine M_eq (r_wordHere (h := rowI h 194 r) (b := 7) (cnt := 5) (f := 0) hR1 hi (by decide) (by decide)) ?_
      rw [show whV TK 7 i 0 5 = 3 from whV_at (q := 3) hw (by decide)]
      refine t_go (op := o_istore 38 2) (fe_X12_evening 37) (fun _ _ => rfl) ?_
      refine t_go (op := o_iload 39 2) (fe_X12_evening 38) (fun _ _ => rfl) ?_
      refine t_ite (op := o_if 42 50 (fun x => 0 ≤ x) (fun _ => inferInstance)) (fe_X12_evening 39) g_if (fun c3 => ?_) (fun c3 => ?_)
      · clear c3
        refine t_go (op := o_iload 51 1) (fe_X12_evening 50) (fun _ _ => rfl) ?_
        refine t_go (op := o_ci 53 40) (fe_X12_evening 51) (fun _ _ => rfl) ?_
        refine t_ite (op := o_icmp 64 56 (fun x y => x = y) (fun _ _ => inferInstance)) (fe_X12_evening 53) g_icmp (fun c4 => ?_) (fun c4 => ?_)
        · exact absurd ((nI_eq (b := 40) (by omega) (by decide)).mp c4) (by omega)
        · refine t_go (op := o_aload 65 0) (fe_X12_evening 64) (fun _ _ => rfl) ?_
          refine t_go (op := o_dupA 66) (fe_X12_evening 65) (fun _ _ => rfl) ?_
          refine t_go (op := o_getI 69 11 7) (fe_X12_evening 66) (g_getI hS (show (lay 183).1 = 11 by decide) (by decide)) ?_
          rw [show (AT (rowI h 194 r) i 0).1 183 7 = nI i from AT_7]
          refine t_go (op := o_ci 70 1) (fe_X12_evening 69) (fun _ _ => rfl) ?_
          refine t_go (op := o_i2 71 (fun x y => x + y)) (fe_X12_evening 70) (fun _ _ => rfl) ?_
          refine t_go (op := o_putI 74 11 7) (fe_X12_evening 71) (g_putI hS (show (lay 183).1 = 11 by decide) (by decide)) ?_
          refine T_heap ((congrArg (sI (AT (rowI h 194 r) i 0) 183 7) (show (fun x y : Int32 => x + y) (nI i) 1 = nI (i + 1) from nI_1 i)).trans AT_7s).symm ?_
          refine t_go (op := o_aload 75 0) (fe_X12_evening 74) (fun _ _ => rfl) ?_
          refine t_go (op := o_getR 78 11 19) (fe_X12_evening 75) (g_getR hS (show (lay 183).1 = 11 by decide) (by decide) (fr_11_19 hS) (by decide)) ?_
          refine t_go (op := o_ci 80 125) (fe_X12_evening 78) (fun _ _ => rfl) ?_
          refine t_go (op := o_ci 81 3) (fe_X12_evening 80) (fun _ _ => rfl) ?_
          refine t_go (op := o_iload 82 1) (fe_X12_evening 81) (fun _ _ => rfl) ?_
          refine t_go (op := o_i2 83 (fun x y => x * y)) (fe_X12_evening 82) (fun _ _ => rfl) ?_
          refine t_go (op := o_i2 84 (fun x y => x + y)) (fe_X12_evening 83) (fun _ _ => rfl) ?_
          refine t_go (op := o_iload 85 2) (fe_X12_evening 84) (fun _ _ => rfl) ?_
          refine t_go (op := o_iast 86) (fe_X12_evening 85) (g_iastN hS (show lay 194 = (20, 250) by decide) (nIa (nIl 125) (nIm (nIl 3) rfl)) (by omega) (by decide)) ?_
          refine T_heap (show AT (rowI h 194 (fup r (125 + 3 * n1) (nI 3))) (i + 1) 0 = sI (AT (rowI h 194 r) (i + 1) 0) 194 (125 + 3 * n1) (nI 3) from by rw [sI_AT (by decide), rowI_up]) ?_
          have hR125 := RQ_r4 (r := (fup r (125 + 3 * n1) (nI 3))) hR
          refine t_go (op := o_aload 87 0) (fe_X12_evening 86) (fun _ _ => rfl) ?_
          refine t_go (op := o_getR 90 11 19) (fe_X12_evening 87) (g_getR hS (show (lay 183).1 = 11 by decide) (by decide) (fr_11_19 hS) (by decide)) ?_
          refine t_go (op := o_ci 92 126) (fe_X12_evening 90) (fun _ _ => rfl) ?_
          refine t_go (op := o_ci 93 3) (fe_X12_evening 92) (fun _ _ => rfl) ?_
          refine t_go (op := o_iload 94 1) (fe_X12_evening 93) (fun _ _ => rfl) ?_
          refine t_go (op := o_i2 95 (fun x y => x * y)) (fe_X12_evening 94) (fun _ _ => rfl) ?_
          refine t_go (op := o_i2 96 (fun x y => x + y)) (fe_X12_evening 95) (fun _ _ => rfl) ?_
          refine t_go (op := o_iload 97 2) (fe_X12_evening 96) (fun _ _ => rfl) ?_
          refine t_go (op := o_ci 98 4) (fe_X12_evening 97) (fun _ _ => rfl) ?_
          refine t_go (op := o_i2d 99 (fun x y => x - x / y * y)) (fe_X12_evening 98) (g_i2d (by decide)) ?_
          refine t_ite (op := o_if 106 102 (fun x => x = 0) (fun _ => inferInstance)) (fe_X12_evening 99) g_if (fun c5 => ?_) (fun c5 => ?_)
          · exact absurd c5 (by decide)
          · refine t_go (op := o_aload 107 0) (fe_X12_evening 106) (fun _ _ => rfl) ?_
            refine t_call (op := o_callV 110 181 1 11) (fe_X12_evening 107) (g_callV hS (show (lay 183).1 = 11 by decide) (by decide) rfl rfl rfl (Nat.le_of_ble_eq_true rfl)) ?_
            refine M_mono ?_ (r_tTY (h := rowI h 194 (fup r (125 + 3 * n1) (nI 3))) hR125 hi1 (show (rowI h 194 (fup r (125 + 3 * n1) (nI 3))).1 183 16 = nI m from (congrFun (rowI_ne (by decide)) 16).trans hm) hm7 hN ⟨_, hixm, hixk⟩)
            rintro _ _ ⟨⟨a8, rfl, hF8⟩, rfl⟩
            rw [show a8 = nI ix from hix a8 hF8]
            refine t_go (op := o_iast 111) (fe_X12_evening 110) (g_iastN hS (show lay 194 = (20, 250) by decide) (nIa (nIl 126) (nIm (nIl 3) rfl)) (by omega) (by decide)) ?_
            refine T_heap (show AT (rowI h 194 (fup (fup r (125 + 3 * n1) (nI 3)) (126 + 3 * n1) (nI ix))) (i + 2) 0 = sI (AT (rowI h 194 (fup r (125 + 3 * n1) (nI 3))) (i + 2) 0) 194 (126 + 3 * n1) (nI ix) from by rw [sI_AT (by decide), rowI_up]) ?_
            have hR126 := RQ_r4 (r := (fup (fup r (125 + 3 * n1) (nI 3)) (126 + 3 * n1) (nI ix))) hR
            refine t_go (op := o_aload 112 0) (fe_X12_evening 111) (fun _ _ => rfl) ?_
            refine t_go (op := o_getR 115 11 19) (fe_X12_evening 112) (g_getR hS (show (lay 183).1 = 11 by decide) (by decide) (fr_11_19 hS) (by decide)) ?_
            refine t_go (op := o_ci 117 127) (fe_X12_evening 115) (fun _ _ => rfl) ?_
            refine t_go (op := o_ci 118 3) (fe_X12_evening 117) (fun _ _ => rfl) ?_
            refine t_go (op := o_iload 119 1) (fe_X12_evening 118) (fun _ _ => rfl) ?_
            refine t_go (op := o_i2 120 (fun x y => x * y)) (fe_X12_evening 119) (fun _ _ => rfl) ?_
            refine t_go (op := o_i2 121 (fun x y => x + y)) (fe_X12_evening 120) (fun _ _ => rfl) ?_
            refine t_go (op := o_iload 122 2) (fe_X12_evening 121) (fun _ _ => rfl) ?_
            refine t_go (op := o_ci 123 2) (fe_X12_evening 122) (fun _ _ => rfl) ?_
            refine t_ite (op := o_icmp 136 126 (fun x y => x = y) (fun _ _ => inferInstance)) (fe_X12_evening 123) g_icmp (fun c6 => ?_) (fun c6 => ?_)
            · exact absurd c6 (by decide)
            · clear c6
              refine t_go (op := o_iload 137 2) (fe_X12_evening 136) (fun _ _ => rfl) ?_
              refine t_go (op := o_ci 138 3) (fe_X12_evening 137) (fun _ _ => rfl) ?_
              refine t_ite (op := o_icmp 151 141 (fun x y => x = y) (fun _ _ => inferInstance)) (fe_X12_evening 138) g_icmp (fun c7 => ?_) (fun c7 => ?_)
              · clear c7
                refine t_go (op := o_aload 142 0) (fe_X12_evening 141) (fun _ _ => rfl) ?_
                refine t_go (op := o_ci 143 1) (fe_X12_evening 142) (fun _ _ => rfl) ?_
                refine t_go (op := o_ci 145 9) (fe_X12_evening 143) (fun _ _ => rfl) ?_
                refine t_call (op := o_callV 148 175 3 11) (fe_X12_evening 145) (g_callV hS (show (lay 183).1 = 11 by decide) (by decide) rfl rfl rfl (Nat.le_of_ble_eq_true rfl)) ?_
                refine M_eq (r_takeNumberN (lo := 1) (hi2 := 9) hR126 hi2 (by decide) (by decide) hNu) ?_
                refine t_go (op := o_goto 152) (fe_X12_evening 148) (fun _ _ => rfl) ?_
                refine t_go (op := o_iast 153) (fe_X12_evening 152) (g_iastN hS (show lay 194 = (20, 250) by decide) (nIa (nIl 127) (nIm (nIl 3) rfl)) (by omega) (by decide)) ?_
                refine T_heap (show AT (rowI h 194 (fup (fup (fup r (125 + 3 * n1) (nI 3)) (126 + 3 * n1) (nI ix)) (127 + 3 * n1) (nI 0))) (i + 2) (wrF TK (nmF TK (i + 2)) (i + 2) 0) = sI (AT (rowI h 194 (fup (fup r (125 + 3 * n1) (nI 3)) (126 + 3 * n1) (nI ix))) (i + 2) (wrF TK (nmF TK (i + 2)) (i + 2) 0)) 194 (127 + 3 * n1) (nI 0) from by rw [sI_AT (by decide), rowI_up]) ?_
                have hR127 := RQ_r4 (r := (fup (fup (fup r (125 + 3 * n1) (nI 3)) (126 + 3 * n1) (nI ix)) (127 + 3 * n1) (nI 0))) hR
                refine t_go (op := o_iinc 156 1 1) (fe_X12_evening 153) (fun _ _ => rfl) ?_
                rw [nI_1]
                exact hq _
              · exact absurd (by decide) c7
      · exact absurd (by decide) c3
  · exact absurd rfl c1
set_option maxRecDepth 8000 in
theorem r_b3Y {d : Nat} {h : AHP} {TK : Nat → Tk} {n i n1 : Nat} {r : Nat → Int32} {x2 : Option Value} (hR : RQ h TK n) (hi : i ≤ n) (hn0 : ¬ (TK i).1 = 0) (hi1 : i + 1 ≤ n) (h40 : n1 < 40) (hw : isWd TK 10 i 0) {m : Nat} (hm : h.1 183 16 = nI m) (hm7 : m ≤ 7) {ix : Nat} (hN : nmP TK (i + 1)) (hixm : ix < m) (hixk : h.2.1 192 ix = h.2.1 187 (i + 1)) (hix : ∀ a, FIp (fun k => h.2.1 192 k = h.2.1 187 (i + 1)) m a → a = nI ix) (hi2 : i + 2 ≤ n) (hNu : nuP TK 1 9 (i + 2) 0) {Q : Option Value → AHP → Prop} (hq : ∀ x2, TT (d + 6) 187 156 [some (.ref 183), some (.int (nI (n1 + 1))), x2] [] (AT (rowI h 194 (r3F r n1 3 ix (TK (i + 2)).2.2.1)) (i + 3) 0) Q) : TT (d + 6) 187 11 [some (.ref 183), some (.int (nI n1)), x2] [] (AT (rowI h 194 r) i 0) Q := by
  have hR1 := RQ_r4 (r := r) hR
  have hR2 := hR1
  have hS := hR1.1
  have hB := hR.2.2.2.1
  have hn := hR.2.2.1
  refine t_go (op := o_aload 12 0) (fe_X12_evening 11) (fun _ _ => rfl) ?_
  refine t_go (op := o_getI 15 11 8) (fe_X12_evening 12) (g_getI hS (show (lay 183).1 = 11 by decide) (by decide)) ?_
  rw [show (AT (rowI h 194 r) i 0).1 183 8 = nI 0 from AT_8]
  refine t_ite (op := o_if 165 18 (fun x => x = 0) (fun _ => inferInstance)) (fe_X12_evening 15) g_if (fun c1 => ?_) (fun c1 => ?_)
  · refine t_go (op := o_aload 19 0) (fe_X12_evening 18) (fun _ _ => rfl) ?_
    refine t_go (op := o_getR 22 11 4) (fe_X12_evening 19) (g_getR hS (show (lay 183).1 = 11 by decide) (by decide) (fr_11_4 hS) (by decide)) ?_
    refine t_go (op := o_aload 23 0) (fe_X12_evening 22) (fun _ _ => rfl) ?_
    refine t_go (op := o_getI 26 11 7) (fe_X12_evening 23) (g_getI hS (show (lay 183).1 = 11 by decide) (by decide)) ?_
    rw [show (AT (rowI h 194 r) i 0).1 183 7 = nI i from AT_7]
    refine t_go (op := o_iald 27) (fe_X12_evening 26) (g_ialdN hS (show lay 185 = (20, 1002) by decide) rfl (by omega) (by decide)) ?_
    rw [show (AT (rowI h 194 r) i 0).1 185 i = nI (TK i).1 from (congrFun (AT_r (by decide)) i).trans (hR1.2.1 i hi).1]
    refine t_ite (op := o_if 30 165 (fun x => x = 0) (fun _ => inferInstance)) (fe_X12_evening 27) g_if (fun c2 => ?_) (fun c2 => ?_)
    · exact absurd ((nI_eq (b := 0) (by have := (hB i).1; omega) (by decide)).mp c2) hn0
    · refine t_go (op := o_aload 31 0) (fe_X12_evening 30) (fun _ _ => rfl) ?_
      refine t_go (op := o_ci 33 7) (fe_X12_evening 31) (fun _ _ => rfl) ?_
      refine t_go (op := o_ci 34 5) (fe_X12_evening 33) (fun _ _ => rfl) ?_
      refine t_call (op := o_callV 37 177 3 11) (fe_X12_evening 34) (g_callV hS (show (lay 183).1 = 11 by decide) (by decide) rfl rfl rfl (Nat.le_of_ble_eq_true rfl)) ?_
      refine M_eq (r_wordHere (h := rowI h 194 r) (b := 7) (cnt := 5) (f := 0) hR1 hi (by decide) (by decide)) ?_
      rw [show whV TK 7 i 0 5 = 3 from whV_at (q := 3) hw (by decide)]
      refine t_go (op := o_istore 38 2) (fe_X12_evening 37) (fun _ _ => rfl) ?_
      refine t_go (op := o_iload 39 2) (fe_X12_evening 38) (fun _ _ => rfl) ?_
      refine t_ite (op := o_if 42 50 (fun x => 0 ≤ x) (fun _ => inferInstance)) (fe_X12_evening 39) g_if (fun c3 => ?_) (fun c3 => ?_)
      · clear c3
        refine t_go (op := o_iload 51 1) (fe_X12_evening 50) (fun _ _ => rfl) ?_
        refine t_go (op := o_ci 53 40) (fe_X12_evening 51) (fun _ _ => rfl) ?_
        refine t_ite (op := o_icmp 64 56 (fun x y => x = y) (fun _ _ => inferInstance)) (fe_X12_evening 53) g_icmp (fun c4 => ?_) (fun c4 => ?_)
        · exact absurd ((nI_eq (b := 40) (by omega) (by decide)).mp c4) (by omega)
        · refine t_go (op := o_aload 65 0) (fe_X12_evening 64) (fun _ _ => rfl) ?_
          refine t_go (op := o_dupA 66) (fe_X12_evening 65) (fun _ _ => rfl) ?_
          refine t_go (op := o_getI 69 11 7) (fe_X12_evening 66) (g_getI hS (show (lay 183).1 = 11 by decide) (by decide)) ?_
          rw [show (AT (rowI h 194 r) i 0).1 183 7 = nI i from AT_7]
          refine t_go (op := o_ci 70 1) (fe_X12_evening 69) (fun _ _ => rfl) ?_
          refine t_go (op := o_i2 71 (fun x y => x + y)) (fe_X12_evening 70) (fun _ _ => rfl) ?_
          refine t_go (op := o_putI 74 11 7) (fe_X12_evening 71) (g_putI hS (show (lay 183).1 = 11 by decide) (by decide)) ?_
          refine T_heap ((congrArg (sI (AT (rowI h 194 r) i 0) 183 7) (show (fun x y : Int32 => x + y) (nI i) 1 = nI (i + 1) from nI_1 i)).trans AT_7s).symm ?_
          refine t_go (op := o_aload 75 0) (fe_X12_evening 74) (fun _ _ => rfl) ?_
          refine t_go (op := o_getR 78 11 19) (fe_X12_evening 75) (g_getR hS (show (lay 183).1 = 11 by decide) (by decide) (fr_11_19 hS) (by decide)) ?_
          refine t_go (op := o_ci 80 125) (fe_X12_evening 78) (fun _ _ => rfl) ?_
          refine t_go (op := o_ci 81 3) (fe_X12_evening 80) (fun _ _ => rfl) ?_
          refine t_go (op := o_iload 82 1) (fe_X12_evening 81) (fun _ _ => rfl) ?_
          refine t_go (op := o_i2 83 (fun x y => x * y)) (fe_X12_evening 82) (fun _ _ => rfl) ?_
          refine t_go (op := o_i2 84 (fun x y => x + y)) (fe_X12_evening 83) (fun _ _ => rfl) ?_
          refine t_go (op := o_iload 85 2) (fe_X12_evening 84) (fun _ _ => rfl) ?_
          refine t_go (op := o_iast 86) (fe_X12_evening 85) (g_iastN hS (show lay 194 = (20, 250) by decide) (nIa (nIl 125) (nIm (nIl 3) rfl)) (by omega) (by decide)) ?_
          refine T_heap (show AT (rowI h 194 (fup r (125 + 3 * n1) (nI 3))) (i + 1) 0 = sI (AT (rowI h 194 r) (i + 1) 0) 194 (125 + 3 * n1) (nI 3) from by rw [sI_AT (by decide), rowI_up]) ?_
          have hR125 := RQ_r4 (r := (fup r (125 + 3 * n1) (nI 3))) hR
          refine t_go (op := o_aload 87 0) (fe_X12_evening 86) (fun _ _ => rfl) ?_
          refine t_go (op := o_getR 90 11 19) (fe_X12_evening 87) (g_getR hS (show (lay 183).1 = 11 by decide) (by decide) (fr_11_19 hS) (by decide)) ?_
          refine t_go (op := o_ci 92 126) (fe_X12_evening 90) (fun _ _ => rfl) ?_
          refine t_go (op := o_ci 93 3) (fe_X12_evening 92) (fun _ _ => rfl) ?_
          refine t_go (op := o_iload 94 1) (fe_X12_evening 93) (fun _ _ => rfl) ?_
          refine t_go (op := o_i2 95 (fun x y => x * y)) (fe_X12_evening 94) (fun _ _ => rfl) ?_
          refine t_go (op := o_i2 96 (fun x y => x + y)) (fe_X12_evening 95) (fun _ _ => rfl) ?_
          refine t_go (op := o_iload 97 2) (fe_X12_evening 96) (fun _ _ => rfl) ?_
          refine t_go (op := o_ci 98 4) (fe_X12_evening 97) (fun _ _ => rfl) ?_
          refine t_go (op := o_i2d 99 (fun x y => x - x / y * y)) (fe_X12_evening 98) (g_i2d (by decide)) ?_
          refine t_ite (op := o_if 106 102 (fun x => x = 0) (fun _ => inferInstance)) (fe_X12_evening 99) g_if (fun c5 => ?_) (fun c5 => ?_)
          · exact absurd c5 (by decide)
          · refine t_go (op := o_aload 107 0) (fe_X12_evening 106) (fun _ _ => rfl) ?_
            refine t_call (op := o_callV 110 181 1 11) (fe_X12_evening 107) (g_callV hS (show (lay 183).1 = 11 by decide) (by decide) rfl rfl rfl (Nat.le_of_ble_eq_true rfl)) ?_
            refine M_mono ?_ (r_tTY (h := rowI h 194 (fup r (125 + 3 * n1) (nI 3))) hR125 hi1 (show (rowI h 194 (fup r (125 + 3 * n1) (nI 3))).1 183 16 = nI m from (congrFun (rowI_ne (by decide)) 16).trans hm) hm7 hN ⟨_, hixm, hixk⟩)
            rintro _ _ ⟨⟨a8, rfl, hF8⟩, rfl⟩
            rw [show a8 = nI ix from hix a8 hF8]
            refine t_go (op := o_iast 111) (fe_X12_evening 110) (g_iastN hS (show lay 194 = (20, 250) by decide) (nIa (nIl 126) (nIm (nIl 3) rfl)) (by omega) (by decide)) ?_
            refine T_heap (show AT (rowI h 194 (fup (fup r (125 + 3 * n1) (nI 3)) (126 + 3 * n1) (nI ix))) (i + 2) 0 = sI (AT (rowI h 194 (fup r (125 + 3 * n1) (nI 3))) (i + 2) 0) 194 (126 + 3 * n1) (nI ix) from by rw [sI_AT (by decide), rowI_up]) ?_
            have hR126 := RQ_r4 (r := (fup (fup r (125 + 3 * n1) (nI 3)) (126 + 3 * n1) (nI ix))) hR
            refine t_go (op := o_aload 112 0) (fe_X12_evening 111) (fun _ _ => rfl) ?_
            refine t_go (op := o_getR 115 11 19) (fe_X12_evening 112) (g_getR hS (show (lay 183).1 = 11 by decide) (by decide) (fr_11_19 hS) (by decide)) ?_
            refine t_go (op := o_ci 117 127) (fe_X12_evening 115) (fun _ _ => rfl) ?_
            refine t_go (op := o_ci 118 3) (fe_X12_evening 117) (fun _ _ => rfl) ?_
            refine t_go (op := o_iload 119 1) (fe_X12_evening 118) (fun _ _ => rfl) ?_
            refine t_go (op := o_i2 120 (fun x y => x * y)) (fe_X12_evening 119) (fun _ _ => rfl) ?_
            refine t_go (op := o_i2 121 (fun x y => x + y)) (fe_X12_evening 120) (fun _ _ => rfl) ?_
            refine t_go (op := o_iload 122 2) (fe_X12_evening 121) (fun _ _ => rfl) ?_
            refine t_go (op := o_ci 123 2) (fe_X12_evening 122) (fun _ _ => rfl) ?_
            refine t_ite (op := o_icmp 136 126 (fun x y => x = y) (fun _ _ => inferInstance)) (fe_X12_evening 123) g_icmp (fun c6 => ?_) (fun c6 => ?_)
            · exact absurd c6 (by decide)
            · clear c6
              refine t_go (op := o_iload 137 2) (fe_X12_evening 136) (fun _ _ => rfl) ?_
              refine t_go (op := o_ci 138 3) (fe_X12_evening 137) (fun _ _ => rfl) ?_
              refine t_ite (op := o_icmp 151 141 (fun x y => x = y) (fun _ _ => inferInstance)) (fe_X12_evening 138) g_icmp (fun c7 => ?_) (fun c7 => ?_)
              · clear c7
                refine t_go (op := o_aload 142 0) (fe_X12_evening 141) (fun _ _ => rfl) ?_
                refine t_go (op := o_ci 143 1) (fe_X12_evening 142) (fun _ _ => rfl) ?_
                refine t_go (op := o_ci 145 9) (fe_X12_evening 143) (fun _ _ => rfl) ?_
                refine t_call (op := o_callV 148 175 3 11) (fe_X12_evening 145) (g_callV hS (show (lay 183).1 = 11 by decide) (by decide) rfl rfl rfl (Nat.le_of_ble_eq_true rfl)) ?_
                refine M_eq (r_takeNumberY (lo := 1) (hi2 := 9) hR126 hi2 (by decide) (by decide) hNu) ?_
                refine t_go (op := o_goto 152) (fe_X12_evening 148) (fun _ _ => rfl) ?_
                refine t_go (op := o_iast 153) (fe_X12_evening 152) (g_iastN hS (show lay 194 = (20, 250) by decide) (nIa (nIl 127) (nIm (nIl 3) rfl)) (by omega) (by decide)) ?_
                refine T_heap (show AT (rowI h 194 (fup (fup (fup r (125 + 3 * n1) (nI 3)) (126 + 3 * n1) (nI ix)) (127 + 3 * n1) (nI (TK (i + 2)).2.2.1))) (i + 3) 0 = sI (AT (rowI h 194 (fup (fup r (125 + 3 * n1) (nI 3)) (126 + 3 * n1) (nI ix))) (i + 3) 0) 194 (127 + 3 * n1) (nI (TK (i + 2)).2.2.1) from by rw [sI_AT (by decide), rowI_up]) ?_
                have hR127 := RQ_r4 (r := (fup (fup (fup r (125 + 3 * n1) (nI 3)) (126 + 3 * n1) (nI ix)) (127 + 3 * n1) (nI (TK (i + 2)).2.2.1))) hR
                refine t_go (op := o_iinc 156 1 1) (fe_X12_evening 153) (fun _ _ => rfl) ?_
                rw [nI_1]
                exact hq _
              · exact absurd (by decide) c7
      · exact absurd (by decide) c3
  · exact absurd rfl c1
set_option maxRecDepth 8000 in
theorem r_v156Y {d : Nat} {h : AHP} {TK : Nat → Tk} {n i : Nat} (hR : RQ h TK n) (hi : i ≤ n) {n1 : Nat} {x2 : Option Value} (hw : isS TK 59 i 0) {Q : Option Value → AHP → Prop} (hq : TT (d + 6) 187 11 [some (.ref 183), some (.int (nI n1)), x2] [] (AT h (i + 1) 0) Q) : TT (d + 6) 187 156 [some (.ref 183), some (.int (nI n1)), x2] [] (AT h i 0) Q := by
  have hS := hR.1
  have hB := hR.2.2.2.1
  have hn := hR.2.2.1
  refine t_go (op := o_aload 157 0) (fe_X12_evening 156) (fun _ _ => rfl) ?_
  refine t_go (op := o_ci 159 59) (fe_X12_evening 157) (fun _ _ => rfl) ?_
  refine t_call (op := o_callV 162 169 2 11) (fe_X12_evening 159) (g_callV hS (show (lay 183).1 = 11 by decide) (by decide) rfl rfl rfl (Nat.le_of_ble_eq_true rfl)) ?_
  refine M_eq (r_takeSignY (c := 59) hR hi (by decide) hw) ?_
  refine t_go (op := o_goto 11) (fe_X12_evening 162) (fun _ _ => rfl) ?_
  exact hq
set_option maxRecDepth 8000 in
theorem r_v156N {d : Nat} {h : AHP} {TK : Nat → Tk} {n i : Nat} (hR : RQ h TK n) (hi : i ≤ n) {n1 : Nat} {x2 : Option Value} (hw : ¬ isS TK 59 i 0) {Q : Option Value → AHP → Prop} (hq : TT (d + 6) 187 11 [some (.ref 183), some (.int (nI n1)), x2] [] (AT h i (wrF TK 1 i 0)) Q) : TT (d + 6) 187 156 [some (.ref 183), some (.int (nI n1)), x2] [] (AT h i 0) Q := by
  have hS := hR.1
  have hB := hR.2.2.2.1
  have hn := hR.2.2.1
  refine t_go (op := o_aload 157 0) (fe_X12_evening 156) (fun _ _ => rfl) ?_
  refine t_go (op := o_ci 159 59) (fe_X12_evening 157) (fun _ _ => rfl) ?_
  refine t_call (op := o_callV 162 169 2 11) (fe_X12_evening 159) (g_callV hS (show (lay 183).1 = 11 by decide) (by decide) rfl rfl rfl (Nat.le_of_ble_eq_true rfl)) ?_
  refine M_eq (r_takeSignN (c := 59) hR hi (by decide) hw) ?_
  refine t_go (op := o_goto 11) (fe_X12_evening 162) (fun _ _ => rfl) ?_
  exact hq
set_option maxRecDepth 8000 in
theorem r_v156F {d : Nat} {h : AHP} {TK : Nat → Tk} {n i f : Nat} (hR : RQ h TK n) (hi : i ≤ n) (hf : f < 100000) (h0 : ¬ f = 0) {n1 : Nat} {x2 : Option Value} {Q : Option Value → AHP → Prop} (hq : TT (d + 6) 187 11 [some (.ref 183), some (.int (nI n1)), x2] [] (AT h i f) Q) : TT (d + 6) 187 156 [some (.ref 183), some (.int (nI n1)), x2] [] (AT h i f) Q := by
  have hS := hR.1
  have hB := hR.2.2.2.1
  have hn := hR.2.2.1
  refine t_go (op := o_aload 157 0) (fe_X12_evening 156) (fun _ _ => rfl) ?_
  refine t_go (op := o_ci 159 59) (fe_X12_evening 157) (fun _ _ => rfl) ?_
  refine t_call (op := o_callV 162 169 2 11) (fe_X12_evening 159) (g_callV hS (show (lay 183).1 = 11 by decide) (by decide) rfl rfl rfl (Nat.le_of_ble_eq_true rfl)) ?_
  refine M_eq (r_takeSignF (c := 59) hR hi hf h0 (by decide)) ?_
  refine t_go (op := o_goto 11) (fe_X12_evening 162) (fun _ _ => rfl) ?_
  exact hq
