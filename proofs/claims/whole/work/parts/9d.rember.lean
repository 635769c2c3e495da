/-! ===== the reference reads an ember: whole ===== -/
def nmP (TK : Nat → Tk) (j : Nat) : Prop := (TK j).1 = 1 ∧ 19 ≤ (TK j).2.2.1
/-- the fault of an ember's line, but for its end -/
noncomputable def eF (TK : Nat → Tk) (i m : Nat) (uN uC : Prop) : Nat :=
  cI (m = 7) (wrF TK 5 i 0) (cI (¬ nmP TK (i + 1)) (wrF TK 1 (i + 1) 0) (cI uN (wrF TK 3 (i + 1) 0) (cI (¬ whP TK 12 (i + 2) 0 4) (wrF TK 1 (i + 2) 0) (cI (¬ isWd TK 1 (i + 3) 0) (wrF TK 1 (i + 3) 0) (cI (¬ nuP TK 0 11 (i + 4) 0) (wrF TK (nmF TK (i + 4)) (i + 4) 0) (cI uC (wrF TK 3 (i + 4) 0) (cI (¬ isWd TK 2 (i + 5) 0) (wrF TK 1 (i + 5) 0) (cI (¬ nuP TK 0 20 (i + 6) 0) (wrF TK (nmF TK (i + 6)) (i + 6) 0) (cI (¬ isWd TK 3 (i + 7) 0) (wrF TK 1 (i + 7) 0) (cI (¬ nuP TK 1 20 (i + 8) 0) (wrF TK (nmF TK (i + 8)) (i + 8) 0) 0))))))))))
theorem FIp_y {P : Nat → Prop} {m : Nat} {a : Int32} (hm : m ≤ 7) (h : FIp P m a) : a < 0 ↔ ¬ ∃ k, k < m ∧ P k := by
  rcases h with ⟨k, k1, k2, _, k4⟩ | ⟨k1, k2⟩
  · subst k4
    exact ⟨fun q => absurd q (nI_pos (by omega)), fun q => absurd ⟨k, k1, k2⟩ q⟩
  · subst k2
    exact ⟨fun _ ⟨k, q1, q2⟩ => k1 k q1 q2, fun _ => by decide⟩
def emH (h : AHP) (i m : Nat) (nm : Int64) (a b c e : Int32) : AHP := sI (sI (sJ (sI (sI (sI (sI (AT h i 0) 189 (54 + 4 * m) a) 189 (54 + 4 * m + 1) b) 189 (54 + 4 * m + 2) c) 189 (54 + 4 * m + 3) e) 193 m nm) 183 17 (nI (m + 1))) 189 50 (nI (m + 1))
set_option maxRecDepth 8000 in
theorem r_eA5 {d : Nat} {h : AHP} {TK : Nat → Tk} {n i : Nat} (hR : RQ h TK n) (hi : i ≤ n) {m : Nat} (hm : h.1 183 17 = nI m) (hm7 : m ≤ 7) (h7 : m = 7) : MM (d + 5) 184 [.ref 183] (AT h i 0) (fun v h2 => v = none ∧ h2 = AT h i (wrF TK 5 i 0)) := by
  refine ⟨Nat.le_of_ble_eq_true rfl, ?_⟩
  have hS := hR.1
  have hB := hR.2.2.2.1
  have hn := hR.2.2.1
  refine t_go (op := o_aload 1 0) (fe_X12_readEmber 0) (fun _ _ => rfl) ?_
  refine t_go (op := o_getI 4 11 17) (fe_X12_readEmber 1) (g_getI hS (show (lay 183).1 = 11 by decide) (by decide)) ?_
  rw [show (AT h i 0).1 183 17 = nI m from (AT_o (by decide) (by decide)).trans hm]
  refine t_go (op := o_ci 6 7) (fe_X12_readEmber 4) (fun _ _ => rfl) ?_
  refine t_ite (op := o_icmp 15 9 (fun x y => x = y) (fun _ _ => inferInstance)) (fe_X12_readEmber 6) g_icmp (fun c1 => ?_) (fun c1 => ?_)
  · refine t_go (op := o_aload 10 0) (fe_X12_readEmber 9) (fun _ _ => rfl) ?_
    refine t_go (op := o_ci 11 5) (fe_X12_readEmber 10) (fun _ _ => rfl) ?_
    refine t_call (op := o_callV 14 166 2 11) (fe_X12_readEmber 11) (g_callV hS (show (lay 183).1 = 11 by decide) (by decide) rfl rfl rfl (Nat.le_of_ble_eq_true rfl)) ?_
    refine M_eq (r_wrong (c := 5) (f := 0) hR hi (by decide)) ?_
    refine t_ret (op := o_vret) (fe_X12_readEmber 14) (fun _ _ => rfl) ?_
    exact ⟨rfl, rfl⟩
  · exact absurd (by rw [h7]; rfl) c1
set_option maxRecDepth 8000 in
theorem r_eA1 {d : Nat} {h : AHP} {TK : Nat → Tk} {n i : Nat} (hR : RQ h TK n) (hi : i ≤ n) {m : Nat} (hm : h.1 183 17 = nI m) (hm7 : m ≤ 7) (h7 : ¬ m = 7) (hi1 : i + 1 ≤ n) (hN : ¬ nmP TK (i + 1)) : MM (d + 5) 184 [.ref 183] (AT h i 0) (fun v h2 => v = none ∧ h2 = AT h (i + 1) (wrF TK 1 (i + 1) 0)) := by
  refine ⟨Nat.le_of_ble_eq_true rfl, ?_⟩
  have hS := hR.1
  have hB := hR.2.2.2.1
  have hn := hR.2.2.1
  refine t_go (op := o_aload 1 0) (fe_X12_readEmber 0) (fun _ _ => rfl) ?_
  refine t_go (op := o_getI 4 11 17) (fe_X12_readEmber 1) (g_getI hS (show (lay 183).1 = 11 by decide) (by decide)) ?_
  rw [show (AT h i 0).1 183 17 = nI m from (AT_o (by decide) (by decide)).trans hm]
  refine t_go (op := o_ci 6 7) (fe_X12_readEmber 4) (fun _ _ => rfl) ?_
  refine t_ite (op := o_icmp 15 9 (fun x y => x = y) (fun _ _ => inferInstance)) (fe_X12_readEmber 6) g_icmp (fun c1 => ?_) (fun c1 => ?_)
  · exact absurd ((nI_eq (b := 7) (by omega) (by decide)).mp c1) h7
  · refine t_go (op := o_aload 16 0) (fe_X12_readEmber 15) (fun _ _ => rfl) ?_
    refine t_go (op := o_dupA 17) (fe_X12_readEmber 16) (fun _ _ => rfl) ?_
    refine t_go (op := o_getI 20 11 7) (fe_X12_readEmber 17) (g_getI hS (show (lay 183).1 = 11 by decide) (by decide)) ?_
    rw [show (AT h i 0).1 183 7 = nI i from AT_7]
    refine t_go (op := o_ci 21 1) (fe_X12_readEmber 20) (fun _ _ => rfl) ?_
    refine t_go (op := o_i2 22 (fun x y => x + y)) (fe_X12_readEmber 21) (fun _ _ => rfl) ?_
    refine t_go (op := o_putI 25 11 7) (fe_X12_readEmber 22) (g_putI hS (show (lay 183).1 = 11 by decide) (by decide)) ?_
    refine T_heap ((congrArg (sI (AT h i 0) 183 7) (show (fun x y : Int32 => x + y) (nI i) 1 = nI (i + 1) from nI_1 i)).trans AT_7s).symm ?_
    refine t_go (op := o_aload 26 0) (fe_X12_readEmber 25) (fun _ _ => rfl) ?_
    refine t_call (op := o_callV 29 179 1 11) (fe_X12_readEmber 26) (g_callV hS (show (lay 183).1 = 11 by decide) (by decide) rfl rfl rfl (Nat.le_of_ble_eq_true rfl)) ?_
    refine M_eq (r_isName (f := 0) hR hi1 (by decide)) ?_
    refine t_ite (op := o_if 40 32 (fun x => x = 0) (fun _ => inferInstance)) (fe_X12_readEmber 29) g_if (fun c2 => ?_) (fun c2 => ?_)
    · replace c2 := b2i_z c2
      refine t_go (op := o_aload 33 0) (fe_X12_readEmber 32) (fun _ _ => rfl) ?_
      refine t_go (op := o_ci 34 1) (fe_X12_readEmber 33) (fun _ _ => rfl) ?_
      refine t_call (op := o_callV 37 166 2 11) (fe_X12_readEmber 34) (g_callV hS (show (lay 183).1 = 11 by decide) (by decide) rfl rfl rfl (Nat.le_of_ble_eq_true rfl)) ?_
      refine M_eq (r_wrong (c := 1) (f := 0) hR hi1 (by decide)) ?_
      refine t_go (op := o_goto 53) (fe_X12_readEmber 37) (fun _ _ => rfl) ?_
      exact r_re53 hR hi1 (wr0_b hB (by decide)) (wrF_p (by decide)) ⟨rfl, rfl⟩
    · exact absurd (b2i_nn c2).2 hN
set_option maxRecDepth 8000 in
theorem r_eA3 {d : Nat} {h : AHP} {TK : Nat → Tk} {n i : Nat} (hR : RQ h TK n) (hi : i ≤ n) {m : Nat} (hm : h.1 183 17 = nI m) (hm7 : m ≤ 7) (h7 : ¬ m = 7) (hi1 : i + 1 ≤ n) (hN : nmP TK (i + 1)) (hu : ∃ k, k < m ∧ h.2.1 193 k = h.2.1 187 (i + 1)) : MM (d + 5) 184 [.ref 183] (AT h i 0) (fun v h2 => v = none ∧ h2 = AT h (i + 1) (wrF TK 3 (i + 1) 0)) := by
  refine ⟨Nat.le_of_ble_eq_true rfl, ?_⟩
  have hS := hR.1
  have hB := hR.2.2.2.1
  have hn := hR.2.2.1
  refine t_go (op := o_aload 1 0) (fe_X12_readEmber 0) (fun _ _ => rfl) ?_
  refine t_go (op := o_getI 4 11 17) (fe_X12_readEmber 1) (g_getI hS (show (lay 183).1 = 11 by decide) (by decide)) ?_
  rw [show (AT h i 0).1 183 17 = nI m from (AT_o (by decide) (by decide)).trans hm]
  refine t_go (op := o_ci 6 7) (fe_X12_readEmber 4) (fun _ _ => rfl) ?_
  refine t_ite (op := o_icmp 15 9 (fun x y => x = y) (fun _ _ => inferInstance)) (fe_X12_readEmber 6) g_icmp (fun c1 => ?_) (fun c1 => ?_)
  · exact absurd ((nI_eq (b := 7) (by omega) (by decide)).mp c1) h7
  · refine t_go (op := o_aload 16 0) (fe_X12_readEmber 15) (fun _ _ => rfl) ?_
    refine t_go (op := o_dupA 17) (fe_X12_readEmber 16) (fun _ _ => rfl) ?_
    refine t_go (op := o_getI 20 11 7) (fe_X12_readEmber 17) (g_getI hS (show (lay 183).1 = 11 by decide) (by decide)) ?_
    rw [show (AT h i 0).1 183 7 = nI i from AT_7]
    refine t_go (op := o_ci 21 1) (fe_X12_readEmber 20) (fun _ _ => rfl) ?_
    refine t_go (op := o_i2 22 (fun x y => x + y)) (fe_X12_readEmber 21) (fun _ _ => rfl) ?_
    refine t_go (op := o_putI 25 11 7) (fe_X12_readEmber 22) (g_putI hS (show (lay 183).1 = 11 by decide) (by decide)) ?_
    refine T_heap ((congrArg (sI (AT h i 0) 183 7) (show (fun x y : Int32 => x + y) (nI i) 1 = nI (i + 1) from nI_1 i)).trans AT_7s).symm ?_
    refine t_go (op := o_aload 26 0) (fe_X12_readEmber 25) (fun _ _ => rfl) ?_
    refine t_call (op := o_callV 29 179 1 11) (fe_X12_readEmber 26) (g_callV hS (show (lay 183).1 = 11 by decide) (by decide) rfl rfl rfl (Nat.le_of_ble_eq_true rfl)) ?_
    refine M_eq (r_isName (f := 0) hR hi1 (by decide)) ?_
    refine t_ite (op := o_if 40 32 (fun x => x = 0) (fun _ => inferInstance)) (fe_X12_readEmber 29) g_if (fun c2 => ?_) (fun c2 => ?_)
    · exact absurd (show 0 = 0 ∧ nmP TK (i + 1) from ⟨rfl, hN⟩) (b2i_z c2)
    · replace c2 := b2i_nn c2
      refine t_go (op := o_aload 41 0) (fe_X12_readEmber 40) (fun _ _ => rfl) ?_
      refine t_go (op := o_ci 42 1) (fe_X12_readEmber 41) (fun _ _ => rfl) ?_
      refine t_call (op := o_callV 45 180 2 11) (fe_X12_readEmber 42) (g_callV hS (show (lay 183).1 = 11 by decide) (by decide) rfl rfl rfl (Nat.le_of_ble_eq_true rfl)) ?_
      refine M_mono ?_ (r_nameAtT hR hi1 hm hm7)
      rintro _ _ ⟨⟨a9, rfl, hF9⟩, rfl⟩
      refine t_ite (op := o_if 48 53 (fun x => x < 0) (fun _ => inferInstance)) (fe_X12_readEmber 45) g_if (fun c3 => ?_) (fun c3 => ?_)
      · exact absurd hu ((FIp_y hm7 hF9).mp c3)
      · refine t_go (op := o_aload 49 0) (fe_X12_readEmber 48) (fun _ _ => rfl) ?_
        refine t_go (op := o_ci 50 3) (fe_X12_readEmber 49) (fun _ _ => rfl) ?_
        refine t_call (op := o_callV 53 166 2 11) (fe_X12_readEmber 50) (g_callV hS (show (lay 183).1 = 11 by decide) (by decide) rfl rfl rfl (Nat.le_of_ble_eq_true rfl)) ?_
        refine M_eq (r_wrong (c := 3) (f := 0) hR hi1 (by decide)) ?_
        exact r_re53 hR hi1 (wr0_b hB (by decide)) (wrF_p (by decide)) ⟨rfl, rfl⟩
set_option maxRecDepth 8000 in
theorem r_eA {d : Nat} {h : AHP} {TK : Nat → Tk} {n i : Nat} (hR : RQ h TK n) (hi : i ≤ n) {m : Nat} (hm : h.1 183 17 = nI m) (hm7 : m ≤ 7) (h7 : ¬ m = 7) (hi1 : i + 1 ≤ n) {Q : Option Value → AHP → Prop} (hN : nmP TK (i + 1)) (hu : ¬ (∃ k, k < m ∧ h.2.1 193 k = h.2.1 187 (i + 1))) (hq : ∀ nm, nm = h.2.1 187 (i + 1) → TT (d + 5) 184 81 [some (.ref 183), some (.long nm), none, none, none, none, none, none] [] (AT h (i + 2) 0) Q) : MM (d + 5) 184 [.ref 183] (AT h i 0) (fun v h2 => Q v h2) := by
  refine ⟨Nat.le_of_ble_eq_true rfl, ?_⟩
  have hS := hR.1
  have hB := hR.2.2.2.1
  have hn := hR.2.2.1
  refine t_go (op := o_aload 1 0) (fe_X12_readEmber 0) (fun _ _ => rfl) ?_
  refine t_go (op := o_getI 4 11 17) (fe_X12_readEmber 1) (g_getI hS (show (lay 183).1 = 11 by decide) (by decide)) ?_
  rw [show (AT h i 0).1 183 17 = nI m from (AT_o (by decide) (by decide)).trans hm]
  refine t_go (op := o_ci 6 7) (fe_X12_readEmber 4) (fun _ _ => rfl) ?_
  refine t_ite (op := o_icmp 15 9 (fun x y => x = y) (fun _ _ => inferInstance)) (fe_X12_readEmber 6) g_icmp (fun c1 => ?_) (fun c1 => ?_)
  · exact absurd ((nI_eq (b := 7) (by omega) (by decide)).mp c1) h7
  · refine t_go (op := o_aload 16 0) (fe_X12_readEmber 15) (fun _ _ => rfl) ?_
    refine t_go (op := o_dupA 17) (fe_X12_readEmber 16) (fun _ _ => rfl) ?_
    refine t_go (op := o_getI 20 11 7) (fe_X12_readEmber 17) (g_getI hS (show (lay 183).1 = 11 by decide) (by decide)) ?_
    rw [show (AT h i 0).1 183 7 = nI i from AT_7]
    refine t_go (op := o_ci 21 1) (fe_X12_readEmber 20) (fun _ _ => rfl) ?_
    refine t_go (op := o_i2 22 (fun x y => x + y)) (fe_X12_readEmber 21) (fun _ _ => rfl) ?_
    refine t_go (op := o_putI 25 11 7) (fe_X12_readEmber 22) (g_putI hS (show (lay 183).1 = 11 by decide) (by decide)) ?_
    refine T_heap ((congrArg (sI (AT h i 0) 183 7) (show (fun x y : Int32 => x + y) (nI i) 1 = nI (i + 1) from nI_1 i)).trans AT_7s).symm ?_
    refine t_go (op := o_aload 26 0) (fe_X12_readEmber 25) (fun _ _ => rfl) ?_
    refine t_call (op := o_callV 29 179 1 11) (fe_X12_readEmber 26) (g_callV hS (show (lay 183).1 = 11 by decide) (by decide) rfl rfl rfl (Nat.le_of_ble_eq_true rfl)) ?_
    refine M_eq (r_isName (f := 0) hR hi1 (by decide)) ?_
    refine t_ite (op := o_if 40 32 (fun x => x = 0) (fun _ => inferInstance)) (fe_X12_readEmber 29) g_if (fun c2 => ?_) (fun c2 => ?_)
    · exact absurd (show 0 = 0 ∧ nmP TK (i + 1) from ⟨rfl, hN⟩) (b2i_z c2)
    · replace c2 := b2i_nn c2
      refine t_go (op := o_aload 41 0) (fe_X12_readEmber 40) (fun _ _ => rfl) ?_
      refine t_go (op := o_ci 42 1) (fe_X12_readEmber 41) (fun _ _ => rfl) ?_
      refine t_call (op := o_callV 45 180 2 11) (fe_X12_readEmber 42) (g_callV hS (show (lay 183).1 = 11 by decide) (by decide) rfl rfl rfl (Nat.le_of_ble_eq_true rfl)) ?_
      refine M_mono ?_ (r_nameAtT hR hi1 hm hm7)
      rintro _ _ ⟨⟨a9, rfl, hF9⟩, rfl⟩
      refine t_ite (op := o_if 48 53 (fun x => x < 0) (fun _ => inferInstance)) (fe_X12_readEmber 45) g_if (fun c3 => ?_) (fun c3 => ?_)
      · refine t_go (op := o_aload 54 0) (fe_X12_readEmber 53) (fun _ _ => rfl) ?_
        refine t_go (op := o_getI 57 11 8) (fe_X12_readEmber 54) (g_getI hS (show (lay 183).1 = 11 by decide) (by decide)) ?_
        rw [show (AT h (i + 1) 0).1 183 8 = nI 0 from AT_8]
        refine t_ite (op := o_if 60 61 (fun x => x ≤ 0) (fun _ => inferInstance)) (fe_X12_readEmber 57) g_if (fun c4 => ?_) (fun c4 => ?_)
        · refine t_go (op := o_aload 62 0) (fe_X12_readEmber 61) (fun _ _ => rfl) ?_
          refine t_go (op := o_getR 65 11 6) (fe_X12_readEmber 62) (g_getR hS (show (lay 183).1 = 11 by decide) (by decide) (fr_11_6 hS) (by decide)) ?_
          refine t_go (op := o_aload 66 0) (fe_X12_readEmber 65) (fun _ _ => rfl) ?_
          refine t_go (op := o_getI 69 11 7) (fe_X12_readEmber 66) (g_getI hS (show (lay 183).1 = 11 by decide) (by decide)) ?_
          rw [show (AT h (i + 1) 0).1 183 7 = nI (i + 1) from AT_7]
          refine t_go (op := o_lald 70) (fe_X12_readEmber 69) (g_laldN hS (show lay 187 = (21, 1002) by decide) rfl (by omega) (by decide)) ?_
          refine t_go (op := o_lstore 71 1) (fe_X12_readEmber 70) (fun _ _ => rfl) ?_
          refine t_go (op := o_aload 72 0) (fe_X12_readEmber 71) (fun _ _ => rfl) ?_
          refine t_go (op := o_dupA 73) (fe_X12_readEmber 72) (fun _ _ => rfl) ?_
          refine t_go (op := o_getI 76 11 7) (fe_X12_readEmber 73) (g_getI hS (show (lay 183).1 = 11 by decide) (by decide)) ?_
          rw [show (AT h (i + 1) 0).1 183 7 = nI (i + 1) from AT_7]
          refine t_go (op := o_ci 77 1) (fe_X12_readEmber 76) (fun _ _ => rfl) ?_
          refine t_go (op := o_i2 78 (fun x y => x + y)) (fe_X12_readEmber 77) (fun _ _ => rfl) ?_
          refine t_go (op := o_putI 81 11 7) (fe_X12_readEmber 78) (g_putI hS (show (lay 183).1 = 11 by decide) (by decide)) ?_
          refine T_heap ((congrArg (sI (AT h (i + 1) 0) 183 7) (show (fun x y : Int32 => x + y) (nI (i + 1)) 1 = nI (i + 2) from nI_1 (i + 1))).trans AT_7s).symm ?_
          exact hq _ rfl
        · exact absurd (Int32.le_refl _) c4
      · exact absurd ((FIp_y hm7 hF9).mpr hu) c3
set_option maxRecDepth 8000 in
theorem r_eB1 {d : Nat} {h : AHP} {TK : Nat → Tk} {n i : Nat} (hR : RQ h TK n) (hi : i ≤ n) {m : Nat} (hm : h.1 183 17 = nI m) (hm7 : m ≤ 7) {nm : Int64} (hw : ¬ whP TK 12 i 0 4) {Q : Option Value → AHP → Prop} (hq : Q none (AT h i (wrF TK 1 i 0))) : TT (d + 5) 184 81 [some (.ref 183), some (.long nm), none, none, none, none, none, none] [] (AT h i 0) Q := by
  have hS := hR.1
  have hB := hR.2.2.2.1
  have hn := hR.2.2.1
  refine t_go (op := o_aload 82 0) (fe_X12_readEmber 81) (fun _ _ => rfl) ?_
  refine t_go (op := o_ci 84 12) (fe_X12_readEmber 82) (fun _ _ => rfl) ?_
  refine t_go (op := o_ci 85 4) (fe_X12_readEmber 84) (fun _ _ => rfl) ?_
  refine t_call (op := o_callV 88 178 3 11) (fe_X12_readEmber 85) (g_callV hS (show (lay 183).1 = 11 by decide) (by decide) rfl rfl rfl (Nat.le_of_ble_eq_true rfl)) ?_
  refine M_eq (r_takeOneN (b := 12) (cnt := 4) hR hi (by decide) hw) ?_
  refine t_go (op := o_istore 89 3) (fe_X12_readEmber 88) (fun _ _ => rfl) ?_
  exact r_re89 hR hi (wr0_b hB (by decide)) (wrF_p (by decide)) hm hm7 hq
set_option maxRecDepth 8000 in
theorem r_eB {d : Nat} {h : AHP} {TK : Nat → Tk} {n i : Nat} (hR : RQ h TK n) (hi : i ≤ n) {m : Nat} (hm : h.1 183 17 = nI m) (hm7 : m ≤ 7) {nm : Int64} (hw : whP TK 12 i 0 4) {Q : Option Value → AHP → Prop} (hq : TT (d + 5) 184 89 [some (.ref 183), some (.long nm), none, some (.int (nI ((TK i).2.2.1 - 12))), none, none, none, none] [] (AT h (i + 1) 0) Q) : TT (d + 5) 184 81 [some (.ref 183), some (.long nm), none, none, none, none, none, none] [] (AT h i 0) Q := by
  have hS := hR.1
  have hB := hR.2.2.2.1
  have hn := hR.2.2.1
  refine t_go (op := o_aload 82 0) (fe_X12_readEmber 81) (fun _ _ => rfl) ?_
  refine t_go (op := o_ci 84 12) (fe_X12_readEmber 82) (fun _ _ => rfl) ?_
  refine t_go (op := o_ci 85 4) (fe_X12_readEmber 84) (fun _ _ => rfl) ?_
  refine t_call (op := o_callV 88 178 3 11) (fe_X12_readEmber 85) (g_callV hS (show (lay 183).1 = 11 by decide) (by decide) rfl rfl rfl (Nat.le_of_ble_eq_true rfl)) ?_
  refine M_eq (r_takeOneY (b := 12) (cnt := 4) hR hi (by decide) hw) ?_
  refine t_go (op := o_istore 89 3) (fe_X12_readEmber 88) (fun _ _ => rfl) ?_
  exact hq
set_option maxRecDepth 8000 in
theorem r_eC1 {d : Nat} {h : AHP} {TK : Nat → Tk} {n i : Nat} (hR : RQ h TK n) (hi : i ≤ n) {m : Nat} (hm : h.1 183 17 = nI m) (hm7 : m ≤ 7) {nm : Int64} {x3 : Int32} (hw : ¬ isWd TK 1 i 0) {Q : Option Value → AHP → Prop} (hq : Q none (AT h i (wrF TK 1 i 0))) : TT (d + 5) 184 89 [some (.ref 183), some (.long nm), none, some (.int x3), none, none, none, none] [] (AT h i 0) Q := by
  have hS := hR.1
  have hB := hR.2.2.2.1
  have hn := hR.2.2.1
  refine t_go (op := o_aload 90 0) (fe_X12_readEmber 89) (fun _ _ => rfl) ?_
  refine t_call (op := o_callV 93 183 1 11) (fe_X12_readEmber 90) (g_callV hS (show (lay 183).1 = 11 by decide) (by decide) rfl rfl rfl (Nat.le_of_ble_eq_true rfl)) ?_
  refine M_eq (r_takeCellN hR hi hw hm hm7) ?_
  refine t_go (op := o_istore 95 4) (fe_X12_readEmber 93) (fun _ _ => rfl) ?_
  exact r_re95 hR hi (wr0_b hB (by decide)) (wrF_p (by decide)) hm hm7 hq
set_option maxRecDepth 8000 in
theorem r_eC2 {d : Nat} {h : AHP} {TK : Nat → Tk} {n i : Nat} (hR : RQ h TK n) (hi : i ≤ n) {m : Nat} (hm : h.1 183 17 = nI m) (hm7 : m ≤ 7) {nm : Int64} {x3 : Int32} (hw : isWd TK 1 i 0) (hi1 : i + 1 ≤ n) (hN : ¬ nuP TK 0 11 (i + 1) 0) {Q : Option Value → AHP → Prop} (hq : Q none (AT h (i + 1) (wrF TK (nmF TK (i + 1)) (i + 1) 0))) : TT (d + 5) 184 89 [some (.ref 183), some (.long nm), none, some (.int x3), none, none, none, none] [] (AT h i 0) Q := by
  have hS := hR.1
  have hB := hR.2.2.2.1
  have hn := hR.2.2.1
  refine t_go (op := o_aload 90 0) (fe_X12_readEmber 89) (fun _ _ => rfl) ?_
  refine t_call (op := o_callV 93 183 1 11) (fe_X12_readEmber 90) (g_callV hS (show (lay 183).1 = 11 by decide) (by decide) rfl rfl rfl (Nat.le_of_ble_eq_true rfl)) ?_
  refine M_eq (r_takeCellM hR hi hw hi1 hN hm hm7) ?_
  refine t_go (op := o_istore 95 4) (fe_X12_readEmber 93) (fun _ _ => rfl) ?_
  exact r_re95 hR hi1 (wr0_b hB nmF_5.2) (wrF_p nmF_5.1) hm hm7 hq
set_option maxRecDepth 8000 in
theorem r_eC3 {d : Nat} {h : AHP} {TK : Nat → Tk} {n i : Nat} (hR : RQ h TK n) (hi : i ≤ n) {m : Nat} (hm : h.1 183 17 = nI m) (hm7 : m ≤ 7) {nm : Int64} {x3 : Int32} (hw : isWd TK 1 i 0) (hi1 : i + 1 ≤ n) (hN : nuP TK 0 11 (i + 1) 0) (hu : ∃ k, k < m ∧ h.1 189 (55 + 4 * k) = nI (TK (i + 1)).2.2.1) {Q : Option Value → AHP → Prop} (hq : Q none (AT h (i + 1) (wrF TK 3 (i + 1) 0))) : TT (d + 5) 184 89 [some (.ref 183), some (.long nm), none, some (.int x3), none, none, none, none] [] (AT h i 0) Q := by
  have hS := hR.1
  have hB := hR.2.2.2.1
  have hn := hR.2.2.1
  refine t_go (op := o_aload 90 0) (fe_X12_readEmber 89) (fun _ _ => rfl) ?_
  refine t_call (op := o_callV 93 183 1 11) (fe_X12_readEmber 90) (g_callV hS (show (lay 183).1 = 11 by decide) (by decide) rfl rfl rfl (Nat.le_of_ble_eq_true rfl)) ?_
  refine M_eq (M_mono (fun _ _ q => q hu) (r_takeCellU hR hi hw hi1 hN hm hm7)) ?_
  refine t_go (op := o_istore 95 4) (fe_X12_readEmber 93) (fun _ _ => rfl) ?_
  exact r_re95 hR hi1 (wr0_b hB (by decide)) (wrF_p (by decide)) hm hm7 hq
set_option maxRecDepth 8000 in
theorem r_eC {d : Nat} {h : AHP} {TK : Nat → Tk} {n i : Nat} (hR : RQ h TK n) (hi : i ≤ n) {m : Nat} (hm : h.1 183 17 = nI m) (hm7 : m ≤ 7) {nm : Int64} {x3 : Int32} (hw : isWd TK 1 i 0) (hi1 : i + 1 ≤ n) (hN : nuP TK 0 11 (i + 1) 0) (hu : ¬ (∃ k, k < m ∧ h.1 189 (55 + 4 * k) = nI (TK (i + 1)).2.2.1)) {Q : Option Value → AHP → Prop} (hq : TT (d + 5) 184 95 [some (.ref 183), some (.long nm), none, some (.int x3), some (.int (nI (TK (i + 1)).2.2.1)), none, none, none] [] (AT h (i + 2) 0) Q) : TT (d + 5) 184 89 [some (.ref 183), some (.long nm), none, some (.int x3), none, none, none, none] [] (AT h i 0) Q := by
  have hS := hR.1
  have hB := hR.2.2.2.1
  have hn := hR.2.2.1
  refine t_go (op := o_aload 90 0) (fe_X12_readEmber 89) (fun _ _ => rfl) ?_
  refine t_call (op := o_callV 93 183 1 11) (fe_X12_readEmber 90) (g_callV hS (show (lay 183).1 = 11 by decide) (by decide) rfl rfl rfl (Nat.le_of_ble_eq_true rfl)) ?_
  refine M_eq (M_mono (fun _ _ q => q hu) (r_takeCellY hR hi hw hi1 hN hm hm7)) ?_
  refine t_go (op := o_istore 95 4) (fe_X12_readEmber 93) (fun _ _ => rfl) ?_
  exact hq
set_option maxRecDepth 8000 in
theorem r_eD1 {d : Nat} {h : AHP} {TK : Nat → Tk} {n i : Nat} (hR : RQ h TK n) (hi : i ≤ n) {m : Nat} (hm : h.1 183 17 = nI m) (hm7 : m ≤ 7) {nm : Int64} {x3 x4 : Int32} (hw : ¬ isWd TK 2 i 0) {Q : Option Value → AHP → Prop} (hq : Q none (AT h i (wrF TK 1 i 0))) : TT (d + 5) 184 95 [some (.ref 183), some (.long nm), none, some (.int x3), some (.int x4), none, none, none] [] (AT h i 0) Q := by
  have hS := hR.1
  have hB := hR.2.2.2.1
  have hn := hR.2.2.1
  refine t_go (op := o_aload 96 0) (fe_X12_readEmber 95) (fun _ _ => rfl) ?_
  refine t_go (op := o_ci 97 2) (fe_X12_readEmber 96) (fun _ _ => rfl) ?_
  refine t_go (op := o_ci 98 0) (fe_X12_readEmber 97) (fun _ _ => rfl) ?_
  refine t_go (op := o_ci 100 20) (fe_X12_readEmber 98) (fun _ _ => rfl) ?_
  refine t_call (op := o_callV 103 176 4 11) (fe_X12_readEmber 100) (g_callV hS (show (lay 183).1 = 11 by decide) (by decide) rfl rfl rfl (Nat.le_of_ble_eq_true rfl)) ?_
  refine M_eq (r_takeAfterN (c := 2) (lo := 0) (hi2 := 20) hR hi (by decide) (by decide) (by decide) hw) ?_
  refine t_go (op := o_istore 105 5) (fe_X12_readEmber 103) (fun _ _ => rfl) ?_
  exact r_re105 hR hi (wr0_b hB (by decide)) (wrF_p (by decide)) hm hm7 hq
set_option maxRecDepth 8000 in
theorem r_eD2 {d : Nat} {h : AHP} {TK : Nat → Tk} {n i : Nat} (hR : RQ h TK n) (hi : i ≤ n) {m : Nat} (hm : h.1 183 17 = nI m) (hm7 : m ≤ 7) {nm : Int64} {x3 x4 : Int32} (hw : isWd TK 2 i 0) (hi1 : i + 1 ≤ n) (hN : ¬ nuP TK 0 20 (i + 1) 0) {Q : Option Value → AHP → Prop} (hq : Q none (AT h (i + 1) (wrF TK (nmF TK (i + 1)) (i + 1) 0))) : TT (d + 5) 184 95 [some (.ref 183), some (.long nm), none, some (.int x3), some (.int x4), none, none, none] [] (AT h i 0) Q := by
  have hS := hR.1
  have hB := hR.2.2.2.1
  have hn := hR.2.2.1
  refine t_go (op := o_aload 96 0) (fe_X12_readEmber 95) (fun _ _ => rfl) ?_
  refine t_go (op := o_ci 97 2) (fe_X12_readEmber 96) (fun _ _ => rfl) ?_
  refine t_go (op := o_ci 98 0) (fe_X12_readEmber 97) (fun _ _ => rfl) ?_
  refine t_go (op := o_ci 100 20) (fe_X12_readEmber 98) (fun _ _ => rfl) ?_
  refine t_call (op := o_callV 103 176 4 11) (fe_X12_readEmber 100) (g_callV hS (show (lay 183).1 = 11 by decide) (by decide) rfl rfl rfl (Nat.le_of_ble_eq_true rfl)) ?_
  refine M_eq (r_takeAfterM (c := 2) (lo := 0) (hi2 := 20) hR hi (by decide) (by decide) (by decide) hw hi1 hN) ?_
  refine t_go (op := o_istore 105 5) (fe_X12_readEmber 103) (fun _ _ => rfl) ?_
  exact r_re105 hR hi1 (wr0_b hB nmF_5.2) (wrF_p nmF_5.1) hm hm7 hq
set_option maxRecDepth 8000 in
theorem r_eD {d : Nat} {h : AHP} {TK : Nat → Tk} {n i : Nat} (hR : RQ h TK n) (hi : i ≤ n) {m : Nat} (hm : h.1 183 17 = nI m) (hm7 : m ≤ 7) {nm : Int64} {x3 x4 : Int32} (hw : isWd TK 2 i 0) (hi1 : i + 1 ≤ n) (hN : nuP TK 0 20 (i + 1) 0) {Q : Option Value → AHP → Prop} (hq : TT (d + 5) 184 105 [some (.ref 183), some (.long nm), none, some (.int x3), some (.int x4), some (.int (nI (TK (i + 1)).2.2.1)), none, none] [] (AT h (i + 2) 0) Q) : TT (d + 5) 184 95 [some (.ref 183), some (.long nm), none, some (.int x3), some (.int x4), none, none, none] [] (AT h i 0) Q := by
  have hS := hR.1
  have hB := hR.2.2.2.1
  have hn := hR.2.2.1
  refine t_go (op := o_aload 96 0) (fe_X12_readEmber 95) (fun _ _ => rfl) ?_
  refine t_go (op := o_ci 97 2) (fe_X12_readEmber 96) (fun _ _ => rfl) ?_
  refine t_go (op := o_ci 98 0) (fe_X12_readEmber 97) (fun _ _ => rfl) ?_
  refine t_go (op := o_ci 100 20) (fe_X12_readEmber 98) (fun _ _ => rfl) ?_
  refine t_call (op := o_callV 103 176 4 11) (fe_X12_readEmber 100) (g_callV hS (show (lay 183).1 = 11 by decide) (by decide) rfl rfl rfl (Nat.le_of_ble_eq_true rfl)) ?_
  refine M_eq (r_takeAfterY (c := 2) (lo := 0) (hi2 := 20) hR hi (by decide) (by decide) (by decide) hw hi1 hN) ?_
  refine t_go (op := o_istore 105 5) (fe_X12_readEmber 103) (fun _ _ => rfl) ?_
  exact hq
set_option maxRecDepth 8000 in
theorem r_eE1 {d : Nat} {h : AHP} {TK : Nat → Tk} {n i : Nat} (hR : RQ h TK n) (hi : i ≤ n) {m : Nat} (hm : h.1 183 17 = nI m) (hm7 : m ≤ 7) {nm : Int64} {x3 x4 x5 : Int32} (hw : ¬ isWd TK 3 i 0) {Q : Option Value → AHP → Prop} (hq : Q none (AT h i (wrF TK 1 i 0))) : TT (d + 5) 184 105 [some (.ref 183), some (.long nm), none, some (.int x3), some (.int x4), some (.int x5), none, none] [] (AT h i 0) Q := by
  have hS := hR.1
  have hB := hR.2.2.2.1
  have hn := hR.2.2.1
  refine t_go (op := o_aload 106 0) (fe_X12_readEmber 105) (fun _ _ => rfl) ?_
  refine t_go (op := o_ci 107 3) (fe_X12_readEmber 106) (fun _ _ => rfl) ?_
  refine t_go (op := o_ci 108 1) (fe_X12_readEmber 107) (fun _ _ => rfl) ?_
  refine t_go (op := o_ci 110 20) (fe_X12_readEmber 108) (fun _ _ => rfl) ?_
  refine t_call (op := o_callV 113 176 4 11) (fe_X12_readEmber 110) (g_callV hS (show (lay 183).1 = 11 by decide) (by decide) rfl rfl rfl (Nat.le_of_ble_eq_true rfl)) ?_
  refine M_eq (r_takeAfterN (c := 3) (lo := 1) (hi2 := 20) hR hi (by decide) (by decide) (by decide) hw) ?_
  refine t_go (op := o_istore 115 6) (fe_X12_readEmber 113) (fun _ _ => rfl) ?_
  exact r_re115 hR hi (wr0_b hB (by decide)) (wrF_p (by decide)) hm hm7 hq
set_option maxRecDepth 8000 in
theorem r_eE2 {d : Nat} {h : AHP} {TK : Nat → Tk} {n i : Nat} (hR : RQ h TK n) (hi : i ≤ n) {m : Nat} (hm : h.1 183 17 = nI m) (hm7 : m ≤ 7) {nm : Int64} {x3 x4 x5 : Int32} (hw : isWd TK 3 i 0) (hi1 : i + 1 ≤ n) (hN : ¬ nuP TK 1 20 (i + 1) 0) {Q : Option Value → AHP → Prop} (hq : Q none (AT h (i + 1) (wrF TK (nmF TK (i + 1)) (i + 1) 0))) : TT (d + 5) 184 105 [some (.ref 183), some (.long nm), none, some (.int x3), some (.int x4), some (.int x5), none, none] [] (AT h i 0) Q := by
  have hS := hR.1
  have hB := hR.2.2.2.1
  have hn := hR.2.2.1
  refine t_go (op := o_aload 106 0) (fe_X12_readEmber 105) (fun _ _ => rfl) ?_
  refine t_go (op := o_ci 107 3) (fe_X12_readEmber 106) (fun _ _ => rfl) ?_
  refine t_go (op := o_ci 108 1) (fe_X12_readEmber 107) (fun _ _ => rfl) ?_
  refine t_go (op := o_ci 110 20) (fe_X12_readEmber 108) (fun _ _ => rfl) ?_
  refine t_call (op := o_callV 113 176 4 11) (fe_X12_readEmber 110) (g_callV hS (show (lay 183).1 = 11 by decide) (by decide) rfl rfl rfl (Nat.le_of_ble_eq_true rfl)) ?_
  refine M_eq (r_takeAfterM (c := 3) (lo := 1) (hi2 := 20) hR hi (by decide) (by decide) (by decide) hw hi1 hN) ?_
  refine t_go (op := o_istore 115 6) (fe_X12_readEmber 113) (fun _ _ => rfl) ?_
  exact r_re115 hR hi1 (wr0_b hB nmF_5.2) (wrF_p nmF_5.1) hm hm7 hq
set_option maxRecDepth 8000 in
theorem r_eE {d : Nat} {h : AHP} {TK : Nat → Tk} {n i : Nat} (hR : RQ h TK n) (hi : i ≤ n) {m : Nat} (hm : h.1 183 17 = nI m) (hm7 : m ≤ 7) {nm : Int64} {x3 x4 x5 : Int32} (hw : isWd TK 3 i 0) (hi1 : i + 1 ≤ n) (hN : nuP TK 1 20 (i + 1) 0) {Q : Option Value → AHP → Prop} (hq : TT (d + 5) 184 115 [some (.ref 183), some (.long nm), none, some (.int x3), some (.int x4), some (.int x5), some (.int (nI (TK (i + 1)).2.2.1)), none] [] (AT h (i + 2) 0) Q) : TT (d + 5) 184 105 [some (.ref 183), some (.long nm), none, some (.int x3), some (.int x4), some (.int x5), none, none] [] (AT h i 0) Q := by
  have hS := hR.1
  have hB := hR.2.2.2.1
  have hn := hR.2.2.1
  refine t_go (op := o_aload 106 0) (fe_X12_readEmber 105) (fun _ _ => rfl) ?_
  refine t_go (op := o_ci 107 3) (fe_X12_readEmber 106) (fun _ _ => rfl) ?_
  refine t_go (op := o_ci 108 1) (fe_X12_readEmber 107) (fun _ _ => rfl) ?_
  refine t_go (op := o_ci 110 20) (fe_X12_readEmber 108) (fun _ _ => rfl) ?_
  refine t_call (op := o_callV 113 176 4 11) (fe_X12_readEmber 110) (g_callV hS (show (lay 183).1 = 11 by decide) (by decide) rfl rfl rfl (Nat.le_of_ble_eq_true rfl)) ?_
  refine M_eq (r_takeAfterY (c := 3) (lo := 1) (hi2 := 20) hR hi (by decide) (by decide) (by decide) hw hi1 hN) ?_
  refine t_go (op := o_istore 115 6) (fe_X12_readEmber 113) (fun _ _ => rfl) ?_
  exact hq
set_option maxRecDepth 8000 in
theorem r_eF {d : Nat} {h : AHP} {TK : Nat → Tk} {n i : Nat} (hR : RQ h TK n) (hi : i ≤ n) {m : Nat} (hm : h.1 183 17 = nI m) (hm7 : m ≤ 7) {nm : Int64} {x3 x4 x5 x6 : Int32} (h7 : ¬ m = 7) {Q : Option Value → AHP → Prop} (hq : Q none (emH h i m nm x3 x4 x5 x6)) : TT (d + 5) 184 115 [some (.ref 183), some (.long nm), none, some (.int x3), some (.int x4), some (.int x5), some (.int x6), none] [] (AT h i 0) Q := by
  have hS := hR.1
  have hB := hR.2.2.2.1
  have hn := hR.2.2.1
  refine t_go (op := o_aload 116 0) (fe_X12_readEmber 115) (fun _ _ => rfl) ?_
  refine t_go (op := o_getI 119 11 8) (fe_X12_readEmber 116) (g_getI hS (show (lay 183).1 = 11 by decide) (by decide)) ?_
  rw [show (AT h i 0).1 183 8 = nI 0 from AT_8]
  refine t_ite (op := o_if 205 122 (fun x => x = 0) (fun _ => inferInstance)) (fe_X12_readEmber 119) g_if (fun c1 => ?_) (fun c1 => ?_)
  · refine t_go (op := o_ci 124 54) (fe_X12_readEmber 122) (fun _ _ => rfl) ?_
    refine t_go (op := o_ci 125 4) (fe_X12_readEmber 124) (fun _ _ => rfl) ?_
    refine t_go (op := o_aload 126 0) (fe_X12_readEmber 125) (fun _ _ => rfl) ?_
    refine t_go (op := o_getI 129 11 17) (fe_X12_readEmber 126) (g_getI hS (show (lay 183).1 = 11 by decide) (by decide)) ?_
    rw [show (AT h i 0).1 183 17 = nI m from (AT_o (by decide) (by decide)).trans hm]
    refine t_go (op := o_i2 130 (fun x y => x * y)) (fe_X12_readEmber 129) (fun _ _ => rfl) ?_
    refine t_go (op := o_i2 131 (fun x y => x + y)) (fe_X12_readEmber 130) (fun _ _ => rfl) ?_
    refine t_go (op := o_istore 133 7) (fe_X12_readEmber 131) (fun _ _ => rfl) ?_
    refine t_go (op := o_aload 134 0) (fe_X12_readEmber 133) (fun _ _ => rfl) ?_
    refine t_go (op := o_getR 137 11 10) (fe_X12_readEmber 134) (g_getR hS (show (lay 183).1 = 11 by decide) (by decide) (fr_11_10 hS) (by decide)) ?_
    refine t_go (op := o_iload 139 7) (fe_X12_readEmber 137) (fun _ _ => rfl) ?_
    refine t_go (op := o_iload 140 3) (fe_X12_readEmber 139) (fun _ _ => rfl) ?_
    refine t_go (op := o_iast 141) (fe_X12_readEmber 140) (g_iastN hS (show lay 189 = (20, 100) by decide) (nIa (nIl 54) (nIm (nIl 4) rfl)) (by omega) (by decide)) ?_
    refine t_go (op := o_aload 142 0) (fe_X12_readEmber 141) (fun _ _ => rfl) ?_
    refine t_go (op := o_getR 145 11 10) (fe_X12_readEmber 142) (g_getR hS (show (lay 183).1 = 11 by decide) (by decide) (fr_11_10 hS) (by decide)) ?_
    refine t_go (op := o_iload 147 7) (fe_X12_readEmber 145) (fun _ _ => rfl) ?_
    refine t_go (op := o_ci 148 1) (fe_X12_readEmber 147) (fun _ _ => rfl) ?_
    refine t_go (op := o_i2 149 (fun x y => x + y)) (fe_X12_readEmber 148) (fun _ _ => rfl) ?_
    refine t_go (op := o_iload 151 4) (fe_X12_readEmber 149) (fun _ _ => rfl) ?_
    refine t_go (op := o_iast 152) (fe_X12_readEmber 151) (g_iastN hS (show lay 189 = (20, 100) by decide) (nIa (nIa (nIl 54) (nIm (nIl 4) rfl)) (nIl 1)) (by omega) (by decide)) ?_
    refine t_go (op := o_aload 153 0) (fe_X12_readEmber 152) (fun _ _ => rfl) ?_
    refine t_go (op := o_getR 156 11 10) (fe_X12_readEmber 153) (g_getR hS (show (lay 183).1 = 11 by decide) (by decide) (fr_11_10 hS) (by decide)) ?_
    refine t_go (op := o_iload 158 7) (fe_X12_readEmber 156) (fun _ _ => rfl) ?_
    refine t_go (op := o_ci 159 2) (fe_X12_readEmber 158) (fun _ _ => rfl) ?_
    refine t_go (op := o_i2 160 (fun x y => x + y)) (fe_X12_readEmber 159) (fun _ _ => rfl) ?_
    refine t_go (op := o_iload 162 5) (fe_X12_readEmber 160) (fun _ _ => rfl) ?_
    refine t_go (op := o_iast 163) (fe_X12_readEmber 162) (g_iastN hS (show lay 189 = (20, 100) by decide) (nIa (nIa (nIl 54) (nIm (nIl 4) rfl)) (nIl 2)) (by omega) (by decide)) ?_
    refine t_go (op := o_aload 164 0) (fe_X12_readEmber 163) (fun _ _ => rfl) ?_
    refine t_go (op := o_getR 167 11 10) (fe_X12_readEmber 164) (g_getR hS (show (lay 183).1 = 11 by decide) (by decide) (fr_11_10 hS) (by decide)) ?_
    refine t_go (op := o_iload 169 7) (fe_X12_readEmber 167) (fun _ _ => rfl) ?_
    refine t_go (op := o_ci 170 3) (fe_X12_readEmber 169) (fun _ _ => rfl) ?_
    refine t_go (op := o_i2 171 (fun x y => x + y)) (fe_X12_readEmber 170) (fun _ _ => rfl) ?_
    refine t_go (op := o_iload 173 6) (fe_X12_readEmber 171) (fun _ _ => rfl) ?_
    refine t_go (op := o_iast 174) (fe_X12_readEmber 173) (g_iastN hS (show lay 189 = (20, 100) by decide) (nIa (nIa (nIl 54) (nIm (nIl 4) rfl)) (nIl 3)) (by omega) (by decide)) ?_
    refine t_go (op := o_aload 175 0) (fe_X12_readEmber 174) (fun _ _ => rfl) ?_
    refine t_go (op := o_getR 178 11 15) (fe_X12_readEmber 175) (g_getR hS (show (lay 183).1 = 11 by decide) (by decide) (fr_11_15 hS) (by decide)) ?_
    refine t_go (op := o_aload 179 0) (fe_X12_readEmber 178) (fun _ _ => rfl) ?_
    refine t_go (op := o_getI 182 11 17) (fe_X12_readEmber 179) (g_getI hS (show (lay 183).1 = 11 by decide) (by decide)) ?_
    rw [show (sI (sI (sI (sI (AT h i 0) 189 (54 + 4 * m) x3) 189 (54 + 4 * m + 1) x4) 189 (54 + 4 * m + 2) x5) 189 (54 + 4 * m + 3) x6).1 183 17 = nI m from ((congrFun (sI_ne (by decide)) 17).trans ((congrFun (sI_ne (by decide)) 17).trans ((congrFun (sI_ne (by decide)) 17).trans ((congrFun (sI_ne (by decide)) 17).trans ((AT_o (by decide) (by decide)).trans hm)))))]
    refine t_go (op := o_lload 183 1) (fe_X12_readEmber 182) (fun _ _ => rfl) ?_
    refine t_go (op := o_last 184) (fe_X12_readEmber 183) (g_lastN hS (show lay 193 = (21, 7) by decide) rfl (by omega) (by decide)) ?_
    refine t_go (op := o_aload 185 0) (fe_X12_readEmber 184) (fun _ _ => rfl) ?_
    refine t_go (op := o_dupA 186) (fe_X12_readEmber 185) (fun _ _ => rfl) ?_
    refine t_go (op := o_getI 189 11 17) (fe_X12_readEmber 186) (g_getI hS (show (lay 183).1 = 11 by decide) (by decide)) ?_
    rw [show (sJ (sI (sI (sI (sI (AT h i 0) 189 (54 + 4 * m) x3) 189 (54 + 4 * m + 1) x4) 189 (54 + 4 * m + 2) x5) 189 (54 + 4 * m + 3) x6) 193 m nm).1 183 17 = nI m from (show (sI (sI (sI (sI (AT h i 0) 189 (54 + 4 * m) x3) 189 (54 + 4 * m + 1) x4) 189 (54 + 4 * m + 2) x5) 189 (54 + 4 * m + 3) x6).1 183 17 = nI m from ((congrFun (sI_ne (by decide)) 17).trans ((congrFun (sI_ne (by decide)) 17).trans ((congrFun (sI_ne (by decide)) 17).trans ((congrFun (sI_ne (by decide)) 17).trans ((AT_o (by decide) (by decide)).trans hm))))))]
    refine t_go (op := o_ci 190 1) (fe_X12_readEmber 189) (fun _ _ => rfl) ?_
    refine t_go (op := o_i2 191 (fun x y => x + y)) (fe_X12_readEmber 190) (fun _ _ => rfl) ?_
    refine t_go (op := o_putI 194 11 17) (fe_X12_readEmber 191) (g_putI hS (show (lay 183).1 = 11 by decide) (by decide)) ?_
    refine T_heap (congrArg (sI (sJ (sI (sI (sI (sI (AT h i 0) 189 (54 + 4 * m) x3) 189 (54 + 4 * m + 1) x4) 189 (54 + 4 * m + 2) x5) 189 (54 + 4 * m + 3) x6) 193 m nm) 183 17) (nI_1 m)).symm ?_
    refine t_go (op := o_aload 195 0) (fe_X12_readEmber 194) (fun _ _ => rfl) ?_
    refine t_go (op := o_getR 198 11 10) (fe_X12_readEmber 195) (g_getR hS (show (lay 183).1 = 11 by decide) (by decide) (fr_11_10 hS) (by decide)) ?_
    refine t_go (op := o_ci 200 50) (fe_X12_readEmber 198) (fun _ _ => rfl) ?_
    refine t_go (op := o_aload 201 0) (fe_X12_readEmber 200) (fun _ _ => rfl) ?_
    refine t_go (op := o_getI 204 11 17) (fe_X12_readEmber 201) (g_getI hS (show (lay 183).1 = 11 by decide) (by decide)) ?_
    rw [show (sI (sJ (sI (sI (sI (sI (AT h i 0) 189 (54 + 4 * m) x3) 189 (54 + 4 * m + 1) x4) 189 (54 + 4 * m + 2) x5) 189 (54 + 4 * m + 3) x6) 193 m nm) 183 17 (nI (m + 1))).1 183 17 = nI (m + 1) from sI_eq]
    refine t_go (op := o_iast 205) (fe_X12_readEmber 204) (g_iastN hS (show lay 189 = (20, 100) by decide) (nIl 50) (by omega) (by decide)) ?_
    refine t_ret (op := o_vret) (fe_X12_readEmber 205) (fun _ _ => rfl) ?_
    exact hq
  · exact absurd rfl c1
theorem r_readEmber {d : Nat} {h : AHP} {TK : Nat → Tk} {n i m : Nat} (hR : RQ h TK n) (hE : (TK n).1 = 0) (hi : i ≤ n) (h0 : ¬ (TK i).1 = 0) (hm : h.1 183 17 = nI m) (hm7 : m ≤ 7) : MM (d + 5) 184 [.ref 183] (AT h i 0) (fun v h2 => v = none ∧ ∀ F, F = eF TK i m (∃ k, k < m ∧ h.2.1 193 k = h.2.1 187 (i + 1)) (∃ k, k < m ∧ h.1 189 (55 + 4 * k) = nI (TK (i + 4)).2.2.1) → (F = 0 → h2 = emH h (i + 9) m (h.2.1 187 (i + 1)) (nI ((TK (i + 2)).2.2.1 - 12)) (nI (TK (i + 4)).2.2.1) (nI (TK (i + 6)).2.2.1) (nI (TK (i + 8)).2.2.1) ∧ i + 9 ≤ n) ∧ (¬ F = 0 → F < 100000 ∧ ∃ i2, i2 ≤ n ∧ h2 = AT h i2 F)) := by
  have hB := hR.2.2.2.1
  have hi1 : i + 1 ≤ n := lt_end hE hi h0
  have bad : ∀ (c j : Nat), 1 ≤ c → c ≤ 5 → j ≤ n → ∀ (Fx : Nat), Fx = wrF TK c j 0 → ∀ (K : AHP), K = AT h j (wrF TK c j 0) → (Fx = 0 → K = emH h (i + 9) m (h.2.1 187 (i + 1)) (nI ((TK (i + 2)).2.2.1 - 12)) (nI (TK (i + 4)).2.2.1) (nI (TK (i + 6)).2.2.1) (nI (TK (i + 8)).2.2.1) ∧ i + 9 ≤ n) ∧ (¬ Fx = 0 → Fx < 100000 ∧ ∃ i2, i2 ≤ n ∧ K = AT h i2 Fx) := by
    intro c j c1 c5 hj Fx hF K hK
    subst hF hK
    exact ⟨fun q => absurd q (wrF_p c1), fun _ => ⟨wr0_b hB c5, j, hj, rfl⟩⟩
  unfold eF
  by_cases c1 : m = 7
  · refine M_mono ?_ (r_eA5 hR hi hm hm7 c1)
    rintro _ h2 ⟨rfl, rfl⟩
    exact ⟨rfl, fun F hF => bad 5 i (by decide) (by decide) hi F (hF.trans (cI_t c1)) _ rfl⟩
  simp only [cI_f c1]
  by_cases c2 : ¬ nmP TK (i + 1)
  · refine M_mono ?_ (r_eA1 hR hi hm hm7 c1 hi1 c2)
    rintro _ h2 ⟨rfl, rfl⟩
    exact ⟨rfl, fun F hF => bad 1 (i + 1) (by decide) (by decide) hi1 F (hF.trans (cI_t c2)) _ rfl⟩
  simp only [cI_f c2]
  have c2' := Classical.not_not.mp c2
  by_cases c3 : ∃ k, k < m ∧ h.2.1 193 k = h.2.1 187 (i + 1)
  · refine M_mono ?_ (r_eA3 hR hi hm hm7 c1 hi1 c2' c3)
    rintro _ h2 ⟨rfl, rfl⟩
    exact ⟨rfl, fun F hF => bad 3 (i + 1) (by decide) (by decide) hi1 F (hF.trans (cI_t c3)) _ rfl⟩
  simp only [cI_f c3]
  have hi2 : i + 2 ≤ n := lt_end hE hi1 (by rw [c2'.1]; decide)
  refine r_eA hR hi hm hm7 c1 hi1 c2' c3 (fun nm hnm => ?_)
  by_cases c4 : ¬ whP TK 12 (i + 2) 0 4
  · exact r_eB1 hR hi2 hm hm7 c4 ⟨rfl, fun F hF => bad 1 (i + 2) (by decide) (by decide) hi2 F (hF.trans (cI_t c4)) _ rfl⟩
  simp only [cI_f c4]
  have c4' := Classical.not_not.mp c4
  have hi3 : i + 3 ≤ n := lt_end hE hi2 (by rw [c4'.2.1]; decide)
  refine r_eB hR hi2 hm hm7 c4' ?_
  by_cases c5 : ¬ isWd TK 1 (i + 3) 0
  · exact r_eC1 (i := i + 3) hR hi3 hm hm7 c5 ⟨rfl, fun F hF => bad 1 (i + 3) (by decide) (by decide) hi3 F (hF.trans (cI_t c5)) _ rfl⟩
  simp only [cI_f c5]
  have c5' := Classical.not_not.mp c5
  have hi4 : i + 4 ≤ n := lt_end hE hi3 (by rw [c5'.2.1]; decide)
  by_cases c6 : ¬ nuP TK 0 11 (i + 4) 0
  · exact r_eC2 (i := i + 3) hR hi3 hm hm7 c5' hi4 c6 ⟨rfl, fun F hF => bad _ (i + 4) nmF_5.1 nmF_5.2 hi4 F (hF.trans (cI_t c6)) _ rfl⟩
  simp only [cI_f c6]
  have c6' := Classical.not_not.mp c6
  have hi5 : i + 5 ≤ n := lt_end hE hi4 (by rw [c6'.2.1]; decide)
  by_cases c7 : ∃ k, k < m ∧ h.1 189 (55 + 4 * k) = nI (TK (i + 4)).2.2.1
  · exact r_eC3 (i := i + 3) hR hi3 hm hm7 c5' hi4 c6' c7 ⟨rfl, fun F hF => bad 3 (i + 4) (by decide) (by decide) hi4 F (hF.trans (cI_t c7)) _ rfl⟩
  simp only [cI_f c7]
  refine r_eC (i := i + 3) hR hi3 hm hm7 c5' hi4 c6' c7 ?_
  by_cases c8 : ¬ isWd TK 2 (i + 5) 0
  · exact r_eD1 (i := i + 5) hR hi5 hm hm7 c8 ⟨rfl, fun F hF => bad 1 (i + 5) (by decide) (by decide) hi5 F (hF.trans (cI_t c8)) _ rfl⟩
  simp only [cI_f c8]
  have c8' := Classical.not_not.mp c8
  have hi6 : i + 6 ≤ n := lt_end hE hi5 (by rw [c8'.2.1]; decide)
  by_cases c9 : ¬ nuP TK 0 20 (i + 6) 0
  · exact r_eD2 (i := i + 5) hR hi5 hm hm7 c8' hi6 c9 ⟨rfl, fun F hF => bad _ (i + 6) nmF_5.1 nmF_5.2 hi6 F (hF.trans (cI_t c9)) _ rfl⟩
  simp only [cI_f c9]
  have c9' := Classical.not_not.mp c9
  have hi7 : i + 7 ≤ n := lt_end hE hi6 (by rw [c9'.2.1]; decide)
  refine r_eD (i := i + 5) hR hi5 hm hm7 c8' hi6 c9' ?_
  by_cases c10 : ¬ isWd TK 3 (i + 7) 0
  · exact r_eE1 (i := i + 7) hR hi7 hm hm7 c10 ⟨rfl, fun F hF => bad 1 (i + 7) (by decide) (by decide) hi7 F (hF.trans (cI_t c10)) _ rfl⟩
  simp only [cI_f c10]
  have c10' := Classical.not_not.mp c10
  have hi8 : i + 8 ≤ n := lt_end hE hi7 (by rw [c10'.2.1]; decide)
  by_cases c11 : ¬ nuP TK 1 20 (i + 8) 0
  · exact r_eE2 (i := i + 7) hR hi7 hm hm7 c10' hi8 c11 ⟨rfl, fun F hF => bad _ (i + 8) nmF_5.1 nmF_5.2 hi8 F (hF.trans (cI_t c11)) _ rfl⟩
  simp only [cI_f c11]
  have c11' := Classical.not_not.mp c11
  have hi9 : i + 9 ≤ n := lt_end hE hi8 (by rw [c11'.2.1]; decide)
  refine r_eE (i := i + 7) hR hi7 hm hm7 c10' hi8 c11' ?_
  refine r_eF (i := i + 9) hR hi9 hm hm7 c1 ⟨rfl, fun F hF => ⟨fun _ => ⟨?_, hi9⟩, fun q => absurd hF q⟩⟩
  rw [hnm]
