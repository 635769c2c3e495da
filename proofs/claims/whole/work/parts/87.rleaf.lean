/-! ===== the reference's parser: the leaves ===== -/
/-- where it reads, and the fault -/
abbrev AT (h : AHP) (i f : Nat) : AHP := sI (sI h 183 7 (nI i)) 183 8 (nI f)
theorem AT_7 {h : AHP} {i f : Nat} : (AT h i f).1 183 7 = nI i := by simp [sI, up2]
theorem AT_8 {h : AHP} {i f : Nat} : (AT h i f).1 183 8 = nI f := sI_eq
theorem AT_r {h : AHP} {i f a : Nat} (ha : a ≠ 183) : (AT h i f).1 a = h.1 a := by rw [sI_ne ha, sI_ne ha]
theorem AT_o {h : AHP} {i f j : Nat} (h7 : j ≠ 7) (h8 : j ≠ 8) : (AT h i f).1 183 j = h.1 183 j := by rw [sI_nr h8, sI_nr h7]
theorem AT_7s {h : AHP} {i f i2 : Nat} : sI (AT h i f) 183 7 (nI i2) = AT h i2 f := by
  refine AHP_ext (fun b j => ?_) rfl
  simp only [sI, up2]
  by_cases h1 : b = 183
  · by_cases h2 : j = 7
    · simp [h1, h2]
    · by_cases h3 : j = 8
      · simp [h1, h3]
      · simp [h1, h2, h3]
  · simp [h1]
theorem AT_8s {h : AHP} {i f f2 : Nat} : sI (AT h i f) 183 8 (nI f2) = AT h i f2 := sI_sI
theorem AT_id {h : AHP} {i f : Nat} (h7 : h.1 183 7 = nI i) (h8 : h.1 183 8 = nI f) : AT h i f = h := by
  show sI (sI h 183 7 (nI i)) 183 8 (nI f) = h
  rw [← h7, sI_id, ← h8, sI_id]
/-- a token's bounds -/
def TKb (t : Tk) : Prop := t.1 ≤ 4 ∧ t.2.1 ≤ 1000 ∧ t.2.2.1 < 10000 ∧ (t.1 = 1 → okW t.2.2.2.1 ∧ t.2.2.1 = kw t.2.2.2.1)
def WdR (h : AHP) : Prop := ∀ j, j < 23 → h.2.1 188 j = lN (n37 (KWi j))
def RQ (h : AHP) (TK : Nat → Tk) (n : Nat) : Prop := Std h ∧ (∀ j, j ≤ n → TkR h j (TK j)) ∧ n ≤ 1000 ∧ (∀ j, TKb (TK j)) ∧ WdR h
def wrF (TK : Nat → Tk) (c i f : Nat) : Nat := if f = 0 then c + 16 * (TK i).2.1 else f
theorem wrF_b {TK : Nat → Tk} {c i f : Nat} (h : ∀ j, TKb (TK j)) (hf : f < 100000) (hc : c ≤ 5) : wrF TK c i f < 100000 := by
  have := (h i).2.1
  unfold wrF
  split <;> omega
def isS (TK : Nat → Tk) (c i f : Nat) : Prop := f = 0 ∧ (TK i).1 = 3 ∧ (TK i).2.2.1 = c
def isWd (TK : Nat → Tk) (c i f : Nat) : Prop := f = 0 ∧ (TK i).1 = 1 ∧ (TK i).2.2.1 = c
theorem f_0 {f : Nat} (hf : f < 100000) : nI f = 0 ↔ f = 0 := nI_eq (b := 0) (by omega) (by decide)
theorem sgn_c {h : AHP} {TK : Nat → Tk} {n i f c : Nat} (hR : RQ h TK n) (hi : i ≤ n) (hc : c < 10000) (hs : (TK i).1 = 3) : lg_cmp ((AT h i f).2.1 187 i) (Int32.toInt64 (nI c)) = 0 ↔ (TK i).2.2.1 = c := by
  have h1 : (AT h i f).2.1 187 i = lN (TK i).2.2.1 := (hR.2.1 i hi).2.2.2 (Or.inr hs)
  have hb := (hR.2.2.2.1 i).2.2.1
  rw [cmp_0, h1, nI_l (by omega), fb_eq (by omega) (by omega)]
theorem wrd_c {h : AHP} {TK : Nat → Tk} {n i f c : Nat} (hR : RQ h TK n) (hi : i ≤ n) (hc : c < 23) (hs : (TK i).1 = 1) : lg_cmp ((AT h i f).2.1 187 i) (lN (n37 (KWi c))) = 0 ↔ (TK i).2.2.1 = c := by
  have h1 : (AT h i f).2.1 187 i = lN (n37 (TK i).2.2.2.1) := (hR.2.1 i hi).2.2.1 hs
  have hw := (hR.2.2.2.1 i).2.2.2 hs
  have b1 := n37_b hw.1
  have b2 := n37_b (KW_ok c hc)
  rw [cmp_0, h1, fb_eq (by omega) (by omega), hw.2, ← kw_in hc]
  exact ⟨fun e => (n37_inj 8 _ _ hw.1.2.1 hw.1.2.2 (KW_ok c hc).2.2 e).symm, fun e => by rw [e]⟩
theorem r_wrong {d : Nat} {h : AHP} {TK : Nat → Tk} {n i f : Nat} (hR : RQ h TK n) (hi : i ≤ n) (hf : f < 100000) {c : Nat} : MM d 166 [.ref 183, .int (nI c)] (AT h i f) (fun v h2 => v = none ∧ h2 = AT h i (wrF TK c i f)) := by
  refine ⟨Nat.le_of_ble_eq_true rfl, ?_⟩
  have hS := hR.1
  have hn := hR.2.2.1
  refine t_go (op := o_aload 1 0) (fe_X12_wrong 0) (fun _ _ => rfl) ?_
  refine t_go (op := o_getI 4 11 8) (fe_X12_wrong 1) (g_getI hS (show (lay 183).1 = 11 by decide) (by decide)) ?_
  rw [AT_8]
  refine t_ite (op := o_if 25 7 (fun x => x = 0) (fun _ => inferInstance)) (fe_X12_wrong 4) g_if (fun c1 => ?_) (fun c1 => ?_)
  · refine t_go (op := o_aload 8 0) (fe_X12_wrong 7) (fun _ _ => rfl) ?_
    refine t_go (op := o_iload 9 1) (fe_X12_wrong 8) (fun _ _ => rfl) ?_
    refine t_go (op := o_ci 11 16) (fe_X12_wrong 9) (fun _ _ => rfl) ?_
    refine t_go (op := o_aload 12 0) (fe_X12_wrong 11) (fun _ _ => rfl) ?_
    refine t_go (op := o_getR 15 11 5) (fe_X12_wrong 12) (g_getR hS (show (lay 183).1 = 11 by decide) (by decide) (fr_11_5 hS) (by decide)) ?_
    refine t_go (op := o_aload 16 0) (fe_X12_wrong 15) (fun _ _ => rfl) ?_
    refine t_go (op := o_getI 19 11 7) (fe_X12_wrong 16) (g_getI hS (show (lay 183).1 = 11 by decide) (by decide)) ?_
    rw [AT_7]
    refine t_go (op := o_iald 20) (fe_X12_wrong 19) (g_ialdN hS (show lay 186 = (20, 1002) by decide) rfl (by omega) (by decide)) ?_
    rw [show (AT h i f).1 186 i = nI (TK i).2.1 from (congrFun (AT_r (by decide)) i).trans (hR.2.1 i hi).2.1]
    refine t_go (op := o_i2 21 (fun x y => x * y)) (fe_X12_wrong 20) (fun _ _ => rfl) ?_
    refine t_go (op := o_i2 22 (fun x y => x + y)) (fe_X12_wrong 21) (fun _ _ => rfl) ?_
    refine t_go (op := o_putI 25 11 8) (fe_X12_wrong 22) (g_putI hS (show (lay 183).1 = 11 by decide) (by decide)) ?_
    refine t_ret (op := o_vret) (fe_X12_wrong 25) (fun _ _ => rfl) ?_
    have e : (fun x y : Int32 => x + y) (nI c) ((fun x y : Int32 => x * y) 16 (nI (TK i).2.1)) = nI (c + 16 * (TK i).2.1) := nIa rfl (nIm (nIl 16) rfl)
    exact ⟨rfl, (congrArg (sI (AT h i f) 183 8) e).trans (by rw [AT_8s, wrF, if_pos ((f_0 hf).mp c1)])⟩
  · refine t_ret (op := o_vret) (fe_X12_wrong 25) (fun _ _ => rfl) ?_
    exact ⟨rfl, by rw [wrF, if_neg (fun q => c1 ((f_0 hf).mpr q))]⟩
theorem r_isSign {d : Nat} {h : AHP} {TK : Nat → Tk} {n i f : Nat} (hR : RQ h TK n) (hi : i ≤ n) (hf : f < 100000) {c : Nat} (hc : c < 10000) : MM d 167 [.ref 183, .int (nI c)] (AT h i f) (fun v h2 => v = some (.int (b2i (isS TK c i f))) ∧ h2 = AT h i f) := by
  refine ⟨Nat.le_of_ble_eq_true rfl, ?_⟩
  have hS := hR.1
  have hn := hR.2.2.1
  have hs : nI (TK i).1 = 3 → (TK i).1 = 3 := fun q => (nI_eq (b := 3) (by have := (hR.2.2.2.1 i).1; omega) (by decide)).mp q
  refine t_go (op := o_aload 1 0) (fe_X12_isSign 0) (fun _ _ => rfl) ?_
  refine t_go (op := o_getI 4 11 8) (fe_X12_isSign 1) (g_getI hS (show (lay 183).1 = 11 by decide) (by decide)) ?_
  rw [AT_8]
  refine t_ite (op := o_if 39 7 (fun x => x = 0) (fun _ => inferInstance)) (fe_X12_isSign 4) g_if (fun c1 => ?_) (fun c1 => ?_)
  · refine t_go (op := o_aload 8 0) (fe_X12_isSign 7) (fun _ _ => rfl) ?_
    refine t_go (op := o_getR 11 11 4) (fe_X12_isSign 8) (g_getR hS (show (lay 183).1 = 11 by decide) (by decide) (fr_11_4 hS) (by decide)) ?_
    refine t_go (op := o_aload 12 0) (fe_X12_isSign 11) (fun _ _ => rfl) ?_
    refine t_go (op := o_getI 15 11 7) (fe_X12_isSign 12) (g_getI hS (show (lay 183).1 = 11 by decide) (by decide)) ?_
    rw [AT_7]
    refine t_go (op := o_iald 16) (fe_X12_isSign 15) (g_ialdN hS (show lay 185 = (20, 1002) by decide) rfl (by omega) (by decide)) ?_
    rw [show (AT h i f).1 185 i = nI (TK i).1 from (congrFun (AT_r (by decide)) i).trans (hR.2.1 i hi).1]
    refine t_go (op := o_ci 17 3) (fe_X12_isSign 16) (fun _ _ => rfl) ?_
    refine t_ite (op := o_icmp 39 20 (fun x y => x = y) (fun _ _ => inferInstance)) (fe_X12_isSign 17) g_icmp (fun c2 => ?_) (fun c2 => ?_)
    · refine t_go (op := o_aload 21 0) (fe_X12_isSign 20) (fun _ _ => rfl) ?_
      refine t_go (op := o_getR 24 11 6) (fe_X12_isSign 21) (g_getR hS (show (lay 183).1 = 11 by decide) (by decide) (fr_11_6 hS) (by decide)) ?_
      refine t_go (op := o_aload 25 0) (fe_X12_isSign 24) (fun _ _ => rfl) ?_
      refine t_go (op := o_getI 28 11 7) (fe_X12_isSign 25) (g_getI hS (show (lay 183).1 = 11 by decide) (by decide)) ?_
      rw [AT_7]
      refine t_go (op := o_lald 29) (fe_X12_isSign 28) (g_laldN hS (show lay 187 = (21, 1002) by decide) rfl (by omega) (by decide)) ?_
      refine t_go (op := o_iload 30 1) (fe_X12_isSign 29) (fun _ _ => rfl) ?_
      refine t_go (op := o_i2l 31) (fe_X12_isSign 30) (fun _ _ => rfl) ?_
      refine t_go (op := o_lcmp 32) (fe_X12_isSign 31) (fun _ _ => rfl) ?_
      refine t_ite (op := o_if 39 35 (fun x => x = 0) (fun _ => inferInstance)) (fe_X12_isSign 32) g_if (fun c3 => ?_) (fun c3 => ?_)
      · refine t_go (op := o_ci 36 1) (fe_X12_isSign 35) (fun _ _ => rfl) ?_
        refine t_go (op := o_goto 40) (fe_X12_isSign 36) (fun _ _ => rfl) ?_
        refine t_ret (op := o_zret) (fe_X12_isSign 40) (g_zret (Or.inr rfl)) ?_
        exact ⟨congrArg (fun z => some (Value.int z)) (b2i_t (show isS TK c i f from ⟨(f_0 hf).mp c1, hs c2, (sgn_c hR hi hc (hs c2)).mp c3⟩)).symm, rfl⟩
      · refine t_go (op := o_ci 40 0) (fe_X12_isSign 39) (fun _ _ => rfl) ?_
        refine t_ret (op := o_zret) (fe_X12_isSign 40) (g_zret (Or.inl rfl)) ?_
        exact ⟨congrArg (fun z => some (Value.int z)) (b2i_f (show ¬ isS TK c i f from fun q => c3 ((sgn_c hR hi hc q.2.1).mpr q.2.2))).symm, rfl⟩
    · refine t_go (op := o_ci 40 0) (fe_X12_isSign 39) (fun _ _ => rfl) ?_
      refine t_ret (op := o_zret) (fe_X12_isSign 40) (g_zret (Or.inl rfl)) ?_
      exact ⟨congrArg (fun z => some (Value.int z)) (b2i_f (show ¬ isS TK c i f from fun q => c2 (by rw [q.2.1]; rfl))).symm, rfl⟩
  · refine t_go (op := o_ci 40 0) (fe_X12_isSign 39) (fun _ _ => rfl) ?_
    refine t_ret (op := o_zret) (fe_X12_isSign 40) (g_zret (Or.inl rfl)) ?_
    exact ⟨congrArg (fun z => some (Value.int z)) (b2i_f (show ¬ isS TK c i f from fun q => c1 ((f_0 hf).mpr q.1))).symm, rfl⟩
theorem r_isWord {d : Nat} {h : AHP} {TK : Nat → Tk} {n i f : Nat} (hR : RQ h TK n) (hi : i ≤ n) (hf : f < 100000) {c : Nat} (hc : c < 23) : MM d 168 [.ref 183, .int (nI c)] (AT h i f) (fun v h2 => v = some (.int (b2i (isWd TK c i f))) ∧ h2 = AT h i f) := by
  refine ⟨Nat.le_of_ble_eq_true rfl, ?_⟩
  have hS := hR.1
  have hn := hR.2.2.1
  have hs : nI (TK i).1 = 1 → (TK i).1 = 1 := fun q => (nI_eq (b := 1) (by have := (hR.2.2.2.1 i).1; omega) (by decide)).mp q
  refine t_go (op := o_aload 1 0) (fe_X12_isWord 0) (fun _ _ => rfl) ?_
  refine t_go (op := o_getI 4 11 8) (fe_X12_isWord 1) (g_getI hS (show (lay 183).1 = 11 by decide) (by decide)) ?_
  rw [AT_8]
  refine t_ite (op := o_if 43 7 (fun x => x = 0) (fun _ => inferInstance)) (fe_X12_isWord 4) g_if (fun c1 => ?_) (fun c1 => ?_)
  · refine t_go (op := o_aload 8 0) (fe_X12_isWord 7) (fun _ _ => rfl) ?_
    refine t_go (op := o_getR 11 11 4) (fe_X12_isWord 8) (g_getR hS (show (lay 183).1 = 11 by decide) (by decide) (fr_11_4 hS) (by decide)) ?_
    refine t_go (op := o_aload 12 0) (fe_X12_isWord 11) (fun _ _ => rfl) ?_
    refine t_go (op := o_getI 15 11 7) (fe_X12_isWord 12) (g_getI hS (show (lay 183).1 = 11 by decide) (by decide)) ?_
    rw [AT_7]
    refine t_go (op := o_iald 16) (fe_X12_isWord 15) (g_ialdN hS (show lay 185 = (20, 1002) by decide) rfl (by omega) (by decide)) ?_
    rw [show (AT h i f).1 185 i = nI (TK i).1 from (congrFun (AT_r (by decide)) i).trans (hR.2.1 i hi).1]
    refine t_go (op := o_ci 17 1) (fe_X12_isWord 16) (fun _ _ => rfl) ?_
    refine t_ite (op := o_icmp 43 20 (fun x y => x = y) (fun _ _ => inferInstance)) (fe_X12_isWord 17) g_icmp (fun c2 => ?_) (fun c2 => ?_)
    · refine t_go (op := o_aload 21 0) (fe_X12_isWord 20) (fun _ _ => rfl) ?_
      refine t_go (op := o_getR 24 11 6) (fe_X12_isWord 21) (g_getR hS (show (lay 183).1 = 11 by decide) (by decide) (fr_11_6 hS) (by decide)) ?_
      refine t_go (op := o_aload 25 0) (fe_X12_isWord 24) (fun _ _ => rfl) ?_
      refine t_go (op := o_getI 28 11 7) (fe_X12_isWord 25) (g_getI hS (show (lay 183).1 = 11 by decide) (by decide)) ?_
      rw [AT_7]
      refine t_go (op := o_lald 29) (fe_X12_isWord 28) (g_laldN hS (show lay 187 = (21, 1002) by decide) rfl (by omega) (by decide)) ?_
      refine t_go (op := o_aload 30 0) (fe_X12_isWord 29) (fun _ _ => rfl) ?_
      refine t_go (op := o_getR 33 11 9) (fe_X12_isWord 30) (g_getR hS (show (lay 183).1 = 11 by decide) (by decide) (fr_11_9 hS) (by decide)) ?_
      refine t_go (op := o_iload 34 1) (fe_X12_isWord 33) (fun _ _ => rfl) ?_
      refine t_go (op := o_lald 35) (fe_X12_isWord 34) (g_laldN hS (show lay 188 = (21, 23) by decide) rfl (by omega) (by decide)) ?_
      rw [show (AT h i f).2.1 188 c = lN (n37 (KWi c)) from hR.2.2.2.2 c hc]
      refine t_go (op := o_lcmp 36) (fe_X12_isWord 35) (fun _ _ => rfl) ?_
      refine t_ite (op := o_if 43 39 (fun x => x = 0) (fun _ => inferInstance)) (fe_X12_isWord 36) g_if (fun c3 => ?_) (fun c3 => ?_)
      · refine t_go (op := o_ci 40 1) (fe_X12_isWord 39) (fun _ _ => rfl) ?_
        refine t_go (op := o_goto 44) (fe_X12_isWord 40) (fun _ _ => rfl) ?_
        refine t_ret (op := o_zret) (fe_X12_isWord 44) (g_zret (Or.inr rfl)) ?_
        exact ⟨congrArg (fun z => some (Value.int z)) (b2i_t (show isWd TK c i f from ⟨(f_0 hf).mp c1, hs c2, (wrd_c hR hi hc (hs c2)).mp c3⟩)).symm, rfl⟩
      · refine t_go (op := o_ci 44 0) (fe_X12_isWord 43) (fun _ _ => rfl) ?_
        refine t_ret (op := o_zret) (fe_X12_isWord 44) (g_zret (Or.inl rfl)) ?_
        exact ⟨congrArg (fun z => some (Value.int z)) (b2i_f (show ¬ isWd TK c i f from fun q => c3 ((wrd_c hR hi hc q.2.1).mpr q.2.2))).symm, rfl⟩
    · refine t_go (op := o_ci 44 0) (fe_X12_isWord 43) (fun _ _ => rfl) ?_
      refine t_ret (op := o_zret) (fe_X12_isWord 44) (g_zret (Or.inl rfl)) ?_
      exact ⟨congrArg (fun z => some (Value.int z)) (b2i_f (show ¬ isWd TK c i f from fun q => c2 (by rw [q.2.1]; rfl))).symm, rfl⟩
  · refine t_go (op := o_ci 44 0) (fe_X12_isWord 43) (fun _ _ => rfl) ?_
    refine t_ret (op := o_zret) (fe_X12_isWord 44) (g_zret (Or.inl rfl)) ?_
    exact ⟨congrArg (fun z => some (Value.int z)) (b2i_f (show ¬ isWd TK c i f from fun q => c1 ((f_0 hf).mpr q.1))).symm, rfl⟩
theorem r_takeSign {d : Nat} {h : AHP} {TK : Nat → Tk} {n i f : Nat} (hR : RQ h TK n) (hi : i ≤ n) (hf : f < 100000) {c : Nat} (hc : c < 10000) : MM (d + 1) 169 [.ref 183, .int (nI c)] (AT h i f) (fun v h2 => v = none ∧ (isS TK c i f → h2 = AT h (i + 1) f) ∧ (¬ isS TK c i f → h2 = AT h i (wrF TK 1 i f))) := by
  refine ⟨Nat.le_of_ble_eq_true rfl, ?_⟩
  have hS := hR.1
  have hn := hR.2.2.1
  refine t_go (op := o_aload 1 0) (fe_X12_takeSign 0) (fun _ _ => rfl) ?_
  refine t_go (op := o_iload 2 1) (fe_X12_takeSign 1) (fun _ _ => rfl) ?_
  refine t_call (op := o_callV 5 167 2 11) (fe_X12_takeSign 2) (g_callV hS (show (lay 183).1 = 11 by decide) (by decide) rfl rfl rfl (Nat.le_of_ble_eq_true rfl)) ?_
  refine M_eq (r_isSign hR hi hf hc) ?_
  refine t_ite (op := o_if 8 21 (fun x => x = 0) (fun _ => inferInstance)) (fe_X12_takeSign 5) g_if (fun c1 => ?_) (fun c1 => ?_)
  · replace c1 := b2i_z c1
    refine t_go (op := o_aload 22 0) (fe_X12_takeSign 21) (fun _ _ => rfl) ?_
    refine t_go (op := o_ci 23 1) (fe_X12_takeSign 22) (fun _ _ => rfl) ?_
    refine t_call (op := o_callV 26 166 2 11) (fe_X12_takeSign 23) (g_callV hS (show (lay 183).1 = 11 by decide) (by decide) rfl rfl rfl (Nat.le_of_ble_eq_true rfl)) ?_
    refine M_eq (r_wrong (c := 1) hR hi hf) ?_
    refine t_ret (op := o_vret) (fe_X12_takeSign 26) (fun _ _ => rfl) ?_
    exact ⟨rfl, fun q => absurd q c1, fun _ => rfl⟩
  · replace c1 := b2i_nn c1
    refine t_go (op := o_aload 9 0) (fe_X12_takeSign 8) (fun _ _ => rfl) ?_
    refine t_go (op := o_dupA 10) (fe_X12_takeSign 9) (fun _ _ => rfl) ?_
    refine t_go (op := o_getI 13 11 7) (fe_X12_takeSign 10) (g_getI hS (show (lay 183).1 = 11 by decide) (by decide)) ?_
    rw [AT_7]
    refine t_go (op := o_ci 14 1) (fe_X12_takeSign 13) (fun _ _ => rfl) ?_
    refine t_go (op := o_i2 15 (fun x y => x + y)) (fe_X12_takeSign 14) (fun _ _ => rfl) ?_
    refine t_go (op := o_putI 18 11 7) (fe_X12_takeSign 15) (g_putI hS (show (lay 183).1 = 11 by decide) (by decide)) ?_
    refine t_go (op := o_goto 26) (fe_X12_takeSign 18) (fun _ _ => rfl) ?_
    refine t_ret (op := o_vret) (fe_X12_takeSign 26) (fun _ _ => rfl) ?_
    exact ⟨rfl, fun _ => (congrArg (sI (AT h i f) 183 7) (show (fun x y : Int32 => x + y) (nI i) 1 = nI (i + 1) from nI_1 i)).trans AT_7s, fun q => absurd c1 q⟩
theorem r_hasSign {d : Nat} {h : AHP} {TK : Nat → Tk} {n i f : Nat} (hR : RQ h TK n) (hi : i ≤ n) (hf : f < 100000) {c : Nat} (hc : c < 10000) : MM (d + 1) 170 [.ref 183, .int (nI c)] (AT h i f) (fun v h2 => v = some (.int (b2i (isS TK c i f))) ∧ (isS TK c i f → h2 = AT h (i + 1) f) ∧ (¬ isS TK c i f → h2 = AT h i f)) := by
  refine ⟨Nat.le_of_ble_eq_true rfl, ?_⟩
  have hS := hR.1
  have hn := hR.2.2.1
  refine t_go (op := o_aload 1 0) (fe_X12_hasSign 0) (fun _ _ => rfl) ?_
  refine t_go (op := o_iload 2 1) (fe_X12_hasSign 1) (fun _ _ => rfl) ?_
  refine t_call (op := o_callV 5 167 2 11) (fe_X12_hasSign 2) (g_callV hS (show (lay 183).1 = 11 by decide) (by decide) rfl rfl rfl (Nat.le_of_ble_eq_true rfl)) ?_
  refine M_eq (r_isSign hR hi hf hc) ?_
  refine t_go (op := o_istore 6 2) (fe_X12_hasSign 5) (fun _ _ => rfl) ?_
  refine t_go (op := o_aload 7 0) (fe_X12_hasSign 6) (fun _ _ => rfl) ?_
  refine t_go (op := o_dupA 8) (fe_X12_hasSign 7) (fun _ _ => rfl) ?_
  refine t_go (op := o_getI 11 11 7) (fe_X12_hasSign 8) (g_getI hS (show (lay 183).1 = 11 by decide) (by decide)) ?_
  rw [AT_7]
  refine t_go (op := o_iload 12 2) (fe_X12_hasSign 11) (fun _ _ => rfl) ?_
  refine t_ite (op := o_if 15 19 (fun x => x = 0) (fun _ => inferInstance)) (fe_X12_hasSign 12) g_if (fun c1 => ?_) (fun c1 => ?_)
  · replace c1 := b2i_z c1
    refine t_go (op := o_ci 20 0) (fe_X12_hasSign 19) (fun _ _ => rfl) ?_
    refine t_go (op := o_i2 21 (fun x y => x + y)) (fe_X12_hasSign 20) (fun _ _ => rfl) ?_
    refine t_go (op := o_putI 24 11 7) (fe_X12_hasSign 21) (g_putI hS (show (lay 183).1 = 11 by decide) (by decide)) ?_
    refine t_go (op := o_iload 25 2) (fe_X12_hasSign 24) (fun _ _ => rfl) ?_
    refine t_ret (op := o_zret) (fe_X12_hasSign 25) (g_zret b2i_01) ?_
    exact ⟨rfl, fun q => absurd q c1, fun _ => (congrArg (sI (AT h i f) 183 7) (show (fun x y : Int32 => x + y) (nI i) 0 = nI i from nIa rfl (nIl 0))).trans AT_7s⟩
  · replace c1 := b2i_nn c1
    refine t_go (op := o_ci 16 1) (fe_X12_hasSign 15) (fun _ _ => rfl) ?_
    refine t_go (op := o_goto 20) (fe_X12_hasSign 16) (fun _ _ => rfl) ?_
    refine t_go (op := o_i2 21 (fun x y => x + y)) (fe_X12_hasSign 20) (fun _ _ => rfl) ?_
    refine t_go (op := o_putI 24 11 7) (fe_X12_hasSign 21) (g_putI hS (show (lay 183).1 = 11 by decide) (by decide)) ?_
    refine t_go (op := o_iload 25 2) (fe_X12_hasSign 24) (fun _ _ => rfl) ?_
    refine t_ret (op := o_zret) (fe_X12_hasSign 25) (g_zret b2i_01) ?_
    exact ⟨rfl, fun _ => (congrArg (sI (AT h i f) 183 7) (show (fun x y : Int32 => x + y) (nI i) 1 = nI (i + 1) from nI_1 i)).trans AT_7s, fun q => absurd c1 q⟩
theorem r_hasWord {d : Nat} {h : AHP} {TK : Nat → Tk} {n i f : Nat} (hR : RQ h TK n) (hi : i ≤ n) (hf : f < 100000) {c : Nat} (hc : c < 23) : MM (d + 1) 171 [.ref 183, .int (nI c)] (AT h i f) (fun v h2 => v = some (.int (b2i (isWd TK c i f))) ∧ (isWd TK c i f → h2 = AT h (i + 1) f) ∧ (¬ isWd TK c i f → h2 = AT h i f)) := by
  refine ⟨Nat.le_of_ble_eq_true rfl, ?_⟩
  have hS := hR.1
  have hn := hR.2.2.1
  refine t_go (op := o_aload 1 0) (fe_X12_hasWord 0) (fun _ _ => rfl) ?_
  refine t_go (op := o_iload 2 1) (fe_X12_hasWord 1) (fun _ _ => rfl) ?_
  refine t_call (op := o_callV 5 168 2 11) (fe_X12_hasWord 2) (g_callV hS (show (lay 183).1 = 11 by decide) (by decide) rfl rfl rfl (Nat.le_of_ble_eq_true rfl)) ?_
  refine M_eq (r_isWord hR hi hf hc) ?_
  refine t_go (op := o_istore 6 2) (fe_X12_hasWord 5) (fun _ _ => rfl) ?_
  refine t_go (op := o_aload 7 0) (fe_X12_hasWord 6) (fun _ _ => rfl) ?_
  refine t_go (op := o_dupA 8) (fe_X12_hasWord 7) (fun _ _ => rfl) ?_
  refine t_go (op := o_getI 11 11 7) (fe_X12_hasWord 8) (g_getI hS (show (lay 183).1 = 11 by decide) (by decide)) ?_
  rw [AT_7]
  refine t_go (op := o_iload 12 2) (fe_X12_hasWord 11) (fun _ _ => rfl) ?_
  refine t_ite (op := o_if 15 19 (fun x => x = 0) (fun _ => inferInstance)) (fe_X12_hasWord 12) g_if (fun c1 => ?_) (fun c1 => ?_)
  · replace c1 := b2i_z c1
    refine t_go (op := o_ci 20 0) (fe_X12_hasWord 19) (fun _ _ => rfl) ?_
    refine t_go (op := o_i2 21 (fun x y => x + y)) (fe_X12_hasWord 20) (fun _ _ => rfl) ?_
    refine t_go (op := o_putI 24 11 7) (fe_X12_hasWord 21) (g_putI hS (show (lay 183).1 = 11 by decide) (by decide)) ?_
    refine t_go (op := o_iload 25 2) (fe_X12_hasWord 24) (fun _ _ => rfl) ?_
    refine t_ret (op := o_zret) (fe_X12_hasWord 25) (g_zret b2i_01) ?_
    exact ⟨rfl, fun q => absurd q c1, fun _ => (congrArg (sI (AT h i f) 183 7) (show (fun x y : Int32 => x + y) (nI i) 0 = nI i from nIa rfl (nIl 0))).trans AT_7s⟩
  · replace c1 := b2i_nn c1
    refine t_go (op := o_ci 16 1) (fe_X12_hasWord 15) (fun _ _ => rfl) ?_
    refine t_go (op := o_goto 20) (fe_X12_hasWord 16) (fun _ _ => rfl) ?_
    refine t_go (op := o_i2 21 (fun x y => x + y)) (fe_X12_hasWord 20) (fun _ _ => rfl) ?_
    refine t_go (op := o_putI 24 11 7) (fe_X12_hasWord 21) (g_putI hS (show (lay 183).1 = 11 by decide) (by decide)) ?_
    refine t_go (op := o_iload 25 2) (fe_X12_hasWord 24) (fun _ _ => rfl) ?_
    refine t_ret (op := o_zret) (fe_X12_hasWord 25) (g_zret b2i_01) ?_
    exact ⟨rfl, fun _ => (congrArg (sI (AT h i f) 183 7) (show (fun x y : Int32 => x + y) (nI i) 1 = nI (i + 1) from nI_1 i)).trans AT_7s, fun q => absurd c1 q⟩
theorem r_takeWord {d : Nat} {h : AHP} {TK : Nat → Tk} {n i f : Nat} (hR : RQ h TK n) (hi : i ≤ n) (hf : f < 100000) {c : Nat} (hc : c < 23) : MM (d + 2) 172 [.ref 183, .int (nI c)] (AT h i f) (fun v h2 => v = none ∧ (isWd TK c i f → h2 = AT h (i + 1) f) ∧ (¬ isWd TK c i f → h2 = AT h i (wrF TK 1 i f))) := by
  refine ⟨Nat.le_of_ble_eq_true rfl, ?_⟩
  have hS := hR.1
  have hn := hR.2.2.1
  refine t_go (op := o_aload 1 0) (fe_X12_takeWord 0) (fun _ _ => rfl) ?_
  refine t_go (op := o_iload 2 1) (fe_X12_takeWord 1) (fun _ _ => rfl) ?_
  refine t_call (op := o_callV 5 171 2 11) (fe_X12_takeWord 2) (g_callV hS (show (lay 183).1 = 11 by decide) (by decide) rfl rfl rfl (Nat.le_of_ble_eq_true rfl)) ?_
  refine M_mono ?_ (r_hasWord hR hi hf hc)
  rintro _ k2 ⟨rfl, hy, hno⟩
  refine t_ite (op := o_if 13 8 (fun x => x = 0) (fun _ => inferInstance)) (fe_X12_takeWord 5) g_if (fun c1 => ?_) (fun c1 => ?_)
  · replace c1 := b2i_z c1
    rw [hno c1]
    refine t_go (op := o_aload 9 0) (fe_X12_takeWord 8) (fun _ _ => rfl) ?_
    refine t_go (op := o_ci 10 1) (fe_X12_takeWord 9) (fun _ _ => rfl) ?_
    refine t_call (op := o_callV 13 166 2 11) (fe_X12_takeWord 10) (g_callV hS (show (lay 183).1 = 11 by decide) (by decide) rfl rfl rfl (Nat.le_of_ble_eq_true rfl)) ?_
    refine M_eq (r_wrong (c := 1) hR hi hf) ?_
    refine t_ret (op := o_vret) (fe_X12_takeWord 13) (fun _ _ => rfl) ?_
    exact ⟨rfl, fun q => absurd q c1, fun _ => rfl⟩
  · replace c1 := b2i_nn c1
    refine t_ret (op := o_vret) (fe_X12_takeWord 13) (fun _ _ => rfl) ?_
    exact ⟨rfl, fun q => hy q, fun q => absurd c1 q⟩
