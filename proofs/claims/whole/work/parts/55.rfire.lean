/-! ===== the reference: what its calls may change ===== -/
theorem sI_eq {h : AHP} {a i : Nat} {v : Int32} : (sI h a i v).1 a i = v := by simp [sI, up2]
theorem sI_nr {h : AHP} {a i j : Nat} {v : Int32} (hj : j ≠ i) : (sI h a i v).1 a j = h.1 a j := by simp [sI, up2, hj]
theorem sI_ne {h : AHP} {a b i : Nat} {v : Int32} (hb : b ≠ a) : (sI h a i v).1 b = h.1 b := by funext j; simp [sI, up2, hb]
theorem sI_row {h : AHP} {a i : Nat} {v : Int32} : (sI h a i v).1 a = fup (h.1 a) i v := by funext j; simp [sI, up2, fup]
abbrev zRow (a : Nat) : Prop := a < 183 ∨ (183 < a ∧ a < 195) ∨ a = 198 ∨ 199 < a
def Zf (A : Nat → Prop) (h k : AHP) : Prop := k.2.2 = h.2.2 ∧ (∀ a, a = a → k.2.1 a = h.2.1 a) ∧ (∀ a, zRow a → k.1 a = h.1 a) ∧ (∀ i, i ≠ 0 → k.1 183 i = h.1 183 i) ∧ ∀ i, ¬ A i → k.1 197 i = h.1 197 i
theorem Zf.rf {A : Nat → Prop} {h : AHP} : Zf A h h := ⟨rfl, fun _ _ => rfl, fun _ _ => rfl, fun _ _ => rfl, fun _ _ => rfl⟩
theorem Zf.tr {A : Nat → Prop} {h k m : AHP} (h1 : Zf A h k) (h2 : Zf A k m) : Zf A h m := ⟨h2.1.trans h1.1, fun a ha => (h2.2.1 a ha).trans (h1.2.1 a ha), fun a ha => (h2.2.2.1 a ha).trans (h1.2.2.1 a ha), fun a ha => (h2.2.2.2.1 a ha).trans (h1.2.2.2.1 a ha), fun a ha => (h2.2.2.2.2 a ha).trans (h1.2.2.2.2 a ha)⟩
theorem Zf.mono {A B : Nat → Prop} {h k : AHP} (h1 : Zf A h k) (hAB : ∀ i, A i → B i) : Zf B h k := ⟨h1.1, h1.2.1, h1.2.2.1, h1.2.2.2.1, fun i hi => h1.2.2.2.2 i fun q => hi (hAB i q)⟩
theorem Zf.std {A : Nat → Prop} {h k : AHP} (h1 : Zf A h k) (hS : Std h) : Std k := by
  unfold Std
  rw [h1.1]
  exact hS
theorem Zf.row {A : Nat → Prop} {h k : AHP} (h1 : Zf A h k) {a : Nat} (ha : zRow a) : k.1 a = h.1 a := h1.2.2.1 a ha
theorem Zf_scr {A : Nat → Prop} {h k : AHP} {a i : Nat} {v : Int32} (h1 : Zf A h k) (ha : a = 195 ∨ a = 196 ∨ a = 199) : Zf A h (sI k a i v) := ⟨h1.1, h1.2.1, fun b hb => by rw [sI_ne (by omega)]; exact h1.2.2.1 b hb, fun j hj => by rw [sI_ne (by omega)]; exact h1.2.2.2.1 j hj, fun j hj => by rw [sI_ne (by omega)]; exact h1.2.2.2.2 j hj⟩
theorem Zf_pile {A : Nat → Prop} {h k : AHP} {r : Nat → Int32} (h1 : Zf A h k) : Zf A h (rowI k 196 r) := ⟨h1.1, h1.2.1, fun b hb => by rw [rowI_ne (by omega)]; exact h1.2.2.1 b hb, fun j hj => by rw [rowI_ne (by omega)]; exact h1.2.2.2.1 j hj, fun j hj => by rw [rowI_ne (by omega)]; exact h1.2.2.2.2 j hj⟩
theorem Zf_thr {A : Nat → Prop} {h k : AHP} {v : Int32} (h1 : Zf A h k) : Zf A h (sI k 183 0 v) := ⟨h1.1, h1.2.1, fun b hb => by rw [sI_ne (by omega)]; exact h1.2.2.1 b hb, fun j hj => by rw [sI_nr hj]; exact h1.2.2.2.1 j hj, fun j hj => by rw [sI_ne (by omega)]; exact h1.2.2.2.2 j hj⟩
theorem Zf_st {A : Nat → Prop} {h k : AHP} {i : Nat} {v : Int32} (h1 : Zf A h k) (hi : A i) : Zf A h (sI k 197 i v) := ⟨h1.1, h1.2.1, fun b hb => by rw [sI_ne (by omega)]; exact h1.2.2.1 b hb, fun j hj => by rw [sI_ne (by omega)]; exact h1.2.2.2.1 j hj, fun j hj => by rw [sI_nr (fun q => hj (by rw [q]; exact hi))]; exact h1.2.2.2.2 j hj⟩
theorem Zf.g {A : Nat → Prop} {h k : AHP} (h1 : Zf A h k) (a : Nat) : k.2.1 a = h.2.1 a := h1.2.1 a rfl
abbrev blk (b : Nat) : Nat → Prop := fun i => b ≤ i ∧ i < b + 23
def RLw (k : AHP) (st : Nat → Int32) (n : Nat) : Prop := (n = 0 ∧ k.1 189 3 = -1) ∨ (0 < n ∧ n ≤ 1000 ∧ k.1 189 3 = 0 ∧ WFL st n ∧ (∀ i, i < n → codeR (st i) (k.1 190 i) (k.1 191 i)) ∧ k.1 190 n = 0)
/-- the reference's grate, as kinds, a heat, a law -/
def RH (k : AHP) (m : Nat) (K : Nat → Int32) (C : Int32) (st : Nat → Int32) (n : Nat) : Prop := Std k ∧ k.1 189 0 = nI m ∧ m ≤ 7 ∧ (∀ e, e < m → k.1 189 (4 + 4 * e) = K e) ∧ k.1 189 2 = C ∧ RLw k st n
theorem RH.zf {A : Nat → Prop} {k S : AHP} {m n : Nat} {K : Nat → Int32} {C : Int32} {st : Nat → Int32} (hR : RH k m K C st n) (hz : Zf A k S) : RH S m K C st n := by
  unfold RH RLw
  rw [hz.row (a := 189) (by omega), hz.row (a := 190) (by omega), hz.row (a := 191) (by omega)]
  exact ⟨hz.std hR.1, hR.2⟩
theorem RB.zf {A : Nat → Prop} {k S : AHP} {b : Nat} {F : FS} (hB : RB (k.1 197) b F) (hz : Zf A k S) (hA : ∀ i, b ≤ i → i < b + 23 → ¬ A i) : RB (S.1 197) b F := by
  refine ⟨fun e he => ⟨?_, ?_, ?_⟩, ?_, ?_⟩
  · rw [hz.2.2.2.2 _ (hA _ (by omega) (by omega))]; exact (hB.1 e he).1
  · rw [hz.2.2.2.2 _ (hA _ (by omega) (by omega))]; exact (hB.1 e he).2.1
  · rw [hz.2.2.2.2 _ (hA _ (by omega) (by omega))]; exact (hB.1 e he).2.2
  · rw [hz.2.2.2.2 _ (hA _ (by omega) (by omega))]; exact hB.2.1
  · rw [hz.2.2.2.2 _ (hA _ (by omega) (by omega))]; exact hB.2.2
theorem RB_cell {k : AHP} {b i : Nat} {F : FS} {x : Int32} (hB : RB (k.1 197) b F) (hi : i < 7) : RB ((sI k 197 (b + 2 + i) x).1 197) b (fup F.1 i x, F.2) := by
  refine ⟨fun e he => ⟨?_, ?_, ?_⟩, ?_, ?_⟩
  · by_cases h : e = i
    · subst h; rw [sI_eq]; exact fup_eq.symm
    · rw [sI_nr (by omega)]; exact ((hB.1 e he).1).trans (fup_ne h).symm
  · rw [sI_nr (by omega)]; exact (hB.1 e he).2.1
  · rw [sI_nr (by omega)]; exact (hB.1 e he).2.2
  · rw [sI_nr (by omega)]; exact hB.2.1
  · rw [sI_nr (by omega)]; exact hB.2.2
theorem RB_heat {k : AHP} {b i : Nat} {F : FS} {x : Int32} (hB : RB (k.1 197) b F) (hi : i < 7) : RB ((sI k 197 (b + 9 + i) x).1 197) b (F.1, fup F.2.1 i x, F.2.2) := by
  refine ⟨fun e he => ⟨?_, ?_, ?_⟩, ?_, ?_⟩
  · rw [sI_nr (by omega)]; exact (hB.1 e he).1
  · by_cases h : e = i
    · subst h; rw [sI_eq]; exact fup_eq.symm
    · rw [sI_nr (by omega)]; exact ((hB.1 e he).2.1).trans (fup_ne h).symm
  · rw [sI_nr (by omega)]; exact (hB.1 e he).2.2
  · rw [sI_nr (by omega)]; exact hB.2.1
  · rw [sI_nr (by omega)]; exact hB.2.2
theorem RB_fuel {k : AHP} {b i : Nat} {F : FS} {x : Int32} (hB : RB (k.1 197) b F) (hi : i < 7) : RB ((sI k 197 (b + 16 + i) x).1 197) b (F.1, F.2.1, fup F.2.2.1 i x, F.2.2.2) := by
  refine ⟨fun e he => ⟨?_, ?_, ?_⟩, ?_, ?_⟩
  · rw [sI_nr (by omega)]; exact (hB.1 e he).1
  · rw [sI_nr (by omega)]; exact (hB.1 e he).2.1
  · by_cases h : e = i
    · subst h; rw [sI_eq]; exact fup_eq.symm
    · rw [sI_nr (by omega)]; exact ((hB.1 e he).2.2).trans (fup_ne h).symm
  · rw [sI_nr (by omega)]; exact hB.2.1
  · rw [sI_nr (by omega)]; exact hB.2.2
theorem RB_hour {k : AHP} {b : Nat} {F : FS} {x : Int32} (hB : RB (k.1 197) b F) : RB ((sI k 197 b x).1 197) b (F.1, F.2.1, F.2.2.1, F.2.2.2.1, x, F.2.2.2.2.2) := by
  refine ⟨fun e he => ⟨?_, ?_, ?_⟩, ?_, ?_⟩
  · rw [sI_nr (by omega)]; exact (hB.1 e he).1
  · rw [sI_nr (by omega)]; exact (hB.1 e he).2.1
  · rw [sI_nr (by omega)]; exact (hB.1 e he).2.2
  · rw [sI_eq]
  · rw [sI_nr (by omega)]; exact hB.2.2
theorem RB_bank {k : AHP} {b : Nat} {F : FS} {x : Int32} (hB : RB (k.1 197) b F) : RB ((sI k 197 (b + 1) x).1 197) b (F.1, F.2.1, F.2.2.1, F.2.2.2.1, F.2.2.2.2.1, x) := by
  refine ⟨fun e he => ⟨?_, ?_, ?_⟩, ?_, ?_⟩
  · rw [sI_nr (by omega)]; exact (hB.1 e he).1
  · rw [sI_nr (by omega)]; exact (hB.1 e he).2.1
  · rw [sI_nr (by omega)]; exact (hB.1 e he).2.2
  · rw [sI_nr (by omega)]; exact hB.2.1
  · rw [sI_eq]
theorem RB_lies {s : Nat → Int32} {b : Nat} {F : FS} {r : Nat → Int32} (hB : RB s b F) : RB s b (F.1, F.2.1, F.2.2.1, r, F.2.2.2.2) := hB
theorem r_vanishes0 {d : Nat} {k : AHP} {m n b : Nat} {F : FS} {K st : Nat → Int32} {C : Int32} (hR : RH k m K C st n) (hB : RB (k.1 197) b F) (hb : b + 23 ≤ 966) {e : Nat} (he : e < 7) : MM d 212 [.ref 183, .int (nI b), .int (nI e)] k (fun v h2 => v = none ∧ h2 = sI (sI (sI k 197 (b + 2 + e) (-1)) 197 (b + 9 + e) 0) 197 (b + 16 + e) 0) := by
  refine ⟨Nat.le_of_ble_eq_true rfl, ?_⟩
  have hS := hR.1
  refine t_go (op := o_aload 1 0) (fe_X12_vanishes 0) (fun _ _ => rfl) ?_
  refine t_go (op := o_getR 4 11 22) (fe_X12_vanishes 1) (g_getR hS (show (lay 183).1 = 11 by decide) (by decide) (fr_11_22 hS) (by decide)) ?_
  refine t_go (op := o_iload 5 1) (fe_X12_vanishes 4) (fun _ _ => rfl) ?_
  refine t_go (op := o_ci 6 2) (fe_X12_vanishes 5) (fun _ _ => rfl) ?_
  refine t_go (op := o_i2 7 (fun x y => x + y)) (fe_X12_vanishes 6) (fun _ _ => rfl) ?_
  refine t_go (op := o_iload 8 2) (fe_X12_vanishes 7) (fun _ _ => rfl) ?_
  refine t_go (op := o_i2 9 (fun x y => x + y)) (fe_X12_vanishes 8) (fun _ _ => rfl) ?_
  refine t_go (op := o_ci 10 (-1)) (fe_X12_vanishes 9) (fun _ _ => rfl) ?_
  refine t_go (op := o_iast 11) (fe_X12_vanishes 10) (g_iastN hS (show lay 197 = (20, 966) by decide) (nIa (nIa rfl (nIl 2)) rfl) (by omega) (by decide)) ?_
  refine t_go (op := o_aload 12 0) (fe_X12_vanishes 11) (fun _ _ => rfl) ?_
  refine t_go (op := o_getR 15 11 22) (fe_X12_vanishes 12) (g_getR hS (show (lay 183).1 = 11 by decide) (by decide) (fr_11_22 hS) (by decide)) ?_
  refine t_go (op := o_iload 16 1) (fe_X12_vanishes 15) (fun _ _ => rfl) ?_
  refine t_go (op := o_ci 18 9) (fe_X12_vanishes 16) (fun _ _ => rfl) ?_
  refine t_go (op := o_i2 19 (fun x y => x + y)) (fe_X12_vanishes 18) (fun _ _ => rfl) ?_
  refine t_go (op := o_iload 20 2) (fe_X12_vanishes 19) (fun _ _ => rfl) ?_
  refine t_go (op := o_i2 21 (fun x y => x + y)) (fe_X12_vanishes 20) (fun _ _ => rfl) ?_
  refine t_go (op := o_ci 22 0) (fe_X12_vanishes 21) (fun _ _ => rfl) ?_
  refine t_go (op := o_iast 23) (fe_X12_vanishes 22) (g_iastN hS (show lay 197 = (20, 966) by decide) (nIa (nIa rfl (nIl 9)) rfl) (by omega) (by decide)) ?_
  refine t_go (op := o_aload 24 0) (fe_X12_vanishes 23) (fun _ _ => rfl) ?_
  refine t_go (op := o_getR 27 11 22) (fe_X12_vanishes 24) (g_getR hS (show (lay 183).1 = 11 by decide) (by decide) (fr_11_22 hS) (by decide)) ?_
  refine t_go (op := o_iload 28 1) (fe_X12_vanishes 27) (fun _ _ => rfl) ?_
  refine t_go (op := o_ci 30 16) (fe_X12_vanishes 28) (fun _ _ => rfl) ?_
  refine t_go (op := o_i2 31 (fun x y => x + y)) (fe_X12_vanishes 30) (fun _ _ => rfl) ?_
  refine t_go (op := o_iload 32 2) (fe_X12_vanishes 31) (fun _ _ => rfl) ?_
  refine t_go (op := o_i2 33 (fun x y => x + y)) (fe_X12_vanishes 32) (fun _ _ => rfl) ?_
  refine t_go (op := o_ci 34 0) (fe_X12_vanishes 33) (fun _ _ => rfl) ?_
  refine t_go (op := o_iast 35) (fe_X12_vanishes 34) (g_iastN hS (show lay 197 = (20, 966) by decide) (nIa (nIa rfl (nIl 16)) rfl) (by omega) (by decide)) ?_
  refine t_ret (op := o_vret) (fe_X12_vanishes 35) (fun _ _ => rfl) ?_
  exact ⟨rfl, rfl⟩
theorem r_vanishes {d : Nat} {k : AHP} {m n b : Nat} {F : FS} {K st : Nat → Int32} {C : Int32} (hR : RH k m K C st n) (hB : RB (k.1 197) b F) (hb : b + 23 ≤ 966) {e : Nat} (he : e < 7) {F2 : FS} (h2 : F2 = (fup F.1 e (-1), fup F.2.1 e 0, fup F.2.2.1 e 0, F2.2.2.2.1, F.2.2.2.2)) : MM d 212 [.ref 183, .int (nI b), .int (nI e)] k (fun v h2 => v = none ∧ Zf (blk b) k h2 ∧ RB (h2.1 197) b F2) := by
  refine M_mono ?_ (r_vanishes0 hR hB hb he)
  rintro _ _ ⟨rfl, rfl⟩
  refine ⟨rfl, Zf_st (Zf_st (Zf_st Zf.rf (by constructor <;> omega)) (by constructor <;> omega)) (by constructor <;> omega), ?_⟩
  have h3 := RB_lies (r := F2.2.2.2.1) (RB_fuel (x := 0) (RB_heat (x := 0) (RB_cell (x := -1) hB he) he) he)
  rw [h2]
  exact h3
theorem r_fallsA {d : Nat} {k : AHP} {m n b : Nat} {F : FS} {K st : Nat → Int32} {C : Int32} (hR : RH k m K C st n) (hV : FV m F) (hB : RB (k.1 197) b F) (hb : b + 23 ≤ 966) {c : Nat} (h4 : 4 ≤ c) (hc : c < 12) (h1 : F.2.2.2.1 c = -1) : MM (d + 2) 211 [.ref 183, .int (nI b), .int (nI c)] k (fun v h2 => v = none ∧ h2 = k) := by
  refine ⟨Nat.le_of_ble_eq_true rfl, ?_⟩
  have hS := hR.1
  have hE := hR.2.1
  have hm := hR.2.2.1
  have hK := hR.2.2.2.1
  have hC := hR.2.2.2.2.1
  refine t_go (op := o_iload 1 2) (fe_X12_falls 0) (fun _ _ => rfl) ?_
  refine t_go (op := o_ci 2 4) (fe_X12_falls 1) (fun _ _ => rfl) ?_
  refine t_ite (op := o_icmp 5 9 (fun x y => y ≤ x) (fun _ _ => inferInstance)) (fe_X12_falls 2) g_icmp (fun c1 => ?_) (fun c1 => ?_)
  · refine t_go (op := o_aload 10 0) (fe_X12_falls 9) (fun _ _ => rfl) ?_
    refine t_go (op := o_iload 11 1) (fe_X12_falls 10) (fun _ _ => rfl) ?_
    refine t_go (op := o_iload 12 2) (fe_X12_falls 11) (fun _ _ => rfl) ?_
    refine t_call (op := o_callV 15 206 3 11) (fe_X12_falls 12) (g_callV hS (show (lay 183).1 = 11 by decide) (by decide) rfl rfl rfl (Nat.le_of_ble_eq_true rfl)) ?_
    refine M_eq (r_lyingIn hS hV hB hb hm hE (c := c) (by omega)) ?_
    rw [h1]
    refine t_go (op := o_istore 16 3) (fe_X12_falls 15) (fun _ _ => rfl) ?_
    refine t_go (op := o_iload 17 3) (fe_X12_falls 16) (fun _ _ => rfl) ?_
    refine t_ite (op := o_if 20 44 (fun x => x < 0) (fun _ => inferInstance)) (fe_X12_falls 17) g_if (fun c2 => ?_) (fun c2 => ?_)
    · clear c2
      refine t_ret (op := o_vret) (fe_X12_falls 44) (fun _ _ => rfl) ?_
      exact ⟨rfl, rfl⟩
    · exact absurd (by decide) c2
  · exact absurd (nI_le (a := 4) h4 (by omega)) c1
theorem r_fallsB {d : Nat} {k : AHP} {m n b : Nat} {F : FS} {K st : Nat → Int32} {C : Int32} (hR : RH k m K C st n) (hV : FV m F) (hB : RB (k.1 197) b F) (hb : b + 23 ≤ 966) {c : Nat} (h4 : 4 ≤ c) (hc : c < 12) {e e2 : Nat} (he : e < 7) (he2 : e2 < 7) (h1 : F.2.2.2.1 c = nI e) (h2 : F.2.2.2.1 (c - 4) = nI e2) : MM (d + 2) 211 [.ref 183, .int (nI b), .int (nI c)] k (fun v h2 => v = none ∧ h2 = k) := by
  refine ⟨Nat.le_of_ble_eq_true rfl, ?_⟩
  have hS := hR.1
  have hE := hR.2.1
  have hm := hR.2.2.1
  have hK := hR.2.2.2.1
  have hC := hR.2.2.2.2.1
  refine t_go (op := o_iload 1 2) (fe_X12_falls 0) (fun _ _ => rfl) ?_
  refine t_go (op := o_ci 2 4) (fe_X12_falls 1) (fun _ _ => rfl) ?_
  refine t_ite (op := o_icmp 5 9 (fun x y => y ≤ x) (fun _ _ => inferInstance)) (fe_X12_falls 2) g_icmp (fun c1 => ?_) (fun c1 => ?_)
  · refine t_go (op := o_aload 10 0) (fe_X12_falls 9) (fun _ _ => rfl) ?_
    refine t_go (op := o_iload 11 1) (fe_X12_falls 10) (fun _ _ => rfl) ?_
    refine t_go (op := o_iload 12 2) (fe_X12_falls 11) (fun _ _ => rfl) ?_
    refine t_call (op := o_callV 15 206 3 11) (fe_X12_falls 12) (g_callV hS (show (lay 183).1 = 11 by decide) (by decide) rfl rfl rfl (Nat.le_of_ble_eq_true rfl)) ?_
    refine M_eq (r_lyingIn hS hV hB hb hm hE (c := c) (by omega)) ?_
    rw [h1]
    refine t_go (op := o_istore 16 3) (fe_X12_falls 15) (fun _ _ => rfl) ?_
    refine t_go (op := o_iload 17 3) (fe_X12_falls 16) (fun _ _ => rfl) ?_
    refine t_ite (op := o_if 20 44 (fun x => x < 0) (fun _ => inferInstance)) (fe_X12_falls 17) g_if (fun c2 => ?_) (fun c2 => ?_)
    · exact absurd c2 (nI_pos (by omega))
    · clear c2
      refine t_go (op := o_aload 21 0) (fe_X12_falls 20) (fun _ _ => rfl) ?_
      refine t_go (op := o_iload 22 1) (fe_X12_falls 21) (fun _ _ => rfl) ?_
      refine t_go (op := o_iload 23 2) (fe_X12_falls 22) (fun _ _ => rfl) ?_
      refine t_go (op := o_ci 24 4) (fe_X12_falls 23) (fun _ _ => rfl) ?_
      refine t_go (op := o_i2 25 (fun x y => x - y)) (fe_X12_falls 24) (fun _ _ => rfl) ?_
      refine t_call (op := o_callV 28 206 3 11) (fe_X12_falls 25) (g_callV hS (show (lay 183).1 = 11 by decide) (by decide) rfl rfl rfl (Nat.le_of_ble_eq_true rfl)) ?_
      dsimp only
      rw [nI_s4 h4]
      refine M_eq (r_lyingIn hS hV hB hb hm hE (c := (c - 4)) (by omega)) ?_
      rw [h2]
      refine t_ite (op := o_if 31 44 (fun x => 0 ≤ x) (fun _ => inferInstance)) (fe_X12_falls 28) g_if (fun c3 => ?_) (fun c3 => ?_)
      · clear c3
        refine t_ret (op := o_vret) (fe_X12_falls 44) (fun _ _ => rfl) ?_
        exact ⟨rfl, rfl⟩
      · exact absurd (nI_pos' (by omega)) c3
  · exact absurd (nI_le (a := 4) h4 (by omega)) c1
theorem r_fallsC {d : Nat} {k : AHP} {m n b : Nat} {F : FS} {K st : Nat → Int32} {C : Int32} (hR : RH k m K C st n) (hV : FV m F) (hB : RB (k.1 197) b F) (hb : b + 23 ≤ 966) {c : Nat} (h4 : 4 ≤ c) (hc : c < 12) {e : Nat} (he : e < 7) (h1 : F.2.2.2.1 c = nI e) (h2 : F.2.2.2.1 (c - 4) = -1) : MM (d + 2) 211 [.ref 183, .int (nI b), .int (nI c)] k (fun v h2 => v = none ∧ h2 = sI k 197 (b + 2 + e) (nI (c - 4))) := by
  refine ⟨Nat.le_of_ble_eq_true rfl, ?_⟩
  have hS := hR.1
  have hE := hR.2.1
  have hm := hR.2.2.1
  have hK := hR.2.2.2.1
  have hC := hR.2.2.2.2.1
  refine t_go (op := o_iload 1 2) (fe_X12_falls 0) (fun _ _ => rfl) ?_
  refine t_go (op := o_ci 2 4) (fe_X12_falls 1) (fun _ _ => rfl) ?_
  refine t_ite (op := o_icmp 5 9 (fun x y => y ≤ x) (fun _ _ => inferInstance)) (fe_X12_falls 2) g_icmp (fun c1 => ?_) (fun c1 => ?_)
  · refine t_go (op := o_aload 10 0) (fe_X12_falls 9) (fun _ _ => rfl) ?_
    refine t_go (op := o_iload 11 1) (fe_X12_falls 10) (fun _ _ => rfl) ?_
    refine t_go (op := o_iload 12 2) (fe_X12_falls 11) (fun _ _ => rfl) ?_
    refine t_call (op := o_callV 15 206 3 11) (fe_X12_falls 12) (g_callV hS (show (lay 183).1 = 11 by decide) (by decide) rfl rfl rfl (Nat.le_of_ble_eq_true rfl)) ?_
    refine M_eq (r_lyingIn hS hV hB hb hm hE (c := c) (by omega)) ?_
    rw [h1]
    refine t_go (op := o_istore 16 3) (fe_X12_falls 15) (fun _ _ => rfl) ?_
    refine t_go (op := o_iload 17 3) (fe_X12_falls 16) (fun _ _ => rfl) ?_
    refine t_ite (op := o_if 20 44 (fun x => x < 0) (fun _ => inferInstance)) (fe_X12_falls 17) g_if (fun c2 => ?_) (fun c2 => ?_)
    · exact absurd c2 (nI_pos (by omega))
    · clear c2
      refine t_go (op := o_aload 21 0) (fe_X12_falls 20) (fun _ _ => rfl) ?_
      refine t_go (op := o_iload 22 1) (fe_X12_falls 21) (fun _ _ => rfl) ?_
      refine t_go (op := o_iload 23 2) (fe_X12_falls 22) (fun _ _ => rfl) ?_
      refine t_go (op := o_ci 24 4) (fe_X12_falls 23) (fun _ _ => rfl) ?_
      refine t_go (op := o_i2 25 (fun x y => x - y)) (fe_X12_falls 24) (fun _ _ => rfl) ?_
      refine t_call (op := o_callV 28 206 3 11) (fe_X12_falls 25) (g_callV hS (show (lay 183).1 = 11 by decide) (by decide) rfl rfl rfl (Nat.le_of_ble_eq_true rfl)) ?_
      dsimp only
      rw [nI_s4 h4]
      refine M_eq (r_lyingIn hS hV hB hb hm hE (c := (c - 4)) (by omega)) ?_
      rw [h2]
      refine t_ite (op := o_if 31 44 (fun x => 0 ≤ x) (fun _ => inferInstance)) (fe_X12_falls 28) g_if (fun c3 => ?_) (fun c3 => ?_)
      · exact absurd c3 (by decide)
      · clear c3
        refine t_go (op := o_aload 32 0) (fe_X12_falls 31) (fun _ _ => rfl) ?_
        refine t_go (op := o_getR 35 11 22) (fe_X12_falls 32) (g_getR hS (show (lay 183).1 = 11 by decide) (by decide) (fr_11_22 hS) (by decide)) ?_
        refine t_go (op := o_iload 36 1) (fe_X12_falls 35) (fun _ _ => rfl) ?_
        refine t_go (op := o_ci 37 2) (fe_X12_falls 36) (fun _ _ => rfl) ?_
        refine t_go (op := o_i2 38 (fun x y => x + y)) (fe_X12_falls 37) (fun _ _ => rfl) ?_
        refine t_go (op := o_iload 39 3) (fe_X12_falls 38) (fun _ _ => rfl) ?_
        refine t_go (op := o_i2 40 (fun x y => x + y)) (fe_X12_falls 39) (fun _ _ => rfl) ?_
        refine t_go (op := o_iload 41 2) (fe_X12_falls 40) (fun _ _ => rfl) ?_
        refine t_go (op := o_ci 42 4) (fe_X12_falls 41) (fun _ _ => rfl) ?_
        refine t_go (op := o_i2 43 (fun x y => x - y)) (fe_X12_falls 42) (fun _ _ => rfl) ?_
        refine t_go (op := o_iast 44) (fe_X12_falls 43) (g_iastN hS (show lay 197 = (20, 966) by decide) (nIa (nIa rfl (nIl 2)) rfl) (by omega) (by decide)) ?_
        refine t_ret (op := o_vret) (fe_X12_falls 44) (fun _ _ => rfl) ?_
        exact ⟨rfl, by rw [← nI_s4 h4]⟩
  · exact absurd (nI_le (a := 4) h4 (by omega)) c1
theorem r_falls0 {d : Nat} {k : AHP} {m n b : Nat} {F : FS} {K st : Nat → Int32} {C : Int32} (hR : RH k m K C st n) (hV : FV m F) (hB : RB (k.1 197) b F) (hb : b + 23 ≤ 966) {c : Nat} (h4 : c < 4) : MM (d + 2) 211 [.ref 183, .int (nI b), .int (nI c)] k (fun v h2 => v = none ∧ h2 = k) := by
  refine ⟨Nat.le_of_ble_eq_true rfl, ?_⟩
  have hS := hR.1
  have hE := hR.2.1
  have hm := hR.2.2.1
  have hK := hR.2.2.2.1
  have hC := hR.2.2.2.2.1
  refine t_go (op := o_iload 1 2) (fe_X12_falls 0) (fun _ _ => rfl) ?_
  refine t_go (op := o_ci 2 4) (fe_X12_falls 1) (fun _ _ => rfl) ?_
  refine t_ite (op := o_icmp 5 9 (fun x y => y ≤ x) (fun _ _ => inferInstance)) (fe_X12_falls 2) g_icmp (fun c1 => ?_) (fun c1 => ?_)
  · exact absurd c1 (nI_ge (b := 4) h4 (by decide))
  · refine t_go (op := o_ci 6 (-1)) (fe_X12_falls 5) (fun _ _ => rfl) ?_
    refine t_go (op := o_goto 15) (fe_X12_falls 6) (fun _ _ => rfl) ?_
    refine t_go (op := o_istore 16 3) (fe_X12_falls 15) (fun _ _ => rfl) ?_
    refine t_go (op := o_iload 17 3) (fe_X12_falls 16) (fun _ _ => rfl) ?_
    refine t_ite (op := o_if 20 44 (fun x => x < 0) (fun _ => inferInstance)) (fe_X12_falls 17) g_if (fun c2 => ?_) (fun c2 => ?_)
    · clear c2
      refine t_ret (op := o_vret) (fe_X12_falls 44) (fun _ _ => rfl) ?_
      exact ⟨rfl, rfl⟩
    · exact absurd (by decide) c2
theorem r_falls {d : Nat} {k : AHP} {m n b : Nat} {F : FS} {K st : Nat → Int32} {C : Int32} (hR : RH k m K C st n) (hV : FV m F) (hB : RB (k.1 197) b F) (hb : b + 23 ≤ 966) {c : Nat} (h4 : 4 ≤ c) (hc : c < 12) : MM (d + 2) 211 [.ref 183, .int (nI b), .int (nI c)] k (fun v h2 => v = none ∧ Zf (blk b) k h2 ∧ RB (h2.1 197) b (fallS c F)) := by
  rcases hV.2.1 c hc with ⟨h1, _⟩ | ⟨e, he, h1, hce⟩
  · refine M_mono ?_ (r_fallsA hR hV hB hb h4 hc h1)
    rintro _ _ ⟨rfl, rfl⟩
    refine ⟨rfl, Zf.rf, ?_⟩
    rw [fallS, nI_clamp (by omega), h1, carry_m1]
    exact hB
  · have hh : hasF F (nI e) := by rw [FV_has hV he, hce]; exact nI_pos (by omega)
    rcases hV.2.1 (c - 4) (by omega) with ⟨h2, _⟩ | ⟨e2, he2, h2, _⟩
    · refine M_mono ?_ (r_fallsC hR hV hB hb h4 hc he h1 h2)
      rintro _ _ ⟨rfl, rfl⟩
      refine ⟨rfl, Zf_st Zf.rf (by constructor <;> omega), ?_⟩
      rw [fallS, nI_clamp (by omega), h1, nI_s4 h4, carry_eq hV he hh hce hc (by omega) h2]
      exact RB_lies (RB_cell hB he)
    · refine M_mono ?_ (r_fallsB hR hV hB hb h4 hc he he2 h1 h2)
      rintro _ _ ⟨rfl, rfl⟩
      refine ⟨rfl, Zf.rf, ?_⟩
      rw [fallS, nI_clamp (by omega), h1, nI_s4 h4, carryF, if_neg fun q => by
        have := (free_n (show c - 4 < 12 by omega)).mp q.2
        rw [h2] at this
        exact nI_m1 (by omega) this]
      exact hB
theorem l_rheat {d : Nat} {k : AHP} {m n b : Nat} {F : FS} {K st : Nat → Int32} {C : Int32} (hR : RH k m K C st n) (hV : FV m F) (hB : RB (k.1 197) b F) (hb : b + 23 ≤ 966) {Q : Option Value → AHP → Prop} : ∀ (j i : Nat) (S : Int32), i + j = m → Q (some (.int (it (sumS F.2.1) j i S))) k → TT (d + 1) 216 4 [some (.ref 183), some (.int (nI b)), some (.int S), some (.int (nI i))] [] k Q := by
  intro j
  induction j with
  | zero =>
    intro i S hi  hq
    have hN : i = m := by omega
    have hS := hR.1
    have hE := hR.2.1
    have hm := hR.2.2.1
    refine t_go (op := o_iload 5 3) (fe_X12_heatOfAll 4) (fun _ _ => rfl) ?_
    refine t_go (op := o_aload 6 0) (fe_X12_heatOfAll 5) (fun _ _ => rfl) ?_
    refine t_call (op := o_callV 9 200 1 11) (fe_X12_heatOfAll 6) (g_callV hS (show (lay 183).1 = 11 by decide) (by decide) rfl rfl rfl (Nat.le_of_ble_eq_true rfl)) ?_
    refine M_eq (r_embers hS hE) ?_
    refine t_ite (op := o_icmp 12 32 (fun x y => y ≤ x) (fun _ _ => inferInstance)) (fe_X12_heatOfAll 9) g_icmp (fun c1 => ?_) (fun c1 => ?_)
    · refine t_go (op := o_iload 33 2) (fe_X12_heatOfAll 32) (fun _ _ => rfl) ?_
      refine t_ret (op := o_iret) (fe_X12_heatOfAll 33) (fun _ _ => rfl) ?_
      exact hq
    · exact absurd (by rw [hN]; exact Int32.le_refl _) c1
  | succ j ih =>
    intro i S hi  hq
    have hi7 : i < m := by omega
    have hS := hR.1
    have hE := hR.2.1
    have hm := hR.2.2.1
    refine t_go (op := o_iload 5 3) (fe_X12_heatOfAll 4) (fun _ _ => rfl) ?_
    refine t_go (op := o_aload 6 0) (fe_X12_heatOfAll 5) (fun _ _ => rfl) ?_
    refine t_call (op := o_callV 9 200 1 11) (fe_X12_heatOfAll 6) (g_callV hS (show (lay 183).1 = 11 by decide) (by decide) rfl rfl rfl (Nat.le_of_ble_eq_true rfl)) ?_
    refine M_eq (r_embers hS hE) ?_
    refine t_ite (op := o_icmp 12 32 (fun x y => y ≤ x) (fun _ _ => inferInstance)) (fe_X12_heatOfAll 9) g_icmp (fun c1 => ?_) (fun c1 => ?_)
    · exact absurd c1 (nI_ge hi7 (by omega))
    · refine t_go (op := o_iload 13 2) (fe_X12_heatOfAll 12) (fun _ _ => rfl) ?_
      refine t_go (op := o_aload 14 0) (fe_X12_heatOfAll 13) (fun _ _ => rfl) ?_
      refine t_go (op := o_getR 17 11 22) (fe_X12_heatOfAll 14) (g_getR hS (show (lay 183).1 = 11 by decide) (by decide) (fr_11_22 hS) (by decide)) ?_
      refine t_go (op := o_iload 18 1) (fe_X12_heatOfAll 17) (fun _ _ => rfl) ?_
      refine t_go (op := o_ci 20 9) (fe_X12_heatOfAll 18) (fun _ _ => rfl) ?_
      refine t_go (op := o_i2 21 (fun x y => x + y)) (fe_X12_heatOfAll 20) (fun _ _ => rfl) ?_
      refine t_go (op := o_iload 22 3) (fe_X12_heatOfAll 21) (fun _ _ => rfl) ?_
      refine t_go (op := o_i2 23 (fun x y => x + y)) (fe_X12_heatOfAll 22) (fun _ _ => rfl) ?_
      refine t_go (op := o_iald 24) (fe_X12_heatOfAll 23) (g_ialdN hS (show lay 197 = (20, 966) by decide) (nIa (nIa rfl (nIl 9)) rfl) (by omega) (by decide)) ?_
      rw [(hB.1 i (by omega)).2.1]
      refine t_go (op := o_i2 25 (fun x y => x + y)) (fe_X12_heatOfAll 24) (fun _ _ => rfl) ?_
      refine t_go (op := o_istore 26 2) (fe_X12_heatOfAll 25) (fun _ _ => rfl) ?_
      refine t_go (op := o_iinc 29 3 1) (fe_X12_heatOfAll 26) (fun _ _ => rfl) ?_
      refine t_go (op := o_goto 4) (fe_X12_heatOfAll 29) (fun _ _ => rfl) ?_
      rw [it_step, sumS, nI_clamp (by omega)] at hq
      rw [nI_1]
      exact ih (i + 1) _ (by omega) hq
theorem heat_m {m : Nat} {F : FS} (hV : FV m F) (hm : m ≤ 7) : it (sumS F.2.1) 7 0 0 = it (sumS F.2.1) m 0 0 := it_more hm fun t s h1 h2 => by
  rw [sumS, nI_clamp (by omega), (FV_out hV h2 (FV_no hV h2 h1)).2.1, Int32.add_zero]
theorem r_heatOfAll {d : Nat} {k : AHP} {m n b : Nat} {F : FS} {K st : Nat → Int32} {C : Int32} (hR : RH k m K C st n) (hV : FV m F) (hB : RB (k.1 197) b F) (hb : b + 23 ≤ 966) : MM (d + 1) 216 [.ref 183, .int (nI b)] k (fun v h2 => v = some (.int (it (sumS F.2.1) 7 0 0)) ∧ h2 = k) := by
  refine ⟨Nat.le_of_ble_eq_true rfl, ?_⟩
  have hS := hR.1
  have hE := hR.2.1
  have hm := hR.2.2.1
  have hK := hR.2.2.2.1
  have hC := hR.2.2.2.2.1
  refine t_go (op := o_ci 1 0) (fe_X12_heatOfAll 0) (fun _ _ => rfl) ?_
  refine t_go (op := o_istore 2 2) (fe_X12_heatOfAll 1) (fun _ _ => rfl) ?_
  refine t_go (op := o_ci 3 0) (fe_X12_heatOfAll 2) (fun _ _ => rfl) ?_
  refine t_go (op := o_istore 4 3) (fe_X12_heatOfAll 3) (fun _ _ => rfl) ?_
  exact l_rheat hR hV hB hb m 0 0 (by omega) ⟨by rw [heat_m hV hm], rfl⟩
theorem le20_mn (y : Int32) : (if y ≤ 20 then y else 20) = mn20 y := by
  unfold mn20
  by_cases h : y < 20
  · rw [if_pos h, if_pos (Int32.le_of_lt h)]
  · rw [if_neg h]
    by_cases h2 : y ≤ 20
    · rw [if_pos h2]
      have h3 : ¬ y.toInt < (20 : Int32).toInt := fun q => h (Int32.lt_iff_toInt_lt.mpr q)
      have h4 : y.toInt ≤ (20 : Int32).toInt := Int32.le_iff_toInt_le.mp h2
      exact Int32.toInt_inj.mp (by omega)
    · rw [if_neg h2]
theorem FV_lie {m e c : Nat} {F : FS} (hV : FV m F) (he : e < 7) (hc : c < 12) (hce : F.1 e = nI c) : F.2.2.2.1 c = nI e := by
  rcases hV.2.1 c hc with ⟨_, h2⟩ | ⟨e2, he2, h1, h2⟩
  · exact absurd hce (h2 e he)
  · rcases hV.2.2.1 e2 e he2 he (h2.trans hce.symm) with h3 | h3
    · rw [h2] at h3; exact absurd h3 (nI_m1 (by omega))
    · rw [h1, h3]
theorem mn_n {x : Nat} (hx : x ≤ 1000) : mn20 (nI x) = nI (if x < 20 then x else 20) := by
  unfold mn20
  by_cases h : x < 20
  · rw [if_pos h, if_pos (show nI x < 20 from nI_lt (b := 20) h (by decide))]
  · rw [if_neg h, if_neg (show ¬ nI x < 20 from nI_nlt (b := 20) (by omega) (by omega))]; rfl
theorem stoke_eq {m e c : Nat} {F : FS} (hV : FV m F) (he : e < 7) (hh : hasF F (nI e)) (hc : c < 12) (hce : F.1 e = nI c) : stokeF F (nI e) = carryF (F.1, fup F.2.1 e (mn20 (F.2.1 e + 3)), F.2.2) (nI e) (nI c - 4) := by
  rw [stokeF, if_pos hh, nI_clamp (by omega), hce]
theorem FV_stoke1 {m e : Nat} {F : FS} (hV : FV m F) (he : e < 7) (hh : hasF F (nI e)) : FV m (F.1, fup F.2.1 e (mn20 (F.2.1 e + 3)), F.2.2) := by
  obtain ⟨_, c, x, y, _, hx, _, _, _, h7, _⟩ := FV_in hV he hh
  rw [h7, nIa rfl (show (3 : Int32) = nI 3 from rfl), mn_n (by omega)]
  exact FV_heat hV (by split <;> omega) hh he
theorem neg4 : ∀ c, c < 4 → (nI c - 4 : Int32) < 0 := by decide +kernel
theorem carry_neg {F : FS} {e x : Int32} (hx : x < 0) : carryF F e x = F := by rw [carryF, if_neg fun q => q.2.1 hx]
theorem FV_stoke {m e : Nat} {F : FS} (hV : FV m F) (he : e < 7) : FV m (stokeF F (nI e)) := by
  by_cases hh : hasF F (nI e)
  · obtain ⟨_, c, _, _, hc, _, _, _, hce, _⟩ := FV_in hV he hh
    rw [stoke_eq hV he hh hc hce]
    by_cases h4 : c < 4
    · rw [carry_neg (neg4 c h4)]; exact FV_stoke1 hV he hh
    · rw [nI_s4 (by omega)]; exact FV_carry (FV_stoke1 hV he hh) he (by omega)
  · rw [stokeF, if_neg hh]; exact hV
theorem FV_addFuel {m e x : Nat} {F : FS} (hV : FV m F) (he : e < 7) (hx : x ≤ 100) : FV m (addFuelF F (nI e) (nI x)) := by
  by_cases hh : hasF F (nI e)
  · obtain ⟨_, c, x1, y, _, _, h4, h5, _, _, h8⟩ := FV_in hV he hh
    rw [addFuelF, if_pos hh, nI_clamp (by omega), h8, nI_add, mn_n (by omega)]
    exact FV_fuel hV (by split <;> omega) (by split <;> omega) hh he
  · rw [addFuelF, if_neg hh]; exact hV
theorem r_pokesA {d : Nat} {k : AHP} {m n b : Nat} {F : FS} {K st : Nat → Int32} {C : Int32} (hR : RH k m K C st n) (hV : FV m F) (hB : RB (k.1 197) b F) (hb : b + 23 ≤ 966) {e c : Nat} (he : e < 7) (hh : hasF F (nI e)) (hc : c < 12) (hce : F.1 e = nI c) (h4 : 4 ≤ c) : MM (d + 3) 217 [.ref 183, .int (nI b), .int (nI e)] k (fun v h2 => v = none ∧ Zf (blk b) k h2 ∧ RB (h2.1 197) b (stokeF F (nI e))) := by
  refine ⟨Nat.le_of_ble_eq_true rfl, ?_⟩
  have hS := hR.1
  have hE := hR.2.1
  have hm := hR.2.2.1
  obtain ⟨hem, _, x, y, _, hx, hy, hy2, _, h7, h8⟩ := FV_in hV he hh
  refine t_go (op := o_aload 1 0) (fe_X12_pokes 0) (fun _ _ => rfl) ?_
  refine t_go (op := o_getR 4 11 22) (fe_X12_pokes 1) (g_getR hS (show (lay 183).1 = 11 by decide) (by decide) (fr_11_22 hS) (by decide)) ?_
  refine t_go (op := o_iload 5 1) (fe_X12_pokes 4) (fun _ _ => rfl) ?_
  refine t_go (op := o_ci 7 9) (fe_X12_pokes 5) (fun _ _ => rfl) ?_
  refine t_go (op := o_i2 8 (fun x y => x + y)) (fe_X12_pokes 7) (fun _ _ => rfl) ?_
  refine t_go (op := o_iload 9 2) (fe_X12_pokes 8) (fun _ _ => rfl) ?_
  refine t_go (op := o_i2 10 (fun x y => x + y)) (fe_X12_pokes 9) (fun _ _ => rfl) ?_
  refine t_go (op := o_aload 11 0) (fe_X12_pokes 10) (fun _ _ => rfl) ?_
  refine t_go (op := o_getR 14 11 22) (fe_X12_pokes 11) (g_getR hS (show (lay 183).1 = 11 by decide) (by decide) (fr_11_22 hS) (by decide)) ?_
  refine t_go (op := o_iload 15 1) (fe_X12_pokes 14) (fun _ _ => rfl) ?_
  refine t_go (op := o_ci 17 9) (fe_X12_pokes 15) (fun _ _ => rfl) ?_
  refine t_go (op := o_i2 18 (fun x y => x + y)) (fe_X12_pokes 17) (fun _ _ => rfl) ?_
  refine t_go (op := o_iload 19 2) (fe_X12_pokes 18) (fun _ _ => rfl) ?_
  refine t_go (op := o_i2 20 (fun x y => x + y)) (fe_X12_pokes 19) (fun _ _ => rfl) ?_
  refine t_go (op := o_iald 21) (fe_X12_pokes 20) (g_ialdN hS (show lay 197 = (20, 966) by decide) (nIa (nIa rfl (nIl 9)) rfl) (by omega) (by decide)) ?_
  rw [(hB.1 e he).2.1]
  refine t_go (op := o_ci 22 3) (fe_X12_pokes 21) (fun _ _ => rfl) ?_
  refine t_go (op := o_i2 23 (fun x y => x + y)) (fe_X12_pokes 22) (fun _ _ => rfl) ?_
  refine t_go (op := o_ci 25 20) (fe_X12_pokes 23) (fun _ _ => rfl) ?_
  refine t_ite (op := o_icmp 28 33 (fun x y => x ≤ y) (fun _ _ => inferInstance)) (fe_X12_pokes 25) g_icmp (fun c1 => ?_) (fun c1 => ?_)
  · refine t_go (op := o_aload 34 0) (fe_X12_pokes 33) (fun _ _ => rfl) ?_
    refine t_go (op := o_getR 37 11 22) (fe_X12_pokes 34) (g_getR hS (show (lay 183).1 = 11 by decide) (by decide) (fr_11_22 hS) (by decide)) ?_
    refine t_go (op := o_iload 38 1) (fe_X12_pokes 37) (fun _ _ => rfl) ?_
    refine t_go (op := o_ci 40 9) (fe_X12_pokes 38) (fun _ _ => rfl) ?_
    refine t_go (op := o_i2 41 (fun x y => x + y)) (fe_X12_pokes 40) (fun _ _ => rfl) ?_
    refine t_go (op := o_iload 42 2) (fe_X12_pokes 41) (fun _ _ => rfl) ?_
    refine t_go (op := o_i2 43 (fun x y => x + y)) (fe_X12_pokes 42) (fun _ _ => rfl) ?_
    refine t_go (op := o_iald 44) (fe_X12_pokes 43) (g_ialdN hS (show lay 197 = (20, 966) by decide) (nIa (nIa rfl (nIl 9)) rfl) (by omega) (by decide)) ?_
    rw [(hB.1 e he).2.1]
    refine t_go (op := o_ci 45 3) (fe_X12_pokes 44) (fun _ _ => rfl) ?_
    refine t_go (op := o_i2 46 (fun x y => x + y)) (fe_X12_pokes 45) (fun _ _ => rfl) ?_
    refine t_go (op := o_iast 47) (fe_X12_pokes 46) (g_iastN hS (show lay 197 = (20, 966) by decide) (nIa (nIa rfl (nIl 9)) rfl) (by omega) (by decide)) ?_
    try dsimp only
    rw [show F.2.1 e + 3 = mn20 (F.2.1 e + 3) from (Eq.symm (show (if F.2.1 e + 3 ≤ 20 then F.2.1 e + 3 else 20) = _ from if_pos c1)).trans (le20_mn _)]
    have hz1 : Zf (blk b) k (sI k 197 (b + 9 + e) (mn20 (F.2.1 e + 3))) := Zf_st Zf.rf (by constructor <;> omega)
    have hB1 := RB_heat (x := mn20 (F.2.1 e + 3)) hB he
    have hV1 := FV_stoke1 hV he hh
    have hR1 := hR.zf hz1
    replace hS := hR1.1
    refine t_go (op := o_aload 48 0) (fe_X12_pokes 47) (fun _ _ => rfl) ?_
    refine t_go (op := o_iload 49 1) (fe_X12_pokes 48) (fun _ _ => rfl) ?_
    refine t_go (op := o_aload 50 0) (fe_X12_pokes 49) (fun _ _ => rfl) ?_
    refine t_go (op := o_getR 53 11 22) (fe_X12_pokes 50) (g_getR hS (show (lay 183).1 = 11 by decide) (by decide) (fr_11_22 hS) (by decide)) ?_
    refine t_go (op := o_iload 54 1) (fe_X12_pokes 53) (fun _ _ => rfl) ?_
    refine t_go (op := o_ci 55 2) (fe_X12_pokes 54) (fun _ _ => rfl) ?_
    refine t_go (op := o_i2 56 (fun x y => x + y)) (fe_X12_pokes 55) (fun _ _ => rfl) ?_
    refine t_go (op := o_iload 57 2) (fe_X12_pokes 56) (fun _ _ => rfl) ?_
    refine t_go (op := o_i2 58 (fun x y => x + y)) (fe_X12_pokes 57) (fun _ _ => rfl) ?_
    refine t_go (op := o_iald 59) (fe_X12_pokes 58) (g_ialdN hS (show lay 197 = (20, 966) by decide) (nIa (nIa rfl (nIl 2)) rfl) (by omega) (by decide)) ?_
    rw [show (sI k 197 (b + 9 + e) (mn20 (F.2.1 e + 3))).1 197 (b + 2 + e) = nI c from ((hB1.1 e he).1).trans hce]
    refine t_call (op := o_callV 62 211 3 11) (fe_X12_pokes 59) (g_callV hS (show (lay 183).1 = 11 by decide) (by decide) rfl rfl rfl (Nat.le_of_ble_eq_true rfl)) ?_
    refine M_mono ?_ (r_falls hR1 hV1 hB1 hb h4 hc)
    rintro _ h2 ⟨rfl, hz2, hB2⟩
    refine t_ret (op := o_vret) (fe_X12_pokes 62) (fun _ _ => rfl) ?_
    refine ⟨rfl, hz1.tr hz2, ?_⟩
    rw [stoke_eq hV he hh hc hce]
    rw [fallS, nI_clamp (by omega), show (F.1, fup F.2.1 e (mn20 (F.2.1 e + 3)), F.2.2).2.2.2.1 c = nI e from FV_lie (F := F) hV he hc hce] at hB2
    exact hB2
  · refine t_go (op := o_ci 30 20) (fe_X12_pokes 28) (fun _ _ => rfl) ?_
    refine t_go (op := o_goto 46) (fe_X12_pokes 30) (fun _ _ => rfl) ?_
    refine t_go (op := o_iast 47) (fe_X12_pokes 46) (g_iastN hS (show lay 197 = (20, 966) by decide) (nIa (nIa rfl (nIl 9)) rfl) (by omega) (by decide)) ?_
    try dsimp only
    rw [show (20 : Int32) = mn20 (F.2.1 e + 3) from (Eq.symm (show (if F.2.1 e + 3 ≤ 20 then F.2.1 e + 3 else 20) = _ from if_neg c1)).trans (le20_mn _)]
    have hz1 : Zf (blk b) k (sI k 197 (b + 9 + e) (mn20 (F.2.1 e + 3))) := Zf_st Zf.rf (by constructor <;> omega)
    have hB1 := RB_heat (x := mn20 (F.2.1 e + 3)) hB he
    have hV1 := FV_stoke1 hV he hh
    have hR1 := hR.zf hz1
    replace hS := hR1.1
    refine t_go (op := o_aload 48 0) (fe_X12_pokes 47) (fun _ _ => rfl) ?_
    refine t_go (op := o_iload 49 1) (fe_X12_pokes 48) (fun _ _ => rfl) ?_
    refine t_go (op := o_aload 50 0) (fe_X12_pokes 49) (fun _ _ => rfl) ?_
    refine t_go (op := o_getR 53 11 22) (fe_X12_pokes 50) (g_getR hS (show (lay 183).1 = 11 by decide) (by decide) (fr_11_22 hS) (by decide)) ?_
    refine t_go (op := o_iload 54 1) (fe_X12_pokes 53) (fun _ _ => rfl) ?_
    refine t_go (op := o_ci 55 2) (fe_X12_pokes 54) (fun _ _ => rfl) ?_
    refine t_go (op := o_i2 56 (fun x y => x + y)) (fe_X12_pokes 55) (fun _ _ => rfl) ?_
    refine t_go (op := o_iload 57 2) (fe_X12_pokes 56) (fun _ _ => rfl) ?_
    refine t_go (op := o_i2 58 (fun x y => x + y)) (fe_X12_pokes 57) (fun _ _ => rfl) ?_
    refine t_go (op := o_iald 59) (fe_X12_pokes 58) (g_ialdN hS (show lay 197 = (20, 966) by decide) (nIa (nIa rfl (nIl 2)) rfl) (by omega) (by decide)) ?_
    rw [show (sI k 197 (b + 9 + e) (mn20 (F.2.1 e + 3))).1 197 (b + 2 + e) = nI c from ((hB1.1 e he).1).trans hce]
    refine t_call (op := o_callV 62 211 3 11) (fe_X12_pokes 59) (g_callV hS (show (lay 183).1 = 11 by decide) (by decide) rfl rfl rfl (Nat.le_of_ble_eq_true rfl)) ?_
    refine M_mono ?_ (r_falls hR1 hV1 hB1 hb h4 hc)
    rintro _ h2 ⟨rfl, hz2, hB2⟩
    refine t_ret (op := o_vret) (fe_X12_pokes 62) (fun _ _ => rfl) ?_
    refine ⟨rfl, hz1.tr hz2, ?_⟩
    rw [stoke_eq hV he hh hc hce]
    rw [fallS, nI_clamp (by omega), show (F.1, fup F.2.1 e (mn20 (F.2.1 e + 3)), F.2.2).2.2.2.1 c = nI e from FV_lie (F := F) hV he hc hce] at hB2
    exact hB2
theorem r_pokesB {d : Nat} {k : AHP} {m n b : Nat} {F : FS} {K st : Nat → Int32} {C : Int32} (hR : RH k m K C st n) (hV : FV m F) (hB : RB (k.1 197) b F) (hb : b + 23 ≤ 966) {e c : Nat} (he : e < 7) (hh : hasF F (nI e)) (hc : c < 12) (hce : F.1 e = nI c) (h4 : c < 4) : MM (d + 3) 217 [.ref 183, .int (nI b), .int (nI e)] k (fun v h2 => v = none ∧ Zf (blk b) k h2 ∧ RB (h2.1 197) b (stokeF F (nI e))) := by
  refine ⟨Nat.le_of_ble_eq_true rfl, ?_⟩
  have hS := hR.1
  have hE := hR.2.1
  have hm := hR.2.2.1
  obtain ⟨hem, _, x, y, _, hx, hy, hy2, _, h7, h8⟩ := FV_in hV he hh
  refine t_go (op := o_aload 1 0) (fe_X12_pokes 0) (fun _ _ => rfl) ?_
  refine t_go (op := o_getR 4 11 22) (fe_X12_pokes 1) (g_getR hS (show (lay 183).1 = 11 by decide) (by decide) (fr_11_22 hS) (by decide)) ?_
  refine t_go (op := o_iload 5 1) (fe_X12_pokes 4) (fun _ _ => rfl) ?_
  refine t_go (op := o_ci 7 9) (fe_X12_pokes 5) (fun _ _ => rfl) ?_
  refine t_go (op := o_i2 8 (fun x y => x + y)) (fe_X12_pokes 7) (fun _ _ => rfl) ?_
  refine t_go (op := o_iload 9 2) (fe_X12_pokes 8) (fun _ _ => rfl) ?_
  refine t_go (op := o_i2 10 (fun x y => x + y)) (fe_X12_pokes 9) (fun _ _ => rfl) ?_
  refine t_go (op := o_aload 11 0) (fe_X12_pokes 10) (fun _ _ => rfl) ?_
  refine t_go (op := o_getR 14 11 22) (fe_X12_pokes 11) (g_getR hS (show (lay 183).1 = 11 by decide) (by decide) (fr_11_22 hS) (by decide)) ?_
  refine t_go (op := o_iload 15 1) (fe_X12_pokes 14) (fun _ _ => rfl) ?_
  refine t_go (op := o_ci 17 9) (fe_X12_pokes 15) (fun _ _ => rfl) ?_
  refine t_go (op := o_i2 18 (fun x y => x + y)) (fe_X12_pokes 17) (fun _ _ => rfl) ?_
  refine t_go (op := o_iload 19 2) (fe_X12_pokes 18) (fun _ _ => rfl) ?_
  refine t_go (op := o_i2 20 (fun x y => x + y)) (fe_X12_pokes 19) (fun _ _ => rfl) ?_
  refine t_go (op := o_iald 21) (fe_X12_pokes 20) (g_ialdN hS (show lay 197 = (20, 966) by decide) (nIa (nIa rfl (nIl 9)) rfl) (by omega) (by decide)) ?_
  rw [(hB.1 e he).2.1]
  refine t_go (op := o_ci 22 3) (fe_X12_pokes 21) (fun _ _ => rfl) ?_
  refine t_go (op := o_i2 23 (fun x y => x + y)) (fe_X12_pokes 22) (fun _ _ => rfl) ?_
  refine t_go (op := o_ci 25 20) (fe_X12_pokes 23) (fun _ _ => rfl) ?_
  refine t_ite (op := o_icmp 28 33 (fun x y => x ≤ y) (fun _ _ => inferInstance)) (fe_X12_pokes 25) g_icmp (fun c1 => ?_) (fun c1 => ?_)
  · refine t_go (op := o_aload 34 0) (fe_X12_pokes 33) (fun _ _ => rfl) ?_
    refine t_go (op := o_getR 37 11 22) (fe_X12_pokes 34) (g_getR hS (show (lay 183).1 = 11 by decide) (by decide) (fr_11_22 hS) (by decide)) ?_
    refine t_go (op := o_iload 38 1) (fe_X12_pokes 37) (fun _ _ => rfl) ?_
    refine t_go (op := o_ci 40 9) (fe_X12_pokes 38) (fun _ _ => rfl) ?_
    refine t_go (op := o_i2 41 (fun x y => x + y)) (fe_X12_pokes 40) (fun _ _ => rfl) ?_
    refine t_go (op := o_iload 42 2) (fe_X12_pokes 41) (fun _ _ => rfl) ?_
    refine t_go (op := o_i2 43 (fun x y => x + y)) (fe_X12_pokes 42) (fun _ _ => rfl) ?_
    refine t_go (op := o_iald 44) (fe_X12_pokes 43) (g_ialdN hS (show lay 197 = (20, 966) by decide) (nIa (nIa rfl (nIl 9)) rfl) (by omega) (by decide)) ?_
    rw [(hB.1 e he).2.1]
    refine t_go (op := o_ci 45 3) (fe_X12_pokes 44) (fun _ _ => rfl) ?_
    refine t_go (op := o_i2 46 (fun x y => x + y)) (fe_X12_pokes 45) (fun _ _ => rfl) ?_
    refine t_go (op := o_iast 47) (fe_X12_pokes 46) (g_iastN hS (show lay 197 = (20, 966) by decide) (nIa (nIa rfl (nIl 9)) rfl) (by omega) (by decide)) ?_
    try dsimp only
    rw [show F.2.1 e + 3 = mn20 (F.2.1 e + 3) from (Eq.symm (show (if F.2.1 e + 3 ≤ 20 then F.2.1 e + 3 else 20) = _ from if_pos c1)).trans (le20_mn _)]
    have hz1 : Zf (blk b) k (sI k 197 (b + 9 + e) (mn20 (F.2.1 e + 3))) := Zf_st Zf.rf (by constructor <;> omega)
    have hB1 := RB_heat (x := mn20 (F.2.1 e + 3)) hB he
    have hV1 := FV_stoke1 hV he hh
    have hR1 := hR.zf hz1
    replace hS := hR1.1
    refine t_go (op := o_aload 48 0) (fe_X12_pokes 47) (fun _ _ => rfl) ?_
    refine t_go (op := o_iload 49 1) (fe_X12_pokes 48) (fun _ _ => rfl) ?_
    refine t_go (op := o_aload 50 0) (fe_X12_pokes 49) (fun _ _ => rfl) ?_
    refine t_go (op := o_getR 53 11 22) (fe_X12_pokes 50) (g_getR hS (show (lay 183).1 = 11 by decide) (by decide) (fr_11_22 hS) (by decide)) ?_
    refine t_go (op := o_iload 54 1) (fe_X12_pokes 53) (fun _ _ => rfl) ?_
    refine t_go (op := o_ci 55 2) (fe_X12_pokes 54) (fun _ _ => rfl) ?_
    refine t_go (op := o_i2 56 (fun x y => x + y)) (fe_X12_pokes 55) (fun _ _ => rfl) ?_
    refine t_go (op := o_iload 57 2) (fe_X12_pokes 56) (fun _ _ => rfl) ?_
    refine t_go (op := o_i2 58 (fun x y => x + y)) (fe_X12_pokes 57) (fun _ _ => rfl) ?_
    refine t_go (op := o_iald 59) (fe_X12_pokes 58) (g_ialdN hS (show lay 197 = (20, 966) by decide) (nIa (nIa rfl (nIl 2)) rfl) (by omega) (by decide)) ?_
    rw [show (sI k 197 (b + 9 + e) (mn20 (F.2.1 e + 3))).1 197 (b + 2 + e) = nI c from ((hB1.1 e he).1).trans hce]
    refine t_call (op := o_callV 62 211 3 11) (fe_X12_pokes 59) (g_callV hS (show (lay 183).1 = 11 by decide) (by decide) rfl rfl rfl (Nat.le_of_ble_eq_true rfl)) ?_
    refine M_eq (r_falls0 hR1 hV1 hB1 hb h4) ?_
    refine t_ret (op := o_vret) (fe_X12_pokes 62) (fun _ _ => rfl) ?_
    refine ⟨rfl, hz1, ?_⟩
    rw [stoke_eq hV he hh hc hce, carry_neg (neg4 c h4)]
    exact hB1
  · refine t_go (op := o_ci 30 20) (fe_X12_pokes 28) (fun _ _ => rfl) ?_
    refine t_go (op := o_goto 46) (fe_X12_pokes 30) (fun _ _ => rfl) ?_
    refine t_go (op := o_iast 47) (fe_X12_pokes 46) (g_iastN hS (show lay 197 = (20, 966) by decide) (nIa (nIa rfl (nIl 9)) rfl) (by omega) (by decide)) ?_
    try dsimp only
    rw [show (20 : Int32) = mn20 (F.2.1 e + 3) from (Eq.symm (show (if F.2.1 e + 3 ≤ 20 then F.2.1 e + 3 else 20) = _ from if_neg c1)).trans (le20_mn _)]
    have hz1 : Zf (blk b) k (sI k 197 (b + 9 + e) (mn20 (F.2.1 e + 3))) := Zf_st Zf.rf (by constructor <;> omega)
    have hB1 := RB_heat (x := mn20 (F.2.1 e + 3)) hB he
    have hV1 := FV_stoke1 hV he hh
    have hR1 := hR.zf hz1
    replace hS := hR1.1
    refine t_go (op := o_aload 48 0) (fe_X12_pokes 47) (fun _ _ => rfl) ?_
    refine t_go (op := o_iload 49 1) (fe_X12_pokes 48) (fun _ _ => rfl) ?_
    refine t_go (op := o_aload 50 0) (fe_X12_pokes 49) (fun _ _ => rfl) ?_
    refine t_go (op := o_getR 53 11 22) (fe_X12_pokes 50) (g_getR hS (show (lay 183).1 = 11 by decide) (by decide) (fr_11_22 hS) (by decide)) ?_
    refine t_go (op := o_iload 54 1) (fe_X12_pokes 53) (fun _ _ => rfl) ?_
    refine t_go (op := o_ci 55 2) (fe_X12_pokes 54) (fun _ _ => rfl) ?_
    refine t_go (op := o_i2 56 (fun x y => x + y)) (fe_X12_pokes 55) (fun _ _ => rfl) ?_
    refine t_go (op := o_iload 57 2) (fe_X12_pokes 56) (fun _ _ => rfl) ?_
    refine t_go (op := o_i2 58 (fun x y => x + y)) (fe_X12_pokes 57) (fun _ _ => rfl) ?_
    refine t_go (op := o_iald 59) (fe_X12_pokes 58) (g_ialdN hS (show lay 197 = (20, 966) by decide) (nIa (nIa rfl (nIl 2)) rfl) (by omega) (by decide)) ?_
    rw [show (sI k 197 (b + 9 + e) (mn20 (F.2.1 e + 3))).1 197 (b + 2 + e) = nI c from ((hB1.1 e he).1).trans hce]
    refine t_call (op := o_callV 62 211 3 11) (fe_X12_pokes 59) (g_callV hS (show (lay 183).1 = 11 by decide) (by decide) rfl rfl rfl (Nat.le_of_ble_eq_true rfl)) ?_
    refine M_eq (r_falls0 hR1 hV1 hB1 hb h4) ?_
    refine t_ret (op := o_vret) (fe_X12_pokes 62) (fun _ _ => rfl) ?_
    refine ⟨rfl, hz1, ?_⟩
    rw [stoke_eq hV he hh hc hce, carry_neg (neg4 c h4)]
    exact hB1
theorem r_pokes {d : Nat} {k : AHP} {m n b : Nat} {F : FS} {K st : Nat → Int32} {C : Int32} (hR : RH k m K C st n) (hV : FV m F) (hB : RB (k.1 197) b F) (hb : b + 23 ≤ 966) {e : Nat} (he : e < 7) (hh : hasF F (nI e)) : MM (d + 3) 217 [.ref 183, .int (nI b), .int (nI e)] k (fun v h2 => v = none ∧ Zf (blk b) k h2 ∧ RB (h2.1 197) b (stokeF F (nI e))) := by
  obtain ⟨_, c, _, _, hc, _, _, _, hce, _⟩ := FV_in hV he hh
  rcases Nat.lt_or_ge c 4 with h4 | h4
  · exact r_pokesB hR hV hB hb he hh hc hce h4
  · exact r_pokesA hR hV hB hb he hh hc hce h4
theorem r_feeds {d : Nat} {k : AHP} {m n b : Nat} {F : FS} {K st : Nat → Int32} {C : Int32} (hR : RH k m K C st n) (hV : FV m F) (hB : RB (k.1 197) b F) (hb : b + 23 ≤ 966) {e : Nat} {x : Int32} (he : e < 7) (hh : hasF F (nI e)) : MM d 218 [.ref 183, .int (nI b), .int (nI e), .int x] k (fun v h2 => v = none ∧ Zf (blk b) k h2 ∧ RB (h2.1 197) b (addFuelF F (nI e) x)) := by
  refine ⟨Nat.le_of_ble_eq_true rfl, ?_⟩
  have hS := hR.1
  refine t_go (op := o_aload 1 0) (fe_X12_feeds 0) (fun _ _ => rfl) ?_
  refine t_go (op := o_getR 4 11 22) (fe_X12_feeds 1) (g_getR hS (show (lay 183).1 = 11 by decide) (by decide) (fr_11_22 hS) (by decide)) ?_
  refine t_go (op := o_iload 5 1) (fe_X12_feeds 4) (fun _ _ => rfl) ?_
  refine t_go (op := o_ci 7 16) (fe_X12_feeds 5) (fun _ _ => rfl) ?_
  refine t_go (op := o_i2 8 (fun x y => x + y)) (fe_X12_feeds 7) (fun _ _ => rfl) ?_
  refine t_go (op := o_iload 9 2) (fe_X12_feeds 8) (fun _ _ => rfl) ?_
  refine t_go (op := o_i2 10 (fun x y => x + y)) (fe_X12_feeds 9) (fun _ _ => rfl) ?_
  refine t_go (op := o_aload 11 0) (fe_X12_feeds 10) (fun _ _ => rfl) ?_
  refine t_go (op := o_getR 14 11 22) (fe_X12_feeds 11) (g_getR hS (show (lay 183).1 = 11 by decide) (by decide) (fr_11_22 hS) (by decide)) ?_
  refine t_go (op := o_iload 15 1) (fe_X12_feeds 14) (fun _ _ => rfl) ?_
  refine t_go (op := o_ci 17 16) (fe_X12_feeds 15) (fun _ _ => rfl) ?_
  refine t_go (op := o_i2 18 (fun x y => x + y)) (fe_X12_feeds 17) (fun _ _ => rfl) ?_
  refine t_go (op := o_iload 19 2) (fe_X12_feeds 18) (fun _ _ => rfl) ?_
  refine t_go (op := o_i2 20 (fun x y => x + y)) (fe_X12_feeds 19) (fun _ _ => rfl) ?_
  refine t_go (op := o_iald 21) (fe_X12_feeds 20) (g_ialdN hS (show lay 197 = (20, 966) by decide) (nIa (nIa rfl (nIl 16)) rfl) (by omega) (by decide)) ?_
  rw [(hB.1 e he).2.2]
  refine t_go (op := o_iload 22 3) (fe_X12_feeds 21) (fun _ _ => rfl) ?_
  refine t_go (op := o_i2 23 (fun x y => x + y)) (fe_X12_feeds 22) (fun _ _ => rfl) ?_
  refine t_go (op := o_ci 25 20) (fe_X12_feeds 23) (fun _ _ => rfl) ?_
  refine t_ite (op := o_icmp 28 33 (fun x y => x ≤ y) (fun _ _ => inferInstance)) (fe_X12_feeds 25) g_icmp (fun c1 => ?_) (fun c1 => ?_)
  · refine t_go (op := o_aload 34 0) (fe_X12_feeds 33) (fun _ _ => rfl) ?_
    refine t_go (op := o_getR 37 11 22) (fe_X12_feeds 34) (g_getR hS (show (lay 183).1 = 11 by decide) (by decide) (fr_11_22 hS) (by decide)) ?_
    refine t_go (op := o_iload 38 1) (fe_X12_feeds 37) (fun _ _ => rfl) ?_
    refine t_go (op := o_ci 40 16) (fe_X12_feeds 38) (fun _ _ => rfl) ?_
    refine t_go (op := o_i2 41 (fun x y => x + y)) (fe_X12_feeds 40) (fun _ _ => rfl) ?_
    refine t_go (op := o_iload 42 2) (fe_X12_feeds 41) (fun _ _ => rfl) ?_
    refine t_go (op := o_i2 43 (fun x y => x + y)) (fe_X12_feeds 42) (fun _ _ => rfl) ?_
    refine t_go (op := o_iald 44) (fe_X12_feeds 43) (g_ialdN hS (show lay 197 = (20, 966) by decide) (nIa (nIa rfl (nIl 16)) rfl) (by omega) (by decide)) ?_
    rw [(hB.1 e he).2.2]
    refine t_go (op := o_iload 45 3) (fe_X12_feeds 44) (fun _ _ => rfl) ?_
    refine t_go (op := o_i2 46 (fun x y => x + y)) (fe_X12_feeds 45) (fun _ _ => rfl) ?_
    refine t_go (op := o_iast 47) (fe_X12_feeds 46) (g_iastN hS (show lay 197 = (20, 966) by decide) (nIa (nIa rfl (nIl 16)) rfl) (by omega) (by decide)) ?_
    try dsimp only
    rw [show F.2.2.1 e + x = mn20 (F.2.2.1 e + x) from (Eq.symm (show (if F.2.2.1 e + x ≤ 20 then F.2.2.1 e + x else 20) = _ from if_pos c1)).trans (le20_mn _)]
    refine t_ret (op := o_vret) (fe_X12_feeds 47) (fun _ _ => rfl) ?_
    refine ⟨rfl, Zf_st Zf.rf (by constructor <;> omega), ?_⟩
    rw [addFuelF, if_pos hh, nI_clamp (by omega)]
    exact RB_fuel hB he
  · refine t_go (op := o_ci 30 20) (fe_X12_feeds 28) (fun _ _ => rfl) ?_
    refine t_go (op := o_goto 46) (fe_X12_feeds 30) (fun _ _ => rfl) ?_
    refine t_go (op := o_iast 47) (fe_X12_feeds 46) (g_iastN hS (show lay 197 = (20, 966) by decide) (nIa (nIa rfl (nIl 16)) rfl) (by omega) (by decide)) ?_
    try dsimp only
    rw [show (20 : Int32) = mn20 (F.2.2.1 e + x) from (Eq.symm (show (if F.2.2.1 e + x ≤ 20 then F.2.2.1 e + x else 20) = _ from if_neg c1)).trans (le20_mn _)]
    refine t_ret (op := o_vret) (fe_X12_feeds 47) (fun _ _ => rfl) ?_
    refine ⟨rfl, Zf_st Zf.rf (by constructor <;> omega), ?_⟩
    rw [addFuelF, if_pos hh, nI_clamp (by omega)]
    exact RB_fuel hB he
