/-! ===== what foresight may change ===== -/
abbrev scrX (a : Nat) : Prop := (136 ≤ a ∧ a ≤ 141) ∨ (143 ≤ a ∧ a ≤ 148) ∨ a = 159 ∨ a = 160 ∨ a = 172 ∨ a = 173
def X (h k : AHP) : Prop := k.2.2 = h.2.2 ∧ (∀ a, a ≠ 135 → k.2.1 a = h.2.1 a) ∧ ∀ a, ¬ scrX a → k.1 a = h.1 a
theorem X.rf {h : AHP} : X h h := ⟨rfl, fun _ _ => rfl, fun _ _ => rfl⟩
theorem X.tr {h k m : AHP} (h1 : X h k) (h2 : X k m) : X h m := ⟨h2.1.trans h1.1, fun a ha => (h2.2.1 a ha).trans (h1.2.1 a ha), fun a ha => (h2.2.2 a ha).trans (h1.2.2 a ha)⟩
theorem X.std {h k : AHP} (h1 : X h k) (hS : Std h) : Std k := by
  unfold Std
  rw [h1.1]
  exact hS
theorem X_fs {h k : AHP} {f : Nat} (h1 : X h k) (hf : f + 5 ≤ 136 ∨ (141 ≤ f ∧ f + 5 ≤ 143) ∨ (148 < f ∧ f + 5 ≤ 159) ∨ (160 < f ∧ f + 5 ≤ 172) ∨ 173 < f) : fs k f = fs h f := by
  unfold fs
  rw [h1.2.2 (f + 1) (by omega), h1.2.2 (f + 2) (by omega), h1.2.2 (f + 3) (by omega), h1.2.2 (f + 4) (by omega), h1.2.2 f (by omega)]
theorem X_lawV {h k : AHP} {g n : Nat} (hg : (lay g).1 = 3) (h1 : X h k) : lawV k g n = lawV h g n := by
  funext a b c e
  unfold lawV
  rw [h1.2.2 (g + 9) (by have := grate_scr hg; omega)]
theorem X_LawOK {h k : AHP} {g n : Nat} (hg : (lay g).1 = 3) (h1 : X h k) (hL : LawOK h g n) : LawOK k g n := by
  unfold LawOK
  rw [h1.2.2 (g + 8) (by have := grate_scr hg; omega), h1.2.2 (g + 9) (by have := grate_scr hg; omega)]
  exact hL
theorem X_drV {h k : AHP} {g : Nat} {t : Int32} (hg : (lay g).1 = 3) (h1 : X h k) : drV k g t = drV h g t := by
  unfold drV
  rw [h1.2.2 g (by have := grate_scr hg; omega), h1.2.2 (g + 12) (by have := grate_scr hg; omega)]
theorem X_airV {h k : AHP} {g : Nat} {b : Int32} {F : FS} (hg : (lay g).1 = 3) (h1 : X h k) : airV k g b F = airV h g b F := by
  unfold airV
  rw [X_drV hg h1]
theorem X_setF {h k : AHP} {f : Nat} {F : FS} (h1 : X h k) (hf : f = 136 ∨ f = 143) : X h (setF k f F) := ⟨h1.1, h1.2.1, fun a ha => by rw [setF_row (by omega)]; exact h1.2.2 a ha⟩
theorem X_sc {h k m : AHP} (h1 : X h k) (h2 : Sc k m) : X h m := ⟨by rw [h2.1]; exact h1.1, fun a ha => by rw [h2.1]; exact h1.2.1 a ha, fun a ha => by rw [h2.2 a (by omega)]; exact h1.2.2 a ha⟩
theorem X_sI {h k : AHP} {a i : Nat} {v : Int32} (h1 : X h k) (ha : scrX a) : X h (sI k a i v) := ⟨h1.1, h1.2.1, fun b hb => by rw [show (sI k a i v).1 b = k.1 b from up2_ne (fun e => hb (e ▸ ha))]; exact h1.2.2 b hb⟩
theorem X_sJ {h k : AHP} {i : Nat} {v : Int64} (h1 : X h k) : X h (sJ k 135 i v) := ⟨h1.1, fun a ha => by rw [show (sJ k 135 i v).2.1 a = k.2.1 a from up2_ne ha]; exact h1.2.1 a ha, h1.2.2⟩
/-- one hour of a fire, by a grate, the draught as told or kept off -/
noncomputable def HB (h : AHP) (g n : Nat) (b : Int32) (F : FS) : FS × Int32 := passF (lawV h g n) (h.1 (g + 2)) (h.1 g 5) (airV h g b F) F
noncomputable def HF (h : AHP) (g n : Nat) (F : FS) : FS := (HB h g n 1 F).1
/-- rows that an hour of the trial f leaves -/
def Keeps (h k : AHP) : Prop := k.1 141 = h.1 141 ∧ k.1 148 = h.1 148 ∧ k.2 = h.2
section AM2
variable {d : Nat} {h k : AHP} {f g n : Nat} {F : FS} {b e c x : Int32}
theorem a_pass (hS : Std h) (hg : (lay g).1 = 3) (hL : LawOK h g n) (hX : X h k) (hf : f = 136 ∨ f = 143) (hF : fs k f = F) : MM (d + 4) 17 [.ref f, .ref g, .int b] k (fun v h2 => v = some (.int (HB h g n b F).2) ∧ X h h2 ∧ fs h2 f = (HB h g n b F).1 ∧ Keeps k h2) := by
  have hl : (lay f).1 = 1 := by rcases hf with rfl | rfl <;> rfl
  have q := m_pass (d := d) (h := k) (f := f) (F := fs k f) (b := b) (hX.std hS) hl hg (X_LawOK hg hX hL)
  rw [setF_fs] at q
  refine M_mono ?_ q
  rintro v h2 ⟨q1, m, hm, q2⟩
  rw [X_lawV hg hX, X_airV hg hX, hX.2.2 (g + 2) (by have := grate_scr hg; omega), hX.2.2 g (by have := grate_scr hg; omega), hF] at q1 q2
  refine ⟨q1, ?_, ?_, ?_⟩
  · rw [q2]; exact X_setF (X_sc hX hm) hf
  · rw [q2, fs_setF]; rfl
  · rw [q2]; exact ⟨by rw [setF_row (by omega), hm.2 141 (by omega)], by rw [setF_row (by omega), hm.2 148 (by omega)], hm.1⟩
theorem a_litBits (hS : Std h) (hg : (lay g).1 = 3) (hX : X h k) (hf : (lay f).1 = 1) (hF : fs k f = F) : MM (d + 1) 18 [.ref f, .ref g] k (fun v h2 => v = some (.int (litB F (h.1 (g + 2)) (h.1 g 5))) ∧ h2 = k) := by
  have q := m_litBits (d := d) (h := k) (f := f) (F := fs k f) (hX.std hS) hf hg
  rw [setF_fs, hX.2.2 (g + 2) (by have := grate_scr hg; omega), hX.2.2 g (by have := grate_scr hg; omega), hF] at q
  exact q
theorem a_heatOfAll (hS : Std k) (hf : (lay f).1 = 1) (hF : fs k f = F) : MM d 21 [.ref f] k (fun v h2 => v = some (.int (it (sumS F.2.1) 7 0 0)) ∧ h2 = k) := by
  have q := m_heatOfAll (d := d) (h := k) (f := f) (F := fs k f) hS hf
  rw [setF_fs, hF] at q
  exact q
/-- rows are 0 beyond their lengths -/
def NF (F : FS) : Prop := (∀ i, 7 ≤ i → F.1 i = 0 ∧ F.2.1 i = 0 ∧ F.2.2.1 i = 0) ∧ ∀ i, 12 ≤ i → F.2.2.2.1 i = 0
theorem bec_eq {F G : FS} (h1 : NF F) (h2 : NF G) : becF F G = G := by
  obtain ⟨a, b, c, d, e⟩ := G
  unfold becF
  have q1 : va_cpy a F.1 0 0 7 = a := by
    funext i
    unfold va_cpy
    by_cases hi : i < 7
    · simp [hi]
    · simp [hi, (h1.1 i (by omega)).1, (h2.1 i (by omega)).1.symm]
  have q2 : va_cpy b F.2.1 0 0 7 = b := by
    funext i
    unfold va_cpy
    by_cases hi : i < 7
    · simp [hi]
    · simp [hi, (h1.1 i (by omega)).2.1, (h2.1 i (by omega)).2.1.symm]
  have q3 : va_cpy c F.2.2.1 0 0 7 = c := by
    funext i
    unfold va_cpy
    by_cases hi : i < 7
    · simp [hi]
    · simp [hi, (h1.1 i (by omega)).2.2, (h2.1 i (by omega)).2.2.symm]
  have q4 : va_cpy d F.2.2.2.1 0 0 12 = d := by
    funext i
    unfold va_cpy
    by_cases hi : i < 12
    · simp [hi]
    · simp [hi, h1.2 i (by omega), (h2.2 i (by omega)).symm]
  simp only [q1, q2, q3, q4]
theorem a_become {c0 : Nat} (hS : Std h) (hX : X h k) (hf : f = 136 ∨ f = 143) (hc : (lay c0).1 = 1) (hd : c0 + 5 ≤ 136 ∨ (148 < c0 ∧ c0 + 5 ≤ 159) ∨ (160 < c0 ∧ c0 + 5 ≤ 172) ∨ 173 < c0) (hz : h.1 c0 5 = 0 ∨ h.1 c0 5 = 1) (hN : NF (fs k f)) (hN2 : NF (fs h c0)) : MM d 7 [.ref f, .ref c0] k (fun v h2 => v = none ∧ X h h2 ∧ fs h2 f = fs h c0 ∧ Keeps k h2) := by
  have hl : (lay f).1 = 1 := by rcases hf with rfl | rfl <;> rfl
  have q := m_become (d := d) (h := k) (f := f) (f2 := c0) (F := fs k f) (hX.std hS) hl hc (by omega) (by rw [hX.2.2 c0 (by omega)]; exact hz)
  rw [setF_fs, X_fs (f := c0) hX (by omega), bec_eq hN hN2] at q
  refine M_mono ?_ q
  rintro v h2 ⟨q1, q2⟩
  refine ⟨q1, ?_, ?_, ?_⟩
  · rw [q2]; exact X_setF hX hf
  · rw [q2, fs_setF]
  · rw [q2]; exact ⟨setF_row (by omega), setF_row (by omega), rfl⟩
end AM2
