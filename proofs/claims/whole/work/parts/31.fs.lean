/-! ===== a fire as a value ===== -/
abbrev FS : Type := (Nat → Int32) × (Nat → Int32) × (Nat → Int32) × (Nat → Int32) × Int32 × Int32
def fs (h : AHP) (f : Nat) : FS := (h.1 (f + 1), h.1 (f + 2), h.1 (f + 3), h.1 (f + 4), h.1 f 4, h.1 f 5)
def setF (h : AHP) (f : Nat) (F : FS) : AHP := (fun a i => if a = f + 1 then F.1 i else if a = f + 2 then F.2.1 i else if a = f + 3 then F.2.2.1 i else if a = f + 4 then F.2.2.2.1 i else if a = f ∧ i = 4 then F.2.2.2.2.1 else if a = f ∧ i = 5 then F.2.2.2.2.2 else h.1 a i, h.2)
def fup (g : Nat → Int32) (i : Nat) (v : Int32) : Nat → Int32 := fun j => if j = i then v else g j
theorem fs_setF {h : AHP} {f : Nat} {F : FS} : fs (setF h f F) f = F := by
  obtain ⟨a, b, c, d, e, g⟩ := F
  simp [fs, setF]
theorem AHP_ext {h g : AHP} (h1 : ∀ a i, h.1 a i = g.1 a i) (h2 : h.2 = g.2) : h = g := Prod.ext (funext fun a => funext fun i => h1 a i) h2
theorem setF_fs {h : AHP} {f : Nat} : setF h f (fs h f) = h := by
  refine AHP_ext (fun a i => ?_) rfl
  simp only [setF, fs]
  split
  · rename_i e; rw [e]
  split
  · rename_i e; rw [e]
  split
  · rename_i e; rw [e]
  split
  · rename_i e; rw [e]
  split
  · rename_i e; rw [e.1, e.2]
  split
  · rename_i e; rw [e.1, e.2]
  rfl
theorem setF_setF {h : AHP} {f : Nat} {F G : FS} : setF (setF h f F) f G = setF h f G := by
  refine AHP_ext (fun a i => ?_) rfl
  simp only [setF]
  repeat' split
  all_goals first | rfl | simp_all
theorem setF_1 {h : AHP} {f i : Nat} {v : Int32} {F : FS} : sI (setF h f F) (f + 1) i v = setF h f (fup F.1 i v, F.2) := by
  refine AHP_ext (fun a j => ?_) rfl
  simp only [sI, up2, setF, fup]
  by_cases e : a = f + 1
  · simp [e]
  · simp [e]
theorem setF_2 {h : AHP} {f i : Nat} {v : Int32} {F : FS} : sI (setF h f F) (f + 2) i v = setF h f (F.1, fup F.2.1 i v, F.2.2) := by
  refine AHP_ext (fun a j => ?_) rfl
  simp only [sI, up2, setF, fup]
  by_cases e : a = f + 2
  · simp [e]
  · simp [e]
theorem setF_3 {h : AHP} {f i : Nat} {v : Int32} {F : FS} : sI (setF h f F) (f + 3) i v = setF h f (F.1, F.2.1, fup F.2.2.1 i v, F.2.2.2) := by
  refine AHP_ext (fun a j => ?_) rfl
  simp only [sI, up2, setF, fup]
  by_cases e : a = f + 3
  · simp [e]
  · simp [e]
theorem setF_4 {h : AHP} {f i : Nat} {v : Int32} {F : FS} : sI (setF h f F) (f + 4) i v = setF h f (F.1, F.2.1, F.2.2.1, fup F.2.2.2.1 i v, F.2.2.2.2) := by
  refine AHP_ext (fun a j => ?_) rfl
  simp only [sI, up2, setF, fup]
  by_cases e : a = f + 4
  · simp [e]
  · simp [e]
theorem setF_h {h : AHP} {f : Nat} {v : Int32} {F : FS} : sI (setF h f F) f 4 v = setF h f (F.1, F.2.1, F.2.2.1, F.2.2.2.1, v, F.2.2.2.2.2) := by
  refine AHP_ext (fun a j => ?_) rfl
  simp only [sI, up2, setF]
  by_cases e : a = f
  · by_cases e2 : j = 4
    · simp [e, e2]
    · simp [e, e2]
  · simp [e]
theorem setF_b {h : AHP} {f : Nat} {v : Int32} {F : FS} : sI (setF h f F) f 5 v = setF h f (F.1, F.2.1, F.2.2.1, F.2.2.2.1, F.2.2.2.2.1, v) := by
  refine AHP_ext (fun a j => ?_) rfl
  simp only [sI, up2, setF]
  by_cases e : a = f
  · by_cases e2 : j = 5
    · simp [e, e2]
    · by_cases e3 : j = 4
      · simp [e, e3]
      · simp [e, e2, e3]
  · simp [e]
theorem Std_setF {h : AHP} {f : Nat} {F : FS} : Std (setF h f F) = Std h := rfl
theorem setF_at {h : AHP} {f a i : Nat} {F : FS} (hd : a < f ∨ f + 5 ≤ a) : (setF h f F).1 a i = h.1 a i := by
  simp only [setF]
  rw [if_neg (by omega), if_neg (by omega), if_neg (by omega), if_neg (by omega), if_neg (by omega), if_neg (by omega)]
theorem setF_row {h : AHP} {f a : Nat} {F : FS} (hd : a < f ∨ f + 5 ≤ a) : (setF h f F).1 a = h.1 a := funext fun _ => setF_at hd
theorem fs_ne {h : AHP} {f g : Nat} {F : FS} (hd : g + 5 ≤ f ∨ f + 5 ≤ g) : fs (setF h f F) g = fs h g := by
  unfold fs
  rw [setF_row (a := g + 1) (by omega), setF_row (a := g + 2) (by omega), setF_row (a := g + 3) (by omega), setF_row (a := g + 4) (by omega), setF_row (a := g) (by omega)]
/-- steps one behind another, from i on -/
def it {α : Type} (g : Nat → α → α) : Nat → Nat → α → α
  | 0, _, s => s
  | j + 1, i, s => it g j (i + 1) (g i s)
/-- what methods do to a fire -/
def hasF (F : FS) (e : Int32) : Prop := ¬ e < 0 ∧ ¬ 7 ≤ e ∧ ¬ F.1 e.toNatClampNeg < 0 ∧ ¬ 12 ≤ F.1 e.toNatClampNeg
def freeF (F : FS) (c : Int32) : Prop := ¬ c < 0 ∧ ¬ 12 ≤ c ∧ F.2.2.2.1 c.toNatClampNeg = -1
noncomputable def takeOutF (F : FS) (e : Int32) : FS := @ite _ (hasF F e) (Classical.propDecidable _) (fup F.1 e.toNatClampNeg (-1), fup F.2.1 e.toNatClampNeg 0, fup F.2.2.1 e.toNatClampNeg 0, fup F.2.2.2.1 (F.1 e.toNatClampNeg).toNatClampNeg (-1), F.2.2.2.2) F
noncomputable def carryF (F : FS) (e c : Int32) : FS := @ite _ (hasF F e ∧ freeF F c) (Classical.propDecidable _) (fup F.1 e.toNatClampNeg c, F.2.1, F.2.2.1, fup (fup F.2.2.2.1 (F.1 e.toNatClampNeg).toNatClampNeg (-1)) c.toNatClampNeg e, F.2.2.2.2) F
noncomputable def stokeF (F : FS) (e : Int32) : FS := @ite _ (hasF F e) (Classical.propDecidable _) (carryF (F.1, fup F.2.1 e.toNatClampNeg (mn20 (F.2.1 e.toNatClampNeg + 3)), F.2.2) e (F.1 e.toNatClampNeg - 4)) F
noncomputable def addFuelF (F : FS) (e x : Int32) : FS := @ite _ (hasF F e) (Classical.propDecidable _) (F.1, F.2.1, fup F.2.2.1 e.toNatClampNeg (mn20 (F.2.2.1 e.toNatClampNeg + x)), F.2.2.2) F
theorem rd_1 {h : AHP} {f : Nat} {F : FS} : (setF h f F).1 (f + 1) = F.1 := by funext i; simp [setF]
theorem rd_2 {h : AHP} {f : Nat} {F : FS} : (setF h f F).1 (f + 2) = F.2.1 := by funext i; simp [setF]
theorem rd_3 {h : AHP} {f : Nat} {F : FS} : (setF h f F).1 (f + 3) = F.2.2.1 := by funext i; simp [setF]
theorem rd_4 {h : AHP} {f : Nat} {F : FS} : (setF h f F).1 (f + 4) = F.2.2.2.1 := by funext i; simp [setF]
theorem rd_h {h : AHP} {f : Nat} {F : FS} : (setF h f F).1 f 4 = F.2.2.2.2.1 := by simp [setF]
theorem rd_b {h : AHP} {f : Nat} {F : FS} : (setF h f F).1 f 5 = F.2.2.2.2.2 := by simp [setF]
theorem hasP_F {h : AHP} {f : Nat} {F : FS} {e : Int32} : hasP (setF h f F) f e = hasF F e := by unfold hasP hasF; rw [rd_1]
theorem freeP_F {h : AHP} {f : Nat} {F : FS} {c : Int32} : freeP (setF h f F) f c = freeF F c := by unfold freeP freeF; rw [rd_4]
theorem takeOut_F {h : AHP} {f : Nat} {F : FS} {e : Int32} : takeOutH (setF h f F) f e = setF h f (takeOutF F e) := by
  unfold takeOutH takeOutF
  rw [hasP_F]
  by_cases hp : hasF F e
  · rw [if_pos hp, if_pos hp, rd_1, setF_4, setF_1, setF_2, setF_3]
  · rw [if_neg hp, if_neg hp]
theorem carry_F {h : AHP} {f : Nat} {F : FS} {e c : Int32} : carryH (setF h f F) f e c = setF h f (carryF F e c) := by
  unfold carryH carryF
  rw [hasP_F, freeP_F]
  by_cases hp : hasF F e ∧ freeF F c
  · rw [if_pos hp, if_pos hp, rd_1, setF_4, setF_1, setF_4]
  · rw [if_neg hp, if_neg hp]
theorem stoke_F {h : AHP} {f : Nat} {F : FS} {e : Int32} : stokeH (setF h f F) f e = setF h f (stokeF F e) := by
  unfold stokeH stokeF
  rw [hasP_F]
  by_cases hp : hasF F e
  · rw [if_pos hp, if_pos hp, rd_1, rd_2, setF_2, carry_F]
  · rw [if_neg hp, if_neg hp]
theorem addFuel_F {h : AHP} {f : Nat} {F : FS} {e x : Int32} : addFuelH (setF h f F) f e x = setF h f (addFuelF F e x) := by
  unfold addFuelH addFuelF
  rw [hasP_F]
  by_cases hp : hasF F e
  · rw [if_pos hp, if_pos hp, rd_3, setF_3]
  · rw [if_neg hp, if_neg hp]
section FM
variable {d : Nat} {h : AHP} {f : Nat} {F : FS} {e c x : Int32}
theorem n_has (hS : Std h) (hf : (lay f).1 = 1) : MM d 8 [.ref f, .int e] (setF h f F) (fun v h2 => v = some (.int (b2i (hasF F e))) ∧ h2 = setF h f F) := by
  have q := m_X1_has (d := d) (h := setF h f F) (f := f) (e := e) hS hf
  rw [hasP_F] at q
  exact q
theorem n_isFree (hS : Std h) (hf : (lay f).1 = 1) : MM d 9 [.ref f, .int c] (setF h f F) (fun v h2 => v = some (.int (b2i (freeF F c))) ∧ h2 = setF h f F) := by
  have q := m_X1_isFree (d := d) (h := setF h f F) (f := f) (c := c) hS hf
  rw [freeP_F] at q
  exact q
theorem n_takeOut (hS : Std h) (hf : (lay f).1 = 1) : MM (d + 1) 11 [.ref f, .int e] (setF h f F) (fun v h2 => v = none ∧ h2 = setF h f (takeOutF F e)) := by
  have q := m_X1_takeOut (d := d) (h := setF h f F) (f := f) (e := e) hS hf
  rw [takeOut_F] at q
  exact q
theorem n_carry (hS : Std h) (hf : (lay f).1 = 1) : MM (d + 1) 14 [.ref f, .int e, .int c] (setF h f F) (fun v h2 => v = none ∧ h2 = setF h f (carryF F e c)) := by
  have q := m_X1_carry (d := d) (h := setF h f F) (f := f) (e := e) (c := c) hS hf
  rw [carry_F] at q
  exact q
theorem n_stoke (hS : Std h) (hf : (lay f).1 = 1) : MM (d + 2) 15 [.ref f, .int e] (setF h f F) (fun v h2 => v = none ∧ h2 = setF h f (stokeF F e)) := by
  have q := m_X1_stoke (d := d) (h := setF h f F) (f := f) (e := e) hS hf
  rw [stoke_F] at q
  exact q
theorem n_addFuel (hS : Std h) (hf : (lay f).1 = 1) : MM (d + 1) 16 [.ref f, .int e, .int x] (setF h f F) (fun v h2 => v = none ∧ h2 = setF h f (addFuelF F e x)) := by
  have q := m_X1_addFuel (d := d) (h := setF h f F) (f := f) (e := e) (x := x) hS hf
  rw [addFuel_F] at q
  exact q
end FM
