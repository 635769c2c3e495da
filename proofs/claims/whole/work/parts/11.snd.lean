/-! ===== locals ===== -/
theorem lg_lset_self : ∀ (ls : ALS) (i : Nat) (v : Option Value), i < ls.length → lg (lset ls i v) i = v
  | [], _, _, h => absurd h (Nat.not_lt_zero _)
  | _ :: _, 0, _, _ => rfl
  | _ :: l, i + 1, v, h => lg_lset_self l i v (Nat.lt_of_succ_lt_succ h)
theorem lg_lset_ne : ∀ (ls : ALS) (i j : Nat) (v : Option Value), j ≠ i → lg (lset ls i v) j = lg ls j
  | [], _, _, _, _ => rfl
  | _ :: _, 0, 0, _, h => absurd rfl h
  | _ :: _, 0, _ + 1, _, _ => rfl
  | _ :: _, _ + 1, 0, _, _ => rfl
  | _ :: l, i + 1, j + 1, v, h => lg_lset_ne l i j v (fun e => h (congrArg (· + 1) e))
theorem lset_length : ∀ (ls : ALS) (i : Nat) (v : Option Value), (lset ls i v).length = ls.length
  | [], _, _ => rfl
  | _ :: _, 0, _ => rfl
  | _ :: l, i + 1, v => congrArg (· + 1) (lset_length l i v)
theorem cut1_length : ∀ (ls : ALS) (i : Nat), (cut1 ls i).length = ls.length
  | [], _ => rfl
  | _ :: _, 0 => rfl
  | _ :: _, 1 => rfl
  | _ :: l, i + 2 => congrArg (· + 1) (cut1_length l (i + 1))
theorem lg_cut1 : ∀ (ls : ALS) (i j : Nat) (v : Value), lg (cut1 ls i) j = some v → lg ls j = some v ∧ ¬ (j + 1 = i ∧ v.category = 2)
  | [], _, _, _, h => by simp [lg, cut1] at h
  | a :: l, 0, j, v, h => ⟨h, fun q => by omega⟩
  | a :: l, 1, 0, v, h => by
    have h1 : (if isL a then none else a) = some v := h
    by_cases ha : isL a = true
    · rw [if_pos ha] at h1; cases h1
    · rw [if_neg ha] at h1
      refine ⟨h1, fun q => ha ?_⟩
      rw [h1]
      simp [isL, q.2]
  | a :: l, 1, j + 1, v, h => ⟨h, fun q => by omega⟩
  | a :: l, i + 2, 0, v, h => ⟨h, fun q => by omega⟩
  | a :: l, i + 2, j + 1, v, h => by
    have h1 := lg_cut1 l (i + 1) j v h
    exact ⟨h1.1, fun q => h1.2 ⟨by omega, q.2⟩⟩
theorem lg_lt : ∀ (ls : ALS) (i : Nat) (v : Value), lg ls i = some v → i < ls.length
  | [], _, _, h => by simp [lg] at h
  | _ :: _, 0, _, _ => Nat.succ_pos _
  | _ :: l, i + 1, v, h => Nat.succ_lt_succ (lg_lt l i v h)
/-! ===== worlds ===== -/
abbrev WD : Type := Nat × (Nat → Nat) × (Nat → ClassId) × (Nat → Nat → Nat) × (Nat → ClassId) × Heap
def sg (w : WD) (a : Nat) : Nat := if a < 100000 then w.1 + (a - 1) else w.2.1 a
def vv (w : WD) (v : Value) : Value := match v with | .ref a => .ref (sg w a) | v => v
theorem vv_cat (w : WD) (v : Value) : (vv w v).category = v.category := by cases v <;> rfl
def rfo (w : WD) (x : Nat) : Option Nat := if x = 0 then none else some (sg w x)
def fk (c k : Nat) : Nat := (fks.getD c []).getD k 0
def fv (w : WD) (h : AHP) (a c k : Nat) : Value := if fk c k = 1 then .long (h.2.1 a k) else if fk c k = 2 then va_rf (rfo w (h.2.2.1 a k)) else .int (h.1 a k)
def en (w : WD) (h : AHP) (a : Nat) : va_E :=
  if (lay a).1 < 12 then .inr ((lay a).1, (List.range (lay a).2).map (fv w h a (lay a).1))
  else if (lay a).1 = 21 then .inl (w.2.2.2.2.1 21, (lay a).2, .inr (.inl (h.2.1 a)))
  else if (lay a).1 = 20 ∨ (lay a).1 = 22 then .inl (w.2.2.2.2.1 (lay a).1, (lay a).2, .inl (h.1 a))
  else .inl (w.2.2.2.2.1 (lay a).1, (lay a).2, .inr (.inr (.inr (.inr (fun j => rfo w (h.2.2.1 a j))))))
def wsW (w : WD) (h : AHP) : va_W := (List.range (min h.2.2.2 NT)).map (fun j => (w.1 + j, en w h (j + 1)))
def wA (w : WD) : Nat → Prop := fun q => w.1 ≤ q
def tysW (w : WD) : List (ClassId × FieldType) := [(w.2.2.2.2.1 20, .int), (w.2.2.2.2.1 21, .long), (w.2.2.2.2.1 22, .boolean), (w.2.2.2.2.1 23, .object RX1), (w.2.2.2.2.1 24, .object RX10)]
def wD (w : WD) : va_G := (w.2.2.1, w.2.2.2.1)
/-- the script, as the heap's functions tell it -/
def Scr (w : WD) (h : AHP) : Prop := ∃ scr : Cell, w.2.2.2.2.2[sg w 300000]? = some scr ∧ scr.vm ≠ .unknown ∧ scr.slots.size = h.2.2.1 300000 0 ∧ ∀ j : Nat, j < h.2.2.1 300000 0 → scr.slots[j]? = some (.int (h.1 300000 j))
def Hold (w : WD) (h : AHP) (H : Heap) : Prop := w.1 + h.2.2.2 ≤ H.size ∧ va_P (wD w) vwCl (wsW w h) H ∧ (∀ q : Nat, q < w.1 → H[q]? = w.2.2.2.2.2[q]?) ∧ h.2.2.2 < 90000 ∧ Scr w h
/-- what a throw asks for: the statics of Throwable, words that are not kept by themselves -/
def XN : String := "java/util/NoSuchElementException"
def thW : List Cond := [.castable XN XN, .declares ⟨"java/lang/RuntimeException", "<init>", "()V"⟩, .declares ⟨"java/lang/Exception", "<init>", "()V"⟩, .declares ⟨"java/lang/Throwable", "<init>", "()V"⟩]
def ThF (w : WD) (U : State) : Prop := vx_Zq Jvm.Bundle.tN "UNASSIGNED_STACK" Jvm.Bundle.steD (wA w) U w.2.2.2.2.2 ∧ vx_Zq Jvm.Bundle.tN "SUPPRESSED_SENTINEL" Jvm.Bundle.listD (wA w) U w.2.2.2.2.2 ∧ ∀ x ∈ thW, ∀ a : Array Value, x.before a U = true
theorem thW_moved {u U : State} (hv : u.vm.Alike U.vm) {x : Cond} (hx : x ∈ thW) {a a' : Array Value} (h : x.before a u = true) : x.before a' U = true := by
  have h1 : x.onTables = true := List.all_eq_true.mp (show thW.all (fun x => x.onTables) = true by decide +kernel) x hx
  have h2 : x.faceAtom = true := List.all_eq_true.mp (show thW.all (fun x => x.faceAtom) = true by decide +kernel) x hx
  have h3 := Cond.faceAtom_setVm hv x h2 h
  rw [Cond.onTables_vm (A' := a') (U' := U) U.vm x h1] at h3
  exact h3
theorem ThF.moved {w : WD} {u U : State} (hv : u.vm.Alike U.vm) (h : ThF w u) : ThF w U := ⟨vx_Zq.moved hv h.1, vx_Zq.moved hv h.2.1, fun x hx a => thW_moved hv hx (h.2.2 x hx a)⟩
/-- what the tables and the statics say at a state -/
def StF (w : WD) (U : State) : Prop := va_K (wD w) vwCl (tysW w) U
  ∧ (∀ q ∈ nestM, va_Nw (.methodLinkNest q.1 q.2.1 q.2.2.1 q.2.2.2) U)
  ∧ va_Nw nestF U
  ∧ (∀ q ∈ statK, va_Z RX4 q.1 "LEmberLand$Key;" (.ref (sg w q.2)) (wA w) U w.2.2.2.2.2)
  ∧ va_Z RX4 "ALL" "[LEmberLand$Key;" (.ref (sg w 200100)) (wA w) U w.2.2.2.2.2
  ∧ va_Z RX11 "BESIDE" "[I" (.ref (sg w 200200)) (wA w) U w.2.2.2.2.2
  ∧ va_T .int (sg w 200200) 12 (fun j => .int (bes j)) (wA w) U w.2.2.2.2.2
  ∧ va_T (.object RX4) (sg w 200100) 25 (fun j => .ref (sg w (200000 + j))) (wA w) U w.2.2.2.2.2
  ∧ (∀ j : Nat, j < 25 → va_OF RX4 "letters" "J" (.long (kLet j)) (sg w (200000 + j)) (wA w) U w.2.2.2.2.2 ∧ va_OF RX4 "canName" "Z" (.int (kCan j)) (sg w (200000 + j)) (wA w) U w.2.2.2.2.2 ∧ va_OF RX4 "kind" "I" (.int (kKind j)) (sg w (200000 + j)) (wA w) U w.2.2.2.2.2)
  ∧ (∀ i j : Nat, i < 25 → j < 25 → sg w (200000 + i) = sg w (200000 + j) → i = j)
  ∧ (sg w 300000 < w.1 ∧ ∀ scr : Cell, w.2.2.2.2.2[sg w 300000]? = some scr → U.isArrayOf scr .int)
  ∧ w.1 ≤ w.2.2.2.2.2.size
  ∧ va_AO RX1 U ∧ va_AO RX10 U ∧ ThF w U
theorem StF.moved {w : WD} {u U : State} (hW : u.WarmedH U.vm) (h : StF w u) : StF w U := by
  have hv : u.vm.Alike U.vm := hW.alike
  obtain ⟨h1, h2, h3, h4, h5, h6, h7, h8, h9, h10, h11, h12, h13, h14, h15⟩ := h
  exact ⟨va_K.moved hv h1, fun q hq => va_Nw.warmM hW (h2 q hq), va_Nw.warmF hW h3, fun q hq => va_Z.moved hv (h4 q hq), va_Z.moved hv h5, va_Z.moved hv h6, va_T.moved hv h7, va_T.moved hv h8, fun j hj => ⟨va_OF.moved hv (h9 j hj).1, va_OF.moved hv (h9 j hj).2.1, va_OF.moved hv (h9 j hj).2.2⟩, h10, ⟨h11.1, fun scr hs => State.isArrayOf_alike hv (h11.2 scr hs)⟩, h12, va_AO.moved hv h13, va_AO.moved hv h14, ThF.moved hv h15⟩
theorem StF.same {w : WD} {u U : State} (hv : u.vm = U.vm) (h : StF w u) : StF w U := by
  have hv2 : u.vm.Alike U.vm := by rw [hv]; exact Vm.Alike.refl _
  obtain ⟨h1, h2, h3, h4, h5, h6, h7, h8, h9, h10, h11, h12, h13, h14, h15⟩ := h
  exact ⟨va_K.moved hv2 h1, fun q hq => va_Nw.same rfl hv (h2 q hq), va_Nw.same rfl hv h3, fun q hq => va_Z.moved hv2 (h4 q hq), va_Z.moved hv2 h5, va_Z.moved hv2 h6, va_T.moved hv2 h7, va_T.moved hv2 h8, fun j hj => ⟨va_OF.moved hv2 (h9 j hj).1, va_OF.moved hv2 (h9 j hj).2.1, va_OF.moved hv2 (h9 j hj).2.2⟩, h10, ⟨h11.1, fun scr hs => State.isArrayOf_alike hv2 (h11.2 scr hs)⟩, h12, va_AO.moved hv2 h13, va_AO.moved hv2 h14, ThF.moved hv2 h15⟩
/-! ===== points of a walk ===== -/
def sl (n : Nat) : Nat := ((List.range n).map (fun j => (lay (j + 1)).2)).sum
theorem sl_succ (n : Nat) : sl (n + 1) = sl n + (lay (n + 1)).2 := by simp [sl, List.range_succ]
theorem sl_mono {a b : Nat} (h : a ≤ b) : sl a ≤ sl b := by
  induction h with
  | refl => exact Nat.le_refl _
  | step _ ih => rw [sl_succ]; omega
def LR (w : WD) (nL : Nat) (ls : ALS) (lsA : Array Slot) : Prop := lsA.size = nL ∧ ls.length = nL ∧ lv_wf lsA ∧ ∀ (i : Nat) (v : Value), lg ls i = some v → lsA[i]? = some (.val (vv w v))
def lvl (w : WD) (ls : ALS) : List (Nat × Value) := (List.range ls.length).filterMap (fun i => (lg ls i).map (fun v => (i, vv w v)))
theorem lvl_mem {w : WD} {ls : ALS} {q : Nat × Value} : q ∈ lvl w ls ↔ ∃ v, lg ls q.1 = some v ∧ q.2 = vv w v := by
  constructor
  · intro h
    obtain ⟨i, -, hi⟩ := List.mem_filterMap.mp h
    obtain ⟨v, hv, e⟩ := Option.map_eq_some_iff.mp hi
    exact ⟨v, by rw [← e]; exact hv, by rw [← e]⟩
  · rintro ⟨v, hv, e⟩
    refine List.mem_filterMap.mpr ⟨q.1, List.mem_range.mpr (lg_lt _ _ _ hv), ?_⟩
    rw [hv]
    exact congrArg some (Prod.ext rfl e.symm)
theorem LR.has {w : WD} {nL : Nat} {ls : ALS} {lsA : Array Slot} (h : LR w nL ls lsA) : lv_has lsA nL (lvl w ls) := ⟨h.1, h.2.2.1, fun q hq => by
  obtain ⟨v, hv, e⟩ := lvl_mem.mp hq
  rw [e]
  exact h.2.2.2 _ _ hv⟩
theorem LR.store1 {w : WD} {nL : Nat} {ls : ALS} {lsA lsB : Array Slot} {i : Nat} {v : Value} (h : LR w nL ls lsA) (hi : i < nL) (hB : lv_has lsB nL ((i, vv w v) :: (lvl w ls).filter (fun q => !(q.1 == i) && !(q.1 + 1 == i && q.2.category == 2)))) : LR w nL (st1 ls i v) lsB := by
  refine ⟨hB.1, by rw [st1, lset_length, cut1_length]; exact h.2.1, hB.2.1, fun j u hu => ?_⟩
  by_cases hj : j = i
  · subst hj
    rw [st1, lg_lset_self _ _ _ (by rw [cut1_length, h.2.1]; exact hi)] at hu
    cases hu
    exact hB.2.2 _ List.mem_cons_self
  · rw [st1, lg_lset_ne _ _ _ _ hj] at hu
    obtain ⟨h1, h2⟩ := lg_cut1 _ _ _ _ hu
    refine hB.2.2 (j, vv w u) (List.mem_cons_of_mem _ (List.mem_filter.mpr ⟨lvl_mem.mpr ⟨u, h1, rfl⟩, ?_⟩))
    simp only [vv_cat, Bool.and_eq_true, Bool.not_eq_true', beq_eq_false_iff_ne, ne_eq, Bool.and_eq_false_iff]
    refine ⟨hj, ?_⟩
    by_cases hq : j + 1 = i
    · exact Or.inr (fun e => h2 ⟨hq, e⟩)
    · exact Or.inl hq
theorem LR.store2 {w : WD} {nL : Nat} {ls : ALS} {lsA lsB : Array Slot} {i : Nat} {v : Value} (h : LR w nL ls lsA) (hi : i + 1 < nL) (hB : lv_has lsB nL ((i, vv w v) :: (lvl w ls).filter (fun q => !(q.1 == i) && (!(q.1 == i + 1) && !(q.1 + 1 == i && q.2.category == 2))))) : LR w nL (st2 ls i v) lsB := by
  refine ⟨hB.1, by rw [st2, lset_length, lset_length, cut1_length]; exact h.2.1, hB.2.1, fun j u hu => ?_⟩
  have hj1 : j ≠ i + 1 := fun e => by
    subst e
    rw [st2, lg_lset_self _ _ _ (by rw [lset_length, cut1_length, h.2.1]; exact hi)] at hu
    cases hu
  rw [st2, lg_lset_ne _ _ _ _ hj1] at hu
  by_cases hj : j = i
  · subst hj
    rw [lg_lset_self _ _ _ (by rw [cut1_length, h.2.1]; omega)] at hu
    cases hu
    exact hB.2.2 _ List.mem_cons_self
  · rw [lg_lset_ne _ _ _ _ hj] at hu
    obtain ⟨h1, h2⟩ := lg_cut1 _ _ _ _ hu
    refine hB.2.2 (j, vv w u) (List.mem_cons_of_mem _ (List.mem_filter.mpr ⟨lvl_mem.mpr ⟨u, h1, rfl⟩, ?_⟩))
    simp only [vv_cat, Bool.and_eq_true, Bool.not_eq_true', beq_eq_false_iff_ne, ne_eq, Bool.and_eq_false_iff]
    refine ⟨hj, hj1, ?_⟩
    by_cases hq : j + 1 = i
    · exact Or.inr (fun e => h2 ⟨hq, e⟩)
    · exact Or.inl hq
/-! ===== methods, contexts ===== -/
abbrev MR : Type := String × MethodName × ByteArray × Nat × Option FieldType
def WSg : List Cond := lw_tbl.filter goodWord
theorem WSg_in {w : Cond} (h : w ∈ WSg) : w ∈ lw_tbl := (List.mem_filter.mp h).1
theorem WSg_good : GoodIn WSg WSg := fun w h => ⟨h, good_of_word (List.mem_filter.mp h).2⟩
def wsM (μ : MR) : List Cond := .code μ.2.1 μ.2.2.1 μ.2.2.2.1 μ.2.2.2.2 :: WSg
def Cx (w : WD) (μ : MR) (d : Nat) (p : Program) (R : Room) (s : State) (m : MethodId) (args : Array Value) (meth : Method) (c : Code) : Prop :=
  p.tables.exec = Jvm.exec ∧ c.code = μ.2.2.1 ∧ c.maxLocals = μ.2.2.2.1 ∧ s.vm.findClass μ.1 = some m.cls ∧ (∀ x ∈ WSg, x.before args s = true) ∧ StF w s ∧ meth.sig.returnType = μ.2.2.2.2 ∧ meth.locks = false ∧ (d + 1 ≤ R.frames ∧ 60 * (d + 1) ≤ R.locals) ∧ w.1 ≤ s.heap.size ∧ (∀ q : Nat, q < w.1 → s.heap[q]? = w.2.2.2.2.2[q]?) ∧ meth.name = μ.2.1.name
def Pt (w : WD) (h : AHP) (s : State) (n0 : Nat) (H : Heap) (locs : List Loc) (cells slots : Nat) : Prop := Hold w h H ∧ va_S (wA w) s.heap H locs ∧ cells + n0 = h.2.2.2 ∧ slots + sl n0 = sl h.2.2.2 ∧ s.heap.size = w.1 + n0
def Rmm (R : Room) (r : ARS) (n0 : Nat) : Prop := R.cells + n0 = r.2.2.2.2 ∧ R.slots + sl n0 = sl r.2.2.2.2
def retI (μ : MR) (pc : Nat) (v : Option Value) : Prop := match v with
  | none => decode μ.2.2.1 pc = .ok (.return_, 1) ∧ μ.2.2.2.2 = none
  | some (.int x) => decode μ.2.2.1 pc = .ok (.ireturn, 1) ∧ (μ.2.2.2.2 = some .int ∨ μ.2.2.2.2 = some .boolean ∧ (x = 0 ∨ x = 1))
  | some (.long _) => decode μ.2.2.1 pc = .ok (.lreturn, 1) ∧ μ.2.2.2.2 = some .long
  | some (.ref _) => decode μ.2.2.1 pc = .ok (.areturn, 1) ∧ ∃ n, μ.2.2.2.2 = some (.object n)
  | _ => False
def RetOK (w : WD) (l : Launch) (μ : MR) (r : ARS) (p : Program) (e : Env) (R : Room) (s : State) (m : MethodId) (args : Array Value) (below : List Frame) (meth : Method) (c : Code) (n0 : Nat) (Z : State → Prop) : Prop :=
  ∀ H locs cells slots pc lsA, Pt w r.2 s n0 H locs cells slots → retI μ pc r.1 → W p l e R s m args below meth c H locs cells slots Z (F0 m pc lsA (r.1.map (vv w)).toList)
/-- from here the walk comes to the method's end, with r -/
def WG (w : WD) (l : Launch) (μ : MR) (d : Nat) (r : ARS) (pc : Nat) (ls : ALS) (st : List Value) (h : AHP) : Prop :=
  h.2.2.2 ≤ r.2.2.2.2 ∧ ∀ p e R s m args below meth c n0 Z H locs cells slots lsA, Cx w μ d p R s m args meth c → RetOK w l μ r p e R s m args below meth c n0 Z → Pt w h s n0 H locs cells slots → Rmm R r n0 → LR w μ.2.2.2.1 ls lsA →
    W p l e R s m args below meth c H locs cells slots Z (F0 m pc lsA (st.map (vv w)))
def rmM (d mc ms : Nat) : Room := { frames := d + 1, cells := mc, slots := ms, locals := 60 * (d + 1) }
def PcM (w : WD) (as : List Value) (h : AHP) : Array Value → State → Prop := fun v U => v = (as.map (vv w)).toArray ∧ StF w U ∧ Hold w h U.heap ∧ U.heap.size = w.1 + h.2.2.2
def QcM (w : WD) (r : ARS) : Array Value → State → Outcome → State → Prop := fun _ st o t => o = .returned (r.1.map (vv w)) ∧ Hold w r.2 t.heap ∧ va_F (wA w) st t
def MetM (w : WD) (l : Launch) (μ : MR) (d : Nat) (as : List Value) (h : AHP) (r : ARS) : Prop :=
  Met l μ.2.1 (wsM μ) (rmM d (r.2.2.2.2 - h.2.2.2) (sl r.2.2.2.2 - sl h.2.2.2)) (PcM w as h) (QcM w r) (r.2.2.2.2 - h.2.2.2) (sl r.2.2.2.2 - sl h.2.2.2) (wA w)
def CallsOK (w : WD) (l : Launch) (mt : Nat → MR) (d : Nat) (C : Nat → List Value → AHP → Option ARS) : Prop :=
  ∀ k as h r, C k as h = some r → ∃ d', d = d' + 1 ∧ h.2.2.2 ≤ r.2.2.2.2 ∧ MetM w l (mt k) d' as h r
def SndOp (w : WD) (l : Launch) (mt : Nat → MR) (μ : MR) (pc : Nat) (op : AOP) : Prop :=
  ∀ d C G r ls st h, CallsOK w l mt d C → op C G ls st h = some r → (∀ pc' ls' st' h', G pc' ls' st' h' = some r → WG w l μ d r pc' ls' st' h') → WG w l μ d r pc ls st h
/-- one step that calls nothing -/
def StepW (w : WD) (l : Launch) (μ : MR) (r : ARS) (pc : Nat) (ls : ALS) (st : List Value) (h : AHP) (pc' : Nat) (ls' : ALS) (st' : List Value) (h' : AHP) : Prop :=
  ∀ d p e R s m args below meth c n0 Z H locs cells slots lsA, Cx w μ d p R s m args meth c → Pt w h s n0 H locs cells slots → Rmm R r n0 → h'.2.2.2 ≤ r.2.2.2.2 → LR w μ.2.2.2.1 ls lsA →
    (∀ H1 locs1 cells1 slots1 lsA1, Pt w h' s n0 H1 locs1 cells1 slots1 → LR w μ.2.2.2.1 ls' lsA1 → W p l e R s m args below meth c H1 locs1 cells1 slots1 Z (F0 m pc' lsA1 (st'.map (vv w)))) →
    W p l e R s m args below meth c H locs cells slots Z (F0 m pc lsA (st.map (vv w)))
theorem snd_step {w : WD} {l : Launch} {mt : Nat → MR} {μ : MR} {pc : Nat} {op : AOP} (hop : ∀ C G ls st h r, op C G ls st h = some r → ∃ pc' ls' st' h', G pc' ls' st' h' = some r ∧ h.2.2.2 ≤ h'.2.2.2 ∧ StepW w l μ r pc ls st h pc' ls' st' h') : SndOp w l mt μ pc op := by
  intro d C G r ls st h hC ho hG
  obtain ⟨pc', ls', st', h', h1, h2, h3⟩ := hop C G ls st h r ho
  obtain ⟨g1, g2⟩ := hG _ _ _ _ h1
  exact ⟨Nat.le_trans h2 g1, fun p e R s m args below meth c n0 Z H locs cells slots lsA hcx hret hpt hrm hlr => h3 d p e R s m args below meth c n0 Z H locs cells slots lsA hcx hpt hrm g1 hlr (fun H1 locs1 cells1 slots1 lsA1 k1 k2 => g2 p e R s m args below meth c n0 Z H1 locs1 cells1 slots1 lsA1 hcx hret k1 hrm k2)⟩
section SND
variable {w : WD} {l : Launch} {mt : Nat → MR} {μ : MR} {pc : Nat}
theorem snd_ci {n : Nat} {v : Int32} (hs : ∀ {p : Program} {e : Env} {R : Room} {s : State} {m : MethodId} {args : Array Value} {below : List Frame} {meth : Method} {c : Code} {H : Heap} {locs : List Loc} {cells slots : Nat} {Q : State → Prop} {ls : Array Slot} {rest : List Value}, p.tables.exec = Jvm.exec → c.code = μ.2.2.1 → s.vm.findClass μ.1 = some m.cls → (∀ x ∈ WSg, x.before args s = true) → W p l e R s m args below meth c H locs cells slots Q (F0 m n ls (.int v :: rest)) → W p l e R s m args below meth c H locs cells slots Q (F0 m pc ls rest)) : SndOp w l mt μ pc (o_ci n v) :=
  snd_step fun C G ls st h r ho => ⟨_, _, _, _, ho, Nat.le_refl _, fun d p e R s m args below meth c n0 Z H locs cells slots lsA hcx hpt hrm hle hlr kk => hs hcx.1 hcx.2.1 hcx.2.2.2.1 hcx.2.2.2.2.1 (kk H locs cells slots lsA hpt hlr)⟩
theorem snd_iconst {n : Int} {v : Int32} (hv : Int32.ofInt n = v) (hd : decode μ.2.2.1 pc = .ok (.iconst n, 1)) : SndOp w l mt μ pc (o_ci (pc + 1) v) := snd_ci (fun hx hb _ _ k => lv_iconst hx hb hd hv k)
theorem snd_bipush {n : Int} {v : Int32} (hv : (Int8.ofInt n).toInt32 = v) (hd : decode μ.2.2.1 pc = .ok (.bipush n, 2)) : SndOp w l mt μ pc (o_ci (pc + 2) v) := snd_ci (fun hx hb _ _ k => lv_bipush hx hb hd hv k)
theorem snd_sipush {n : Int} {v : Int32} (hv : (Int16.ofInt n).toInt32 = v) (hd : decode μ.2.2.1 pc = .ok (.sipush n, 3)) : SndOp w l mt μ pc (o_ci (pc + 3) v) := snd_ci (fun hx hb _ _ k => lv_sipush hx hb hd hv k)
theorem snd_ldc {i : Nat} {v : Int32} (hc : Cond.constant μ.1 i v ∈ WSg) (hd : decode μ.2.2.1 pc = .ok (.ldc i, 2)) : SndOp w l mt μ pc (o_ci (pc + 2) v) := snd_ci (fun hx hb ho ht k => lv_ldc hx hb ho (ht _ hc) hd k)
theorem snd_ldcw {i : Nat} {v : Int32} (hc : Cond.constant μ.1 i v ∈ WSg) (hd : decode μ.2.2.1 pc = .ok (.ldc_w i, 3)) : SndOp w l mt μ pc (o_ci (pc + 3) v) := snd_ci (fun hx hb ho ht k => lv_ldcw hx hb ho (ht _ hc) hd k)
theorem snd_cl {n : Nat} {v : Int64} (hs : ∀ {p : Program} {e : Env} {R : Room} {s : State} {m : MethodId} {args : Array Value} {below : List Frame} {meth : Method} {c : Code} {H : Heap} {locs : List Loc} {cells slots : Nat} {Q : State → Prop} {ls : Array Slot} {rest : List Value}, p.tables.exec = Jvm.exec → c.code = μ.2.2.1 → s.vm.findClass μ.1 = some m.cls → (∀ x ∈ WSg, x.before args s = true) → W p l e R s m args below meth c H locs cells slots Q (F0 m n ls (.long v :: rest)) → W p l e R s m args below meth c H locs cells slots Q (F0 m pc ls rest)) : SndOp w l mt μ pc (o_cl n v) :=
  snd_step fun C G ls st h r ho => ⟨_, _, _, _, ho, Nat.le_refl _, fun d p e R s m args below meth c n0 Z H locs cells slots lsA hcx hpt hrm hle hlr kk => hs hcx.1 hcx.2.1 hcx.2.2.2.1 hcx.2.2.2.2.1 (kk H locs cells slots lsA hpt hlr)⟩
theorem snd_lconst {n : Fin 2} {v : Int64} (hv : Int64.ofNat (n : Nat) = v) (hd : decode μ.2.2.1 pc = .ok (.lconst n, 1)) : SndOp w l mt μ pc (o_cl (pc + 1) v) := snd_cl (fun hx hb _ _ k => lv_lconst hx hb hd hv k)
theorem snd_ldc2 {i : Nat} {v : Int64} (hc : Cond.constantLong μ.1 i v ∈ WSg) (hd : decode μ.2.2.1 pc = .ok (.ldc2_w i, 3)) : SndOp w l mt μ pc (o_cl (pc + 3) v) := snd_cl (fun hx hb ho ht k => lv_ldc2 hx hb ho (ht _ hc) hd k)
/-- loads -/
theorem snd_iload {i : Nat} (hd : decode μ.2.2.1 pc = .ok (.iload i, 2)) : SndOp w l mt μ pc (o_iload (pc + 2) i) := snd_step fun C G ls st h r ho => by
  unfold o_iload at ho
  split at ho
  · rename_i x hx1
    exact ⟨_, _, _, _, ho, Nat.le_refl _, fun d p e R s m args below meth c n0 Z H locs cells slots lsA hcx hpt hrm hle hlr kk => lv_iload hcx.1 hcx.2.1 hd (hlr.2.2.2 _ _ hx1) (kk H locs cells slots lsA hpt hlr)⟩
  · cases ho
theorem snd_iload_n {i : Nat} {j : Fin 4} (hj : (j : Nat) = i) (hd : decode μ.2.2.1 pc = .ok (.iload_n j, 1)) : SndOp w l mt μ pc (o_iload (pc + 1) i) := snd_step fun C G ls st h r ho => by
  unfold o_iload at ho
  split at ho
  · rename_i x hx1
    exact ⟨_, _, _, _, ho, Nat.le_refl _, fun d p e R s m args below meth c n0 Z H locs cells slots lsA hcx hpt hrm hle hlr kk => lv_iload_n hcx.1 hcx.2.1 hd hj (hlr.2.2.2 _ _ hx1) (kk H locs cells slots lsA hpt hlr)⟩
  · cases ho
theorem snd_lload {i : Nat} (hd : decode μ.2.2.1 pc = .ok (.lload i, 2)) : SndOp w l mt μ pc (o_lload (pc + 2) i) := snd_step fun C G ls st h r ho => by
  unfold o_lload at ho
  split at ho
  · rename_i x hx1
    exact ⟨_, _, _, _, ho, Nat.le_refl _, fun d p e R s m args below meth c n0 Z H locs cells slots lsA hcx hpt hrm hle hlr kk => lv_lload hcx.1 hcx.2.1 hd (hlr.2.2.2 _ _ hx1) (kk H locs cells slots lsA hpt hlr)⟩
  · cases ho
theorem snd_lload_n {i : Nat} {j : Fin 4} (hj : (j : Nat) = i) (hd : decode μ.2.2.1 pc = .ok (.lload_n j, 1)) : SndOp w l mt μ pc (o_lload (pc + 1) i) := snd_step fun C G ls st h r ho => by
  unfold o_lload at ho
  split at ho
  · rename_i x hx1
    exact ⟨_, _, _, _, ho, Nat.le_refl _, fun d p e R s m args below meth c n0 Z H locs cells slots lsA hcx hpt hrm hle hlr kk => lv_lload_n hcx.1 hcx.2.1 hd hj (hlr.2.2.2 _ _ hx1) (kk H locs cells slots lsA hpt hlr)⟩
  · cases ho
theorem snd_aload {i : Nat} (hd : decode μ.2.2.1 pc = .ok (.aload i, 2)) : SndOp w l mt μ pc (o_aload (pc + 2) i) := snd_step fun C G ls st h r ho => by
  unfold o_aload at ho
  split at ho
  · rename_i x hx1
    exact ⟨_, _, _, _, ho, Nat.le_refl _, fun d p e R s m args below meth c n0 Z H locs cells slots lsA hcx hpt hrm hle hlr kk => lv_aload hcx.1 hcx.2.1 hd (hlr.2.2.2 _ _ hx1) (kk H locs cells slots lsA hpt hlr)⟩
  · cases ho
theorem snd_aload_n {i : Nat} {j : Fin 4} (hj : (j : Nat) = i) (hd : decode μ.2.2.1 pc = .ok (.aload_n j, 1)) : SndOp w l mt μ pc (o_aload (pc + 1) i) := snd_step fun C G ls st h r ho => by
  unfold o_aload at ho
  split at ho
  · rename_i x hx1
    exact ⟨_, _, _, _, ho, Nat.le_refl _, fun d p e R s m args below meth c n0 Z H locs cells slots lsA hcx hpt hrm hle hlr kk => lv_aload_n hcx.1 hcx.2.1 hd hj (hlr.2.2.2 _ _ hx1) (kk H locs cells slots lsA hpt hlr)⟩
  · cases ho
theorem snd_iadd (hd : decode μ.2.2.1 pc = .ok (.iadd, 1)) : SndOp w l mt μ pc (o_i2 (pc + 1) (fun x y => x + y)) := snd_step fun C G ls st h r ho => by
  unfold o_i2 at ho
  split at ho
  · rename_i y x st1
    exact ⟨_, _, _, _, ho, Nat.le_refl _, fun d p e R s m args below meth c n0 Z H locs cells slots lsA hcx hpt hrm hle hlr kk => lv_iadd hcx.1 hcx.2.1 hd  (kk H locs cells slots lsA hpt hlr)⟩
  · cases ho
theorem snd_isub (hd : decode μ.2.2.1 pc = .ok (.isub, 1)) : SndOp w l mt μ pc (o_i2 (pc + 1) (fun x y => x - y)) := snd_step fun C G ls st h r ho => by
  unfold o_i2 at ho
  split at ho
  · rename_i y x st1
    exact ⟨_, _, _, _, ho, Nat.le_refl _, fun d p e R s m args below meth c n0 Z H locs cells slots lsA hcx hpt hrm hle hlr kk => lv_isub hcx.1 hcx.2.1 hd  (kk H locs cells slots lsA hpt hlr)⟩
  · cases ho
theorem snd_imul (hd : decode μ.2.2.1 pc = .ok (.imul, 1)) : SndOp w l mt μ pc (o_i2 (pc + 1) (fun x y => x * y)) := snd_step fun C G ls st h r ho => by
  unfold o_i2 at ho
  split at ho
  · rename_i y x st1
    exact ⟨_, _, _, _, ho, Nat.le_refl _, fun d p e R s m args below meth c n0 Z H locs cells slots lsA hcx hpt hrm hle hlr kk => lv_imul hcx.1 hcx.2.1 hd  (kk H locs cells slots lsA hpt hlr)⟩
  · cases ho
theorem snd_iand (hd : decode μ.2.2.1 pc = .ok (.iand, 1)) : SndOp w l mt μ pc (o_i2 (pc + 1) (fun x y => x &&& y)) := snd_step fun C G ls st h r ho => by
  unfold o_i2 at ho
  split at ho
  · rename_i y x st1
    exact ⟨_, _, _, _, ho, Nat.le_refl _, fun d p e R s m args below meth c n0 Z H locs cells slots lsA hcx hpt hrm hle hlr kk => lv_iand hcx.1 hcx.2.1 hd  (kk H locs cells slots lsA hpt hlr)⟩
  · cases ho
theorem snd_ior (hd : decode μ.2.2.1 pc = .ok (.ior, 1)) : SndOp w l mt μ pc (o_i2 (pc + 1) (fun x y => x ||| y)) := snd_step fun C G ls st h r ho => by
  unfold o_i2 at ho
  split at ho
  · rename_i y x st1
    exact ⟨_, _, _, _, ho, Nat.le_refl _, fun d p e R s m args below meth c n0 Z H locs cells slots lsA hcx hpt hrm hle hlr kk => lv_ior hcx.1 hcx.2.1 hd  (kk H locs cells slots lsA hpt hlr)⟩
  · cases ho
theorem snd_ixor (hd : decode μ.2.2.1 pc = .ok (.ixor, 1)) : SndOp w l mt μ pc (o_i2 (pc + 1) (fun x y => x ^^^ y)) := snd_step fun C G ls st h r ho => by
  unfold o_i2 at ho
  split at ho
  · rename_i y x st1
    exact ⟨_, _, _, _, ho, Nat.le_refl _, fun d p e R s m args below meth c n0 Z H locs cells slots lsA hcx hpt hrm hle hlr kk => lv_ixor hcx.1 hcx.2.1 hd  (kk H locs cells slots lsA hpt hlr)⟩
  · cases ho
theorem snd_ishl (hd : decode μ.2.2.1 pc = .ok (.ishl, 1)) : SndOp w l mt μ pc (o_i2 (pc + 1) (fun x y => x <<< (y &&& 31))) := snd_step fun C G ls st h r ho => by
  unfold o_i2 at ho
  split at ho
  · rename_i y x st1
    exact ⟨_, _, _, _, ho, Nat.le_refl _, fun d p e R s m args below meth c n0 Z H locs cells slots lsA hcx hpt hrm hle hlr kk => lv_ishl hcx.1 hcx.2.1 hd  (kk H locs cells slots lsA hpt hlr)⟩
  · cases ho
theorem snd_ishr (hd : decode μ.2.2.1 pc = .ok (.ishr, 1)) : SndOp w l mt μ pc (o_i2 (pc + 1) (fun x y => x >>> (y &&& 31))) := snd_step fun C G ls st h r ho => by
  unfold o_i2 at ho
  split at ho
  · rename_i y x st1
    exact ⟨_, _, _, _, ho, Nat.le_refl _, fun d p e R s m args below meth c n0 Z H locs cells slots lsA hcx hpt hrm hle hlr kk => lv_ishr hcx.1 hcx.2.1 hd  (kk H locs cells slots lsA hpt hlr)⟩
  · cases ho
theorem snd_iushr (hd : decode μ.2.2.1 pc = .ok (.iushr, 1)) : SndOp w l mt μ pc (o_i2 (pc + 1) (fun x y => (x.toUInt32 >>> (y.toUInt32 &&& Int32.toUInt32 31)).toInt32)) := snd_step fun C G ls st h r ho => by
  unfold o_i2 at ho
  split at ho
  · rename_i y x st1
    exact ⟨_, _, _, _, ho, Nat.le_refl _, fun d p e R s m args below meth c n0 Z H locs cells slots lsA hcx hpt hrm hle hlr kk => lv_iushr hcx.1 hcx.2.1 hd rfl (kk H locs cells slots lsA hpt hlr)⟩
  · cases ho
theorem snd_idiv (hd : decode μ.2.2.1 pc = .ok (.idiv, 1)) : SndOp w l mt μ pc (o_i2d (pc + 1) (fun x y => x / y)) := snd_step fun C G ls st h r ho => by
  unfold o_i2d at ho
  split at ho
  · rename_i y x st1
    split at ho
    · cases ho
    · rename_i hy
      exact ⟨_, _, _, _, ho, Nat.le_refl _, fun d p e R s m args below meth c n0 Z H locs cells slots lsA hcx hpt hrm hle hlr kk => lv_idiv hcx.1 hcx.2.1 hd hy (kk H locs cells slots lsA hpt hlr)⟩
  · cases ho
theorem snd_irem (hd : decode μ.2.2.1 pc = .ok (.irem, 1)) : SndOp w l mt μ pc (o_i2d (pc + 1) (fun x y => x - x / y * y)) := snd_step fun C G ls st h r ho => by
  unfold o_i2d at ho
  split at ho
  · rename_i y x st1
    split at ho
    · cases ho
    · rename_i hy
      exact ⟨_, _, _, _, ho, Nat.le_refl _, fun d p e R s m args below meth c n0 Z H locs cells slots lsA hcx hpt hrm hle hlr kk => lv_irem hcx.1 hcx.2.1 hd hy (kk H locs cells slots lsA hpt hlr)⟩
  · cases ho
theorem snd_ladd (hd : decode μ.2.2.1 pc = .ok (.ladd, 1)) : SndOp w l mt μ pc (o_l2 (pc + 1) (fun x y => x + y)) := snd_step fun C G ls st h r ho => by
  unfold o_l2 at ho
  split at ho
  · rename_i y x st1
    exact ⟨_, _, _, _, ho, Nat.le_refl _, fun d p e R s m args below meth c n0 Z H locs cells slots lsA hcx hpt hrm hle hlr kk => lv_ladd hcx.1 hcx.2.1 hd  (kk H locs cells slots lsA hpt hlr)⟩
  · cases ho
theorem snd_lsub (hd : decode μ.2.2.1 pc = .ok (.lsub, 1)) : SndOp w l mt μ pc (o_l2 (pc + 1) (fun x y => x - y)) := snd_step fun C G ls st h r ho => by
  unfold o_l2 at ho
  split at ho
  · rename_i y x st1
    exact ⟨_, _, _, _, ho, Nat.le_refl _, fun d p e R s m args below meth c n0 Z H locs cells slots lsA hcx hpt hrm hle hlr kk => lv_lsub hcx.1 hcx.2.1 hd  (kk H locs cells slots lsA hpt hlr)⟩
  · cases ho
theorem snd_lmul (hd : decode μ.2.2.1 pc = .ok (.lmul, 1)) : SndOp w l mt μ pc (o_l2 (pc + 1) (fun x y => x * y)) := snd_step fun C G ls st h r ho => by
  unfold o_l2 at ho
  split at ho
  · rename_i y x st1
    exact ⟨_, _, _, _, ho, Nat.le_refl _, fun d p e R s m args below meth c n0 Z H locs cells slots lsA hcx hpt hrm hle hlr kk => lv_lmul hcx.1 hcx.2.1 hd  (kk H locs cells slots lsA hpt hlr)⟩
  · cases ho
theorem snd_land (hd : decode μ.2.2.1 pc = .ok (.land, 1)) : SndOp w l mt μ pc (o_l2 (pc + 1) (fun x y => x &&& y)) := snd_step fun C G ls st h r ho => by
  unfold o_l2 at ho
  split at ho
  · rename_i y x st1
    exact ⟨_, _, _, _, ho, Nat.le_refl _, fun d p e R s m args below meth c n0 Z H locs cells slots lsA hcx hpt hrm hle hlr kk => lv_land hcx.1 hcx.2.1 hd  (kk H locs cells slots lsA hpt hlr)⟩
  · cases ho
theorem snd_lor (hd : decode μ.2.2.1 pc = .ok (.lor, 1)) : SndOp w l mt μ pc (o_l2 (pc + 1) (fun x y => x ||| y)) := snd_step fun C G ls st h r ho => by
  unfold o_l2 at ho
  split at ho
  · rename_i y x st1
    exact ⟨_, _, _, _, ho, Nat.le_refl _, fun d p e R s m args below meth c n0 Z H locs cells slots lsA hcx hpt hrm hle hlr kk => lv_lor hcx.1 hcx.2.1 hd  (kk H locs cells slots lsA hpt hlr)⟩
  · cases ho
theorem snd_ldiv (hd : decode μ.2.2.1 pc = .ok (.ldiv, 1)) : SndOp w l mt μ pc (o_l2d (pc + 1) (fun x y => x / y)) := snd_step fun C G ls st h r ho => by
  unfold o_l2d at ho
  split at ho
  · rename_i y x st1
    split at ho
    · cases ho
    · rename_i hy
      exact ⟨_, _, _, _, ho, Nat.le_refl _, fun d p e R s m args below meth c n0 Z H locs cells slots lsA hcx hpt hrm hle hlr kk => lv_ldiv hcx.1 hcx.2.1 hd hy (kk H locs cells slots lsA hpt hlr)⟩
  · cases ho
theorem snd_lrem (hd : decode μ.2.2.1 pc = .ok (.lrem, 1)) : SndOp w l mt μ pc (o_l2d (pc + 1) (fun x y => x - x / y * y)) := snd_step fun C G ls st h r ho => by
  unfold o_l2d at ho
  split at ho
  · rename_i y x st1
    split at ho
    · cases ho
    · rename_i hy
      exact ⟨_, _, _, _, ho, Nat.le_refl _, fun d p e R s m args below meth c n0 Z H locs cells slots lsA hcx hpt hrm hle hlr kk => lv_lrem hcx.1 hcx.2.1 hd hy (kk H locs cells slots lsA hpt hlr)⟩
  · cases ho
theorem snd_lshl (hd : decode μ.2.2.1 pc = .ok (.lshl, 1)) : SndOp w l mt μ pc (o_lsh (pc + 1) (fun x y => x <<< (y.toInt64 &&& 63))) := snd_step fun C G ls st h r ho => by
  unfold o_lsh at ho
  split at ho
  · rename_i y x st1
    exact ⟨_, _, _, _, ho, Nat.le_refl _, fun d p e R s m args below meth c n0 Z H locs cells slots lsA hcx hpt hrm hle hlr kk => lv_lshl hcx.1 hcx.2.1 hd rfl (kk H locs cells slots lsA hpt hlr)⟩
  · cases ho
theorem snd_lshr (hd : decode μ.2.2.1 pc = .ok (.lshr, 1)) : SndOp w l mt μ pc (o_lsh (pc + 1) (fun x y => x >>> (y.toInt64 &&& 63))) := snd_step fun C G ls st h r ho => by
  unfold o_lsh at ho
  split at ho
  · rename_i y x st1
    exact ⟨_, _, _, _, ho, Nat.le_refl _, fun d p e R s m args below meth c n0 Z H locs cells slots lsA hcx hpt hrm hle hlr kk => lv_lshr hcx.1 hcx.2.1 hd rfl (kk H locs cells slots lsA hpt hlr)⟩
  · cases ho
theorem snd_lushr (hd : decode μ.2.2.1 pc = .ok (.lushr, 1)) : SndOp w l mt μ pc (o_lsh (pc + 1) (fun x y => (x.toUInt64 >>> (y.toInt64.toUInt64 &&& Int64.toUInt64 63)).toInt64)) := snd_step fun C G ls st h r ho => by
  unfold o_lsh at ho
  split at ho
  · rename_i y x st1
    exact ⟨_, _, _, _, ho, Nat.le_refl _, fun d p e R s m args below meth c n0 Z H locs cells slots lsA hcx hpt hrm hle hlr kk => lv_lushr hcx.1 hcx.2.1 hd rfl (kk H locs cells slots lsA hpt hlr)⟩
  · cases ho
theorem snd_ineg (hd : decode μ.2.2.1 pc = .ok (.ineg, 1)) : SndOp w l mt μ pc (o_i1 (pc + 1) (fun x => -x)) := snd_step fun C G ls st h r ho => by
  unfold o_i1 at ho
  split at ho
  · rename_i x st1
    exact ⟨_, _, _, _, ho, Nat.le_refl _, fun d p e R s m args below meth c n0 Z H locs cells slots lsA hcx hpt hrm hle hlr kk => lv_ineg hcx.1 hcx.2.1 hd  (kk H locs cells slots lsA hpt hlr)⟩
  · cases ho
theorem snd_i2l (hd : decode μ.2.2.1 pc = .ok (.i2l, 1)) : SndOp w l mt μ pc (o_i2l (pc + 1)) := snd_step fun C G ls st h r ho => by
  unfold o_i2l at ho
  split at ho
  · rename_i x st1
    exact ⟨_, _, _, _, ho, Nat.le_refl _, fun d p e R s m args below meth c n0 Z H locs cells slots lsA hcx hpt hrm hle hlr kk => lv_i2l hcx.1 hcx.2.1 hd rfl (kk H locs cells slots lsA hpt hlr)⟩
  · cases ho
theorem snd_l2i (hd : decode μ.2.2.1 pc = .ok (.l2i, 1)) : SndOp w l mt μ pc (o_l2i (pc + 1)) := snd_step fun C G ls st h r ho => by
  unfold o_l2i at ho
  split at ho
  · rename_i x st1
    exact ⟨_, _, _, _, ho, Nat.le_refl _, fun d p e R s m args below meth c n0 Z H locs cells slots lsA hcx hpt hrm hle hlr kk => lv_l2i hcx.1 hcx.2.1 hd rfl (kk H locs cells slots lsA hpt hlr)⟩
  · cases ho
theorem snd_lcmp (hd : decode μ.2.2.1 pc = .ok (.lcmp, 1)) : SndOp w l mt μ pc (o_lcmp (pc + 1)) := snd_step fun C G ls st h r ho => by
  unfold o_lcmp at ho
  split at ho
  · rename_i y x st1
    exact ⟨_, _, _, _, ho, Nat.le_refl _, fun d p e R s m args below meth c n0 Z H locs cells slots lsA hcx hpt hrm hle hlr kk => W.lcmp hcx.1 hcx.2.1 hd  (kk H locs cells slots lsA hpt hlr)⟩
  · cases ho
theorem snd_dupI (hd : decode μ.2.2.1 pc = .ok (.dup, 1)) : SndOp w l mt μ pc (o_dupI (pc + 1)) := snd_step fun C G ls st h r ho => by
  unfold o_dupI at ho
  split at ho
  · rename_i x st1
    exact ⟨_, _, _, _, ho, Nat.le_refl _, fun d p e R s m args below meth c n0 Z H locs cells slots lsA hcx hpt hrm hle hlr kk => lv_dup hcx.1 hcx.2.1 hd rfl (kk H locs cells slots lsA hpt hlr)⟩
  · cases ho
theorem snd_dupA (hd : decode μ.2.2.1 pc = .ok (.dup, 1)) : SndOp w l mt μ pc (o_dupA (pc + 1)) := snd_step fun C G ls st h r ho => by
  unfold o_dupA at ho
  split at ho
  · rename_i x st1
    exact ⟨_, _, _, _, ho, Nat.le_refl _, fun d p e R s m args below meth c n0 Z H locs cells slots lsA hcx hpt hrm hle hlr kk => lv_dup hcx.1 hcx.2.1 hd rfl (kk H locs cells slots lsA hpt hlr)⟩
  · cases ho
theorem snd_dup2 (hd : decode μ.2.2.1 pc = .ok (.dup2, 1)) : SndOp w l mt μ pc (o_dup2 (pc + 1)) := snd_step fun C G ls st h r ho => by
  unfold o_dup2 at ho
  split at ho
  · rename_i y x st1
    exact ⟨_, _, _, _, ho, Nat.le_refl _, fun d p e R s m args below meth c n0 Z H locs cells slots lsA hcx hpt hrm hle hlr kk => lv_dup2_11 hcx.1 hcx.2.1 hd rfl rfl (kk H locs cells slots lsA hpt hlr)⟩
  · cases ho
theorem snd_popI (hd : decode μ.2.2.1 pc = .ok (.pop, 1)) : SndOp w l mt μ pc (o_popI (pc + 1)) := snd_step fun C G ls st h r ho => by
  unfold o_popI at ho
  split at ho
  · rename_i x st1
    exact ⟨_, _, _, _, ho, Nat.le_refl _, fun d p e R s m args below meth c n0 Z H locs cells slots lsA hcx hpt hrm hle hlr kk => lv_pop hcx.1 hcx.2.1 hd rfl (kk H locs cells slots lsA hpt hlr)⟩
  · cases ho
theorem snd_istore {i : Nat} (hd : decode μ.2.2.1 pc = .ok (.istore i, 2)) : SndOp w l mt μ pc (o_istore (pc + 2) i) := snd_step fun C G ls st h r ho => by
  unfold o_istore at ho
  split at ho
  · rename_i x st1
    split at ho
    · rename_i hi
      exact ⟨_, _, _, _, ho, Nat.le_refl _, fun d p e R s m args below meth c n0 Z H locs cells slots lsA hcx hpt hrm hle hlr kk => lv_istore hcx.1 hcx.2.1 hd  hlr.has (by rw [← hlr.2.1]; exact hi) rfl (fun ls2 h2 => kk H locs cells slots ls2 hpt (hlr.store1 (v := .int x) (by rw [← hlr.2.1]; exact hi) h2))⟩
    · cases ho
  · cases ho
theorem snd_istore_n {i : Nat} {j : Fin 4} (hj : (j : Nat) = i) (hd : decode μ.2.2.1 pc = .ok (.istore_n j, 1)) : SndOp w l mt μ pc (o_istore (pc + 1) i) := snd_step fun C G ls st h r ho => by
  unfold o_istore at ho
  split at ho
  · rename_i x st1
    split at ho
    · rename_i hi
      exact ⟨_, _, _, _, ho, Nat.le_refl _, fun d p e R s m args below meth c n0 Z H locs cells slots lsA hcx hpt hrm hle hlr kk => lv_istore_n hcx.1 hcx.2.1 hd hj hlr.has (by rw [← hlr.2.1]; exact hi) rfl (fun ls2 h2 => kk H locs cells slots ls2 hpt (hlr.store1 (v := .int x) (by rw [← hlr.2.1]; exact hi) h2))⟩
    · cases ho
  · cases ho
theorem snd_astore {i : Nat} (hd : decode μ.2.2.1 pc = .ok (.astore i, 2)) : SndOp w l mt μ pc (o_astore (pc + 2) i) := snd_step fun C G ls st h r ho => by
  unfold o_astore at ho
  split at ho
  · rename_i x st1
    split at ho
    · rename_i hi
      exact ⟨_, _, _, _, ho, Nat.le_refl _, fun d p e R s m args below meth c n0 Z H locs cells slots lsA hcx hpt hrm hle hlr kk => lv_astore hcx.1 hcx.2.1 hd  hlr.has (by rw [← hlr.2.1]; exact hi) rfl (fun ls2 h2 => kk H locs cells slots ls2 hpt (hlr.store1 (v := .ref x) (by rw [← hlr.2.1]; exact hi) h2))⟩
    · cases ho
  · cases ho
theorem snd_astore_n {i : Nat} {j : Fin 4} (hj : (j : Nat) = i) (hd : decode μ.2.2.1 pc = .ok (.astore_n j, 1)) : SndOp w l mt μ pc (o_astore (pc + 1) i) := snd_step fun C G ls st h r ho => by
  unfold o_astore at ho
  split at ho
  · rename_i x st1
    split at ho
    · rename_i hi
      exact ⟨_, _, _, _, ho, Nat.le_refl _, fun d p e R s m args below meth c n0 Z H locs cells slots lsA hcx hpt hrm hle hlr kk => lv_astore_n hcx.1 hcx.2.1 hd hj hlr.has (by rw [← hlr.2.1]; exact hi) rfl (fun ls2 h2 => kk H locs cells slots ls2 hpt (hlr.store1 (v := .ref x) (by rw [← hlr.2.1]; exact hi) h2))⟩
    · cases ho
  · cases ho
theorem snd_lstore {i : Nat} (hd : decode μ.2.2.1 pc = .ok (.lstore i, 2)) : SndOp w l mt μ pc (o_lstore (pc + 2) i) := snd_step fun C G ls st h r ho => by
  unfold o_lstore at ho
  split at ho
  · rename_i x st1
    split at ho
    · rename_i hi
      exact ⟨_, _, _, _, ho, Nat.le_refl _, fun d p e R s m args below meth c n0 Z H locs cells slots lsA hcx hpt hrm hle hlr kk => lv_lstore hcx.1 hcx.2.1 hd  hlr.has (by rw [← hlr.2.1]; exact hi) rfl (fun ls2 h2 => kk H locs cells slots ls2 hpt (hlr.store2 (v := .long x) (by rw [← hlr.2.1]; exact hi) h2))⟩
    · cases ho
  · cases ho
theorem snd_lstore_n {i : Nat} {j : Fin 4} (hj : (j : Nat) = i) (hd : decode μ.2.2.1 pc = .ok (.lstore_n j, 1)) : SndOp w l mt μ pc (o_lstore (pc + 1) i) := snd_step fun C G ls st h r ho => by
  unfold o_lstore at ho
  split at ho
  · rename_i x st1
    split at ho
    · rename_i hi
      exact ⟨_, _, _, _, ho, Nat.le_refl _, fun d p e R s m args below meth c n0 Z H locs cells slots lsA hcx hpt hrm hle hlr kk => lv_lstore_n hcx.1 hcx.2.1 hd hj hlr.has (by rw [← hlr.2.1]; exact hi) rfl (fun ls2 h2 => kk H locs cells slots ls2 hpt (hlr.store2 (v := .long x) (by rw [← hlr.2.1]; exact hi) h2))⟩
    · cases ho
  · cases ho
theorem snd_iinc {i : Nat} {n : Int} {v : Int32} (hv : Int32.ofInt n = v) (hd : decode μ.2.2.1 pc = .ok (.iinc i n, 3)) : SndOp w l mt μ pc (o_iinc (pc + 3) i v) := snd_step fun C G ls st h r ho => by
  unfold o_iinc at ho
  split at ho
  · rename_i x hx1
    refine ⟨_, _, _, _, ho, Nat.le_refl _, fun d p e R s m args below meth c n0 Z H locs cells slots lsA hcx hpt hrm hle hlr kk => ?_⟩
    have hm : (i, Value.int x) ∈ lvl w ls := lvl_mem.mpr ⟨_, hx1, rfl⟩
    obtain ⟨q, hq⟩ := List.getElem?_of_mem hm
    have hi : i < μ.2.2.2.1 := by rw [← hlr.2.1]; exact lg_lt _ _ _ hx1
    exact lv_iinc (v := x + v) hcx.1 hcx.2.1 hd hlr.has hq (by rw [hv]) hi rfl (fun ls2 h2 => kk H locs cells slots ls2 hpt (hlr.store1 (v := .int (x + v)) hi h2))
  · cases ho
theorem snd_if_eq {off : Int} {tgt : Nat} (ht : (pc : Int) + off = (tgt : Int)) (hd : decode μ.2.2.1 pc = .ok (.ifCond .eq off, 3)) : SndOp w l mt μ pc (o_if (pc + 3) tgt (fun x => x = 0) (fun _ => inferInstance)) := snd_step fun C G ls st h r ho => by
  unfold o_if iff_ at ho
  split at ho
  · rename_i x st1
    split at ho
    · rename_i hc
      exact ⟨_, _, _, _, ho, Nat.le_refl _, fun d p e R s m args below meth c n0 Z H locs cells slots lsA hcx hpt hrm hle hlr kk => lv_if_eq hcx.1 hcx.2.1 hd ht (fun _ => (kk H locs cells slots lsA hpt hlr)) (fun hn => absurd hc hn)⟩
    · rename_i hc
      exact ⟨_, _, _, _, ho, Nat.le_refl _, fun d p e R s m args below meth c n0 Z H locs cells slots lsA hcx hpt hrm hle hlr kk => lv_if_eq hcx.1 hcx.2.1 hd ht (fun hn => absurd hn hc) (fun _ => (kk H locs cells slots lsA hpt hlr))⟩
  · cases ho
theorem snd_if_ne {off : Int} {tgt : Nat} (ht : (pc : Int) + off = (tgt : Int)) (hd : decode μ.2.2.1 pc = .ok (.ifCond .ne off, 3)) : SndOp w l mt μ pc (o_if tgt (pc + 3) (fun x => x = 0) (fun _ => inferInstance)) := snd_step fun C G ls st h r ho => by
  unfold o_if iff_ at ho
  split at ho
  · rename_i x st1
    split at ho
    · rename_i hc
      exact ⟨_, _, _, _, ho, Nat.le_refl _, fun d p e R s m args below meth c n0 Z H locs cells slots lsA hcx hpt hrm hle hlr kk => lv_if_ne hcx.1 hcx.2.1 hd ht (fun hn => absurd hc hn) (fun _ => (kk H locs cells slots lsA hpt hlr))⟩
    · rename_i hc
      exact ⟨_, _, _, _, ho, Nat.le_refl _, fun d p e R s m args below meth c n0 Z H locs cells slots lsA hcx hpt hrm hle hlr kk => lv_if_ne hcx.1 hcx.2.1 hd ht (fun _ => (kk H locs cells slots lsA hpt hlr)) (fun hn => absurd hn hc)⟩
  · cases ho
theorem snd_if_lt {off : Int} {tgt : Nat} (ht : (pc : Int) + off = (tgt : Int)) (hd : decode μ.2.2.1 pc = .ok (.ifCond .lt off, 3)) : SndOp w l mt μ pc (o_if (pc + 3) tgt (fun x => x < 0) (fun _ => inferInstance)) := snd_step fun C G ls st h r ho => by
  unfold o_if iff_ at ho
  split at ho
  · rename_i x st1
    split at ho
    · rename_i hc
      exact ⟨_, _, _, _, ho, Nat.le_refl _, fun d p e R s m args below meth c n0 Z H locs cells slots lsA hcx hpt hrm hle hlr kk => lv_if_lt hcx.1 hcx.2.1 hd ht (fun _ => (kk H locs cells slots lsA hpt hlr)) (fun hn => absurd hc hn)⟩
    · rename_i hc
      exact ⟨_, _, _, _, ho, Nat.le_refl _, fun d p e R s m args below meth c n0 Z H locs cells slots lsA hcx hpt hrm hle hlr kk => lv_if_lt hcx.1 hcx.2.1 hd ht (fun hn => absurd hn hc) (fun _ => (kk H locs cells slots lsA hpt hlr))⟩
  · cases ho
theorem snd_if_ge {off : Int} {tgt : Nat} (ht : (pc : Int) + off = (tgt : Int)) (hd : decode μ.2.2.1 pc = .ok (.ifCond .ge off, 3)) : SndOp w l mt μ pc (o_if (pc + 3) tgt (fun x => 0 ≤ x) (fun _ => inferInstance)) := snd_step fun C G ls st h r ho => by
  unfold o_if iff_ at ho
  split at ho
  · rename_i x st1
    split at ho
    · rename_i hc
      exact ⟨_, _, _, _, ho, Nat.le_refl _, fun d p e R s m args below meth c n0 Z H locs cells slots lsA hcx hpt hrm hle hlr kk => lv_if_ge hcx.1 hcx.2.1 hd ht (fun _ => (kk H locs cells slots lsA hpt hlr)) (fun hn => absurd hc hn)⟩
    · rename_i hc
      exact ⟨_, _, _, _, ho, Nat.le_refl _, fun d p e R s m args below meth c n0 Z H locs cells slots lsA hcx hpt hrm hle hlr kk => lv_if_ge hcx.1 hcx.2.1 hd ht (fun hn => absurd hn hc) (fun _ => (kk H locs cells slots lsA hpt hlr))⟩
  · cases ho
theorem snd_if_gt {off : Int} {tgt : Nat} (ht : (pc : Int) + off = (tgt : Int)) (hd : decode μ.2.2.1 pc = .ok (.ifCond .gt off, 3)) : SndOp w l mt μ pc (o_if (pc + 3) tgt (fun x => 0 < x) (fun _ => inferInstance)) := snd_step fun C G ls st h r ho => by
  unfold o_if iff_ at ho
  split at ho
  · rename_i x st1
    split at ho
    · rename_i hc
      exact ⟨_, _, _, _, ho, Nat.le_refl _, fun d p e R s m args below meth c n0 Z H locs cells slots lsA hcx hpt hrm hle hlr kk => lv_if_gt hcx.1 hcx.2.1 hd ht (fun _ => (kk H locs cells slots lsA hpt hlr)) (fun hn => absurd hc hn)⟩
    · rename_i hc
      exact ⟨_, _, _, _, ho, Nat.le_refl _, fun d p e R s m args below meth c n0 Z H locs cells slots lsA hcx hpt hrm hle hlr kk => lv_if_gt hcx.1 hcx.2.1 hd ht (fun hn => absurd hn hc) (fun _ => (kk H locs cells slots lsA hpt hlr))⟩
  · cases ho
theorem snd_if_le {off : Int} {tgt : Nat} (ht : (pc : Int) + off = (tgt : Int)) (hd : decode μ.2.2.1 pc = .ok (.ifCond .le off, 3)) : SndOp w l mt μ pc (o_if (pc + 3) tgt (fun x => x ≤ 0) (fun _ => inferInstance)) := snd_step fun C G ls st h r ho => by
  unfold o_if iff_ at ho
  split at ho
  · rename_i x st1
    split at ho
    · rename_i hc
      exact ⟨_, _, _, _, ho, Nat.le_refl _, fun d p e R s m args below meth c n0 Z H locs cells slots lsA hcx hpt hrm hle hlr kk => lv_if_le hcx.1 hcx.2.1 hd ht (fun _ => (kk H locs cells slots lsA hpt hlr)) (fun hn => absurd hc hn)⟩
    · rename_i hc
      exact ⟨_, _, _, _, ho, Nat.le_refl _, fun d p e R s m args below meth c n0 Z H locs cells slots lsA hcx hpt hrm hle hlr kk => lv_if_le hcx.1 hcx.2.1 hd ht (fun hn => absurd hn hc) (fun _ => (kk H locs cells slots lsA hpt hlr))⟩
  · cases ho
theorem snd_icmp_eq {off : Int} {tgt : Nat} (ht : (pc : Int) + off = (tgt : Int)) (hd : decode μ.2.2.1 pc = .ok (.if_icmp .eq off, 3)) : SndOp w l mt μ pc (o_icmp (pc + 3) tgt (fun x y => x = y) (fun _ _ => inferInstance)) := snd_step fun C G ls st h r ho => by
  unfold o_icmp iff_ at ho
  split at ho
  · rename_i y x st1
    split at ho
    · rename_i hc
      exact ⟨_, _, _, _, ho, Nat.le_refl _, fun d p e R s m args below meth c n0 Z H locs cells slots lsA hcx hpt hrm hle hlr kk => lv_icmp_eq hcx.1 hcx.2.1 hd ht (fun _ => (kk H locs cells slots lsA hpt hlr)) (fun hn => absurd hc hn)⟩
    · rename_i hc
      exact ⟨_, _, _, _, ho, Nat.le_refl _, fun d p e R s m args below meth c n0 Z H locs cells slots lsA hcx hpt hrm hle hlr kk => lv_icmp_eq hcx.1 hcx.2.1 hd ht (fun hn => absurd hn hc) (fun _ => (kk H locs cells slots lsA hpt hlr))⟩
  · cases ho
theorem snd_icmp_ne {off : Int} {tgt : Nat} (ht : (pc : Int) + off = (tgt : Int)) (hd : decode μ.2.2.1 pc = .ok (.if_icmp .ne off, 3)) : SndOp w l mt μ pc (o_icmp tgt (pc + 3) (fun x y => x = y) (fun _ _ => inferInstance)) := snd_step fun C G ls st h r ho => by
  unfold o_icmp iff_ at ho
  split at ho
  · rename_i y x st1
    split at ho
    · rename_i hc
      exact ⟨_, _, _, _, ho, Nat.le_refl _, fun d p e R s m args below meth c n0 Z H locs cells slots lsA hcx hpt hrm hle hlr kk => lv_icmp_ne hcx.1 hcx.2.1 hd ht (fun hn => absurd hc hn) (fun _ => (kk H locs cells slots lsA hpt hlr))⟩
    · rename_i hc
      exact ⟨_, _, _, _, ho, Nat.le_refl _, fun d p e R s m args below meth c n0 Z H locs cells slots lsA hcx hpt hrm hle hlr kk => lv_icmp_ne hcx.1 hcx.2.1 hd ht (fun _ => (kk H locs cells slots lsA hpt hlr)) (fun hn => absurd hn hc)⟩
  · cases ho
theorem snd_icmp_lt {off : Int} {tgt : Nat} (ht : (pc : Int) + off = (tgt : Int)) (hd : decode μ.2.2.1 pc = .ok (.if_icmp .lt off, 3)) : SndOp w l mt μ pc (o_icmp (pc + 3) tgt (fun x y => x < y) (fun _ _ => inferInstance)) := snd_step fun C G ls st h r ho => by
  unfold o_icmp iff_ at ho
  split at ho
  · rename_i y x st1
    split at ho
    · rename_i hc
      exact ⟨_, _, _, _, ho, Nat.le_refl _, fun d p e R s m args below meth c n0 Z H locs cells slots lsA hcx hpt hrm hle hlr kk => lv_icmp_lt hcx.1 hcx.2.1 hd ht (fun _ => (kk H locs cells slots lsA hpt hlr)) (fun hn => absurd hc hn)⟩
    · rename_i hc
      exact ⟨_, _, _, _, ho, Nat.le_refl _, fun d p e R s m args below meth c n0 Z H locs cells slots lsA hcx hpt hrm hle hlr kk => lv_icmp_lt hcx.1 hcx.2.1 hd ht (fun hn => absurd hn hc) (fun _ => (kk H locs cells slots lsA hpt hlr))⟩
  · cases ho
theorem snd_icmp_ge {off : Int} {tgt : Nat} (ht : (pc : Int) + off = (tgt : Int)) (hd : decode μ.2.2.1 pc = .ok (.if_icmp .ge off, 3)) : SndOp w l mt μ pc (o_icmp (pc + 3) tgt (fun x y => y ≤ x) (fun _ _ => inferInstance)) := snd_step fun C G ls st h r ho => by
  unfold o_icmp iff_ at ho
  split at ho
  · rename_i y x st1
    split at ho
    · rename_i hc
      exact ⟨_, _, _, _, ho, Nat.le_refl _, fun d p e R s m args below meth c n0 Z H locs cells slots lsA hcx hpt hrm hle hlr kk => lv_icmp_ge hcx.1 hcx.2.1 hd ht (fun _ => (kk H locs cells slots lsA hpt hlr)) (fun hn => absurd hc hn)⟩
    · rename_i hc
      exact ⟨_, _, _, _, ho, Nat.le_refl _, fun d p e R s m args below meth c n0 Z H locs cells slots lsA hcx hpt hrm hle hlr kk => lv_icmp_ge hcx.1 hcx.2.1 hd ht (fun hn => absurd hn hc) (fun _ => (kk H locs cells slots lsA hpt hlr))⟩
  · cases ho
theorem snd_icmp_gt {off : Int} {tgt : Nat} (ht : (pc : Int) + off = (tgt : Int)) (hd : decode μ.2.2.1 pc = .ok (.if_icmp .gt off, 3)) : SndOp w l mt μ pc (o_icmp (pc + 3) tgt (fun x y => y < x) (fun _ _ => inferInstance)) := snd_step fun C G ls st h r ho => by
  unfold o_icmp iff_ at ho
  split at ho
  · rename_i y x st1
    split at ho
    · rename_i hc
      exact ⟨_, _, _, _, ho, Nat.le_refl _, fun d p e R s m args below meth c n0 Z H locs cells slots lsA hcx hpt hrm hle hlr kk => lv_icmp_gt hcx.1 hcx.2.1 hd ht (fun _ => (kk H locs cells slots lsA hpt hlr)) (fun hn => absurd hc hn)⟩
    · rename_i hc
      exact ⟨_, _, _, _, ho, Nat.le_refl _, fun d p e R s m args below meth c n0 Z H locs cells slots lsA hcx hpt hrm hle hlr kk => lv_icmp_gt hcx.1 hcx.2.1 hd ht (fun hn => absurd hn hc) (fun _ => (kk H locs cells slots lsA hpt hlr))⟩
  · cases ho
theorem snd_icmp_le {off : Int} {tgt : Nat} (ht : (pc : Int) + off = (tgt : Int)) (hd : decode μ.2.2.1 pc = .ok (.if_icmp .le off, 3)) : SndOp w l mt μ pc (o_icmp (pc + 3) tgt (fun x y => x ≤ y) (fun _ _ => inferInstance)) := snd_step fun C G ls st h r ho => by
  unfold o_icmp iff_ at ho
  split at ho
  · rename_i y x st1
    split at ho
    · rename_i hc
      exact ⟨_, _, _, _, ho, Nat.le_refl _, fun d p e R s m args below meth c n0 Z H locs cells slots lsA hcx hpt hrm hle hlr kk => lv_icmp_le hcx.1 hcx.2.1 hd ht (fun _ => (kk H locs cells slots lsA hpt hlr)) (fun hn => absurd hc hn)⟩
    · rename_i hc
      exact ⟨_, _, _, _, ho, Nat.le_refl _, fun d p e R s m args below meth c n0 Z H locs cells slots lsA hcx hpt hrm hle hlr kk => lv_icmp_le hcx.1 hcx.2.1 hd ht (fun hn => absurd hn hc) (fun _ => (kk H locs cells slots lsA hpt hlr))⟩
  · cases ho
theorem snd_goto {off : Int} {tgt : Nat} (ht : (pc : Int) + off = (tgt : Int)) (hd : decode μ.2.2.1 pc = .ok (.goto off, 3)) : SndOp w l mt μ pc (o_goto tgt) := snd_step fun C G ls st h r ho => ⟨_, _, _, _, ho, Nat.le_refl _, fun d p e R s m args below meth c n0 Z H locs cells slots lsA hcx hpt hrm hle hlr kk => lv_goto hcx.1 hcx.2.1 hd ht (kk H locs cells slots lsA hpt hlr)⟩
theorem key_ne {U : State} {x y : Nat} (hS : StF w U) (hk : 200000 ≤ x ∧ x < 200025 ∧ 200000 ≤ y ∧ y < 200025) (hc : ¬ x = y) : ¬ sg w x = sg w y := fun q => hc (by
  have h1 := hS.2.2.2.2.2.2.2.2.2.1 (x - 200000) (y - 200000) (by omega) (by omega) (by rw [show 200000 + (x - 200000) = x by omega, show 200000 + (y - 200000) = y by omega]; exact q)
  omega)
theorem snd_acmp_eq {off : Int} {tgt : Nat} (ht : (pc : Int) + off = (tgt : Int)) (hd : decode μ.2.2.1 pc = .ok (.if_acmp .eq off, 3)) : SndOp w l mt μ pc (o_acmpEq (pc + 3) tgt) := snd_step fun C G ls st h r ho => by
  unfold o_acmpEq at ho
  split at ho
  · rename_i y x st1
    by_cases hk : 200000 ≤ x ∧ x < 200025 ∧ 200000 ≤ y ∧ y < 200025
    · rw [if_pos hk] at ho
      by_cases hc : x = y
      · rw [if_pos hc] at ho
        exact ⟨_, _, _, _, ho, Nat.le_refl _, fun d p e R s m args below meth c n0 Z H locs cells slots lsA hcx hpt hrm hle hlr kk => lv_acmp_eq (rx := some (sg w x)) (ry := some (sg w y)) hcx.1 hcx.2.1 hd ht (fun _ => (kk H locs cells slots lsA hpt hlr)) (fun hn => absurd (by rw [hc]) hn)⟩
      · rw [if_neg hc] at ho
        refine ⟨_, _, _, _, ho, Nat.le_refl _, fun d p e R s m args below meth c n0 Z H locs cells slots lsA hcx hpt hrm hle hlr kk => ?_⟩
        have hne : ¬ (some (sg w x) = some (sg w y)) := fun q => key_ne hcx.2.2.2.2.2.1 hk hc (Option.some.inj q)
        exact lv_acmp_eq (rx := some (sg w x)) (ry := some (sg w y)) hcx.1 hcx.2.1 hd ht (fun hn => absurd hn hne) (fun _ => (kk H locs cells slots lsA hpt hlr))
    · rw [if_neg hk] at ho
      cases ho
  · cases ho
theorem snd_acmp_ne {off : Int} {tgt : Nat} (ht : (pc : Int) + off = (tgt : Int)) (hd : decode μ.2.2.1 pc = .ok (.if_acmp .ne off, 3)) : SndOp w l mt μ pc (o_acmpNe (pc + 3) tgt) := snd_step fun C G ls st h r ho => by
  unfold o_acmpNe at ho
  split at ho
  · rename_i y x st1
    by_cases hk : 200000 ≤ x ∧ x < 200025 ∧ 200000 ≤ y ∧ y < 200025
    · rw [if_pos hk] at ho
      by_cases hc : x = y
      · rw [if_pos hc] at ho
        exact ⟨_, _, _, _, ho, Nat.le_refl _, fun d p e R s m args below meth c n0 Z H locs cells slots lsA hcx hpt hrm hle hlr kk => lv_acmp_ne (rx := some (sg w x)) (ry := some (sg w y)) hcx.1 hcx.2.1 hd ht (fun hn => absurd (by rw [hc]) hn) (fun _ => (kk H locs cells slots lsA hpt hlr))⟩
      · rw [if_neg hc] at ho
        refine ⟨_, _, _, _, ho, Nat.le_refl _, fun d p e R s m args below meth c n0 Z H locs cells slots lsA hcx hpt hrm hle hlr kk => ?_⟩
        have hne : ¬ (some (sg w x) = some (sg w y)) := fun q => key_ne hcx.2.2.2.2.2.1 hk hc (Option.some.inj q)
        exact lv_acmp_ne (rx := some (sg w x)) (ry := some (sg w y)) hcx.1 hcx.2.1 hd ht (fun _ => (kk H locs cells slots lsA hpt hlr)) (fun hn => absurd hn hne)
    · rw [if_neg hk] at ho
      cases ho
  · cases ho
end SND
