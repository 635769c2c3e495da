/-! ===== cells of the world ===== -/
theorem W_size {p : Program} {l : Launch} {e : Env} {R : Room} {s : State} {m : MethodId} {args : Array Value} {below : List Frame} {meth : Method} {c : Code} {H : Heap} {locs : List Loc} {cells slots : Nat} {Q : State → Prop} {g : JFrame} (k : H.size ≤ s.heap.size + cells → W p l e R s m args below meth c H locs cells slots Q g) : W p l e R s m args below meth c H locs cells slots Q g := fun T hT X => k (by rw [← hT]; exact X.heapSize) T hT X
theorem ws_get {w : WD} {h : AHP} {a : Nat} (h0 : 0 < a) (h1 : a ≤ h.2.2.2) (h2 : a ≤ NT) : (wsW w h)[a - 1]? = some (w.1 + (a - 1), en w h a) := by
  unfold wsW
  rw [List.getElem?_map, List.getElem?_range (by omega)]
  show some (w.1 + (a - 1), en w h (a - 1 + 1)) = _
  rw [Nat.sub_add_cancel h0]
theorem sg_dyn {w : WD} {a : Nat} (h2 : a ≤ NT) : sg w a = w.1 + (a - 1) := if_pos (show a < 100000 by have h3 : a ≤ 201 := h2; omega)
theorem ws_at {w : WD} {h : AHP} {a c : Nat} (ho : okc h a c) : (wsW w h)[a - 1]? = some (sg w a, en w h a) := by
  rw [sg_dyn ho.2.2.2]
  exact ws_get ho.2.1 ho.2.2.1 ho.2.2.2
theorem wsW_len {w : WD} {h : AHP} : (wsW w h).length = min h.2.2.2 NT := by simp [wsW]
theorem wsW_D {w : WD} {h : AHP} : va_D (wA w) (wsW w h) := by
  have key : ∀ (i : Nat) (p : Nat × va_E), (wsW w h)[i]? = some p → p.1 = w.1 + i := by
    intro i p hp
    have hl := (List.getElem?_eq_some_iff.mp hp).1
    rw [wsW_len] at hl
    unfold wsW at hp
    rw [List.getElem?_map, List.getElem?_range hl] at hp
    cases hp
    rfl
  refine ⟨fun i j p q hp hq e => ?_, fun i p hp => ?_⟩
  · have h1 := key i p hp
    have h2 := key j q hq
    omega
  · show w.1 ≤ p.1
    have := key i p hp
    omega
theorem wsW_set {w : WD} {h h' : AHP} {a : Nat} {x : va_E} (hN : h'.2.2.2 = h.2.2.2) (ho : ∀ b, b ≠ a → en w h' b = en w h b) (h0 : 0 < a) (hx : en w h' a = x) (h2 : a ≤ NT) : (wsW w h).set (a - 1) (sg w a, x) = wsW w h' := by
  subst hx
  rw [sg_dyn h2]
  apply List.ext_getElem?
  intro i
  rw [List.getElem?_set]
  by_cases hi : i < min h.2.2.2 NT
  · have e1 : (wsW w h)[i]? = some (w.1 + i, en w h (i + 1)) := by unfold wsW; rw [List.getElem?_map, List.getElem?_range hi]; rfl
    have e2 : (wsW w h')[i]? = some (w.1 + i, en w h' (i + 1)) := by unfold wsW; rw [hN, List.getElem?_map, List.getElem?_range hi]; rfl
    rw [e1, e2]
    by_cases hai : a - 1 = i
    · rw [if_pos hai, if_pos (by rw [wsW_len]; omega)]
      subst hai
      rw [Nat.sub_add_cancel h0]
    · rw [if_neg hai, ho (i + 1) (by omega)]
  · have e1 : (wsW w h)[i]? = none := List.getElem?_eq_none (by rw [wsW_len]; omega)
    have e2 : (wsW w h')[i]? = none := List.getElem?_eq_none (by rw [wsW_len, hN]; omega)
    rw [e1, e2]
    by_cases hai : a - 1 = i
    · rw [if_pos hai, if_neg (by rw [wsW_len]; omega)]
    · rw [if_neg hai]
theorem en_obj {w : WD} {h : AHP} {a c : Nat} (hc : (lay a).1 = c) (h12 : c < 12) : en w h a = .inr (c, (List.range (lay a).2).map (fv w h a c)) := by
  unfold en; rw [hc, if_pos h12]
theorem en_int {w : WD} {h : AHP} {a c : Nat} (hc : (lay a).1 = c) (h2 : c = 20 ∨ c = 22) : en w h a = .inl (w.2.2.2.2.1 c, (lay a).2, .inl (h.1 a)) := by
  unfold en; rw [hc]; rcases h2 with rfl | rfl <;> rfl
theorem en_long {w : WD} {h : AHP} {a : Nat} (hc : (lay a).1 = 21) : en w h a = .inl (w.2.2.2.2.1 21, (lay a).2, .inr (.inl (h.2.1 a))) := by
  unfold en; rw [hc]; rfl
theorem en_ref {w : WD} {h : AHP} {a c : Nat} (hc : (lay a).1 = c) (h2 : c = 23 ∨ c = 24) : en w h a = .inl (w.2.2.2.2.1 c, (lay a).2, .inr (.inr (.inr (.inr (fun j => rfo w (h.2.2.1 a j)))))) := by
  unfold en; rw [hc]; rcases h2 with rfl | rfl <;> rfl
theorem en_congr {w : WD} {h h' : AHP} {b : Nat} (h1 : h'.1 b = h.1 b) (h2 : h'.2.1 b = h.2.1 b) (h3 : h'.2.2.1 b = h.2.2.1 b) : en w h' b = en w h b := by
  have e : ∀ c, fv w h' b c = fv w h b c := fun c => by funext k; unfold fv; rw [h1, h2, h3]
  unfold en; rw [h1, h2, h3, e]
theorem up2_ne {α : Type} {f : Nat → Nat → α} {a i b : Nat} {v : α} (h : b ≠ a) : up2 f a i v b = f b := by funext j; unfold up2; rw [if_neg h]
theorem up2_eq {α : Type} {f : Nat → Nat → α} {a i : Nat} {v : α} : up2 f a i v a = fun j => if j = i then v else f a j := by funext j; unfold up2; rw [if_pos rfl]
theorem en_sI {w : WD} {h : AHP} {a i b : Nat} {v : Int32} (hb : b ≠ a) : en w (sI h a i v) b = en w h b := en_congr (up2_ne hb) rfl rfl
theorem en_sJ {w : WD} {h : AHP} {a i b : Nat} {v : Int64} (hb : b ≠ a) : en w (sJ h a i v) b = en w h b := en_congr rfl (up2_ne hb) rfl
theorem en_sR {w : WD} {h : AHP} {a i b : Nat} {v : Nat} (hb : b ≠ a) : en w (sR h a i v) b = en w h b := en_congr rfl rfl (up2_ne hb)
theorem Scr.to {w : WD} {h h' : AHP} (hs : Scr w h) (h1 : h'.1 300000 = h.1 300000) (h2 : h'.2.2.1 300000 = h.2.2.1 300000) : Scr w h' := by
  unfold Scr; rw [h1, h2]; exact hs
/-- a field's value, set -/
theorem fvs_set {w : WD} {h h' : AHP} {a c k n : Nat} {v : Value} (hk : fv w h' a c k = v) (ho : ∀ j, j ≠ k → fv w h' a c j = fv w h a c j) : ((List.range n).map (fv w h a c)).set k v = (List.range n).map (fv w h' a c) := by
  apply List.ext_getElem?
  intro i
  rw [List.getElem?_set]
  by_cases hi : i < n
  · rw [List.getElem?_map, List.getElem?_map, List.getElem?_range hi]
    by_cases hki : k = i
    · subst hki
      rw [if_pos rfl, if_pos (by simpa using hi), ← hk]; rfl
    · rw [if_neg hki]
      show some _ = some _
      rw [ho i (fun e => hki e.symm)]
  · have e1 : ((List.range n).map (fv w h a c))[i]? = none := List.getElem?_eq_none (by simpa using Nat.not_lt.mp hi)
    have e2 : ((List.range n).map (fv w h' a c))[i]? = none := List.getElem?_eq_none (by simpa using Nat.not_lt.mp hi)
    rw [e1, e2]
    by_cases hki : k = i
    · rw [if_pos hki, if_neg (by simpa [← hki] using hi)]
    · rw [if_neg hki]
theorem Pt.put {w : WD} {h h' : AHP} {s : State} {n0 : Nat} {H H1 : Heap} {locs locs1 : List Loc} {cells slots : Nat} (hpt : Pt w h s n0 H locs cells slots) (hP : va_P (wD w) vwCl (wsW w h') H1) (hS : va_S (wA w) H H1 locs1) (hN : h'.2.2.2 = h.2.2.2) (hscr : Scr w h') : Pt w h' s n0 H1 locs1 cells slots := by
  obtain ⟨⟨a1, a2, a3, a4, a5⟩, ⟨b1, b2, b3⟩, c1, c2, c3⟩ := hpt
  refine ⟨⟨by rw [hN]; exact Nat.le_trans a1 hS.1, hP, fun q hq => ?_, by rw [hN]; exact a4, hscr⟩, ⟨Nat.le_trans b1 hS.1, fun q h1 h2 => ?_, hS.2.2⟩, by rw [hN]; exact c1, by rw [hN]; exact c2, c3⟩
  · rw [hS.2.1 q (by omega) (fun z => Nat.not_le.mpr hq z)]; exact a3 q hq
  · rw [hS.2.1 q (Nat.lt_of_lt_of_le h1 b1) h2]; exact b2 q h1 h2
theorem Pt.S0 {w : WD} {h : AHP} {s : State} {n0 : Nat} {H : Heap} {locs : List Loc} {cells slots : Nat} (hpt : Pt w h s n0 H locs cells slots) : va_S (wA w) H H locs := ⟨Nat.le_refl _, fun _ _ _ => rfl, hpt.2.1.2.2⟩
section SND4
variable {w : WD} {l : Launch} {mt : Nat → MR} {μ : MR} {pc : Nat}
/-- what a class of the world is: its row in vwCl, its words among WSg, its types and names, and how many fields -/
def ClsOK (c : Nat) (C : String) (T : u_T) (N : Nat) (ty : Nat → FieldType) : Prop := vwCl[c]? = some (C, T, N) ∧ (∀ x ∈ u_ws C T N, x ∈ WSg) ∧ (∀ k, k < N → parseFieldDescriptor (T k).2.2.1 = some (ty k)) ∧ (∀ a, a < N → ∀ b, b < N → a ≠ b → (T a).2.1 ≠ (T b).2.1) ∧ c < 12 ∧ ∀ a, (lay a).1 = c → (lay a).2 = N
theorem fvs_get {w : WD} {h : AHP} {a c k n : Nat} (hk : k < n) : ((List.range n).map (fv w h a c))[k]? = some (fv w h a c k) := by rw [List.getElem?_map, List.getElem?_range hk]; rfl
theorem snd_getV {c k idx : Nat} {C : String} {T : u_T} {N : Nat} {ty : Nat → FieldType} (hc : ClsOK c C T N ty) (hk : k < N) (hw : Cond.fieldLink μ.1 idx (T k).1 (T k).2.1 (T k).2.2.1 ∈ WSg) (hd : decode μ.2.2.1 pc = .ok (.getfield idx, 3)) {r : ARS} {ls : ALS} {st : List Value} {h : AHP} {a : Nat} {v : Value} (ho : okc h a c) (hv : fv w h a c k = vv w v) : StepW w l μ r pc ls (.ref a :: st) h (pc + 3) ls (v :: st) h := by
  intro d p e R s m args below meth c0 n0 Z H locs cells slots lsA hcx hpt hrm hle hlr kk
  have he := ws_at (w := w) ho
  rw [en_obj ho.1 hc.2.2.2.2.1, hc.2.2.2.2.2 a ho.1] at he
  exact va_get hcx.1 hcx.2.1 hcx.2.2.2.2.1 hc.2.1 hcx.2.2.2.1 hcx.2.2.2.2.2.1.1 hpt.1.2.1 (a - 1) he hc.1 k hk (hcx.2.2.2.2.1 _ hw) (fun _ h => h) (fvs_get hk) hd (by rw [hv]; exact kk H locs cells slots lsA hpt hlr)
theorem snd_getI {c k idx : Nat} {C : String} {T : u_T} {N : Nat} {ty : Nat → FieldType} (hc : ClsOK c C T N ty) (hk : k < N) (hf : fk c k = 0) (hw : Cond.fieldLink μ.1 idx (T k).1 (T k).2.1 (T k).2.2.1 ∈ WSg) (hd : decode μ.2.2.1 pc = .ok (.getfield idx, 3)) : SndOp w l mt μ pc (o_getI (pc + 3) c k) := snd_step fun C0 G ls st h r ho => by
  unfold o_getI iff_ at ho
  split at ho
  · split at ho
    · rename_i hok
      exact ⟨_, _, _, _, ho, Nat.le_refl _, snd_getV hc hk hw hd hok (by unfold fv; rw [hf]; rfl)⟩
    · cases ho
  · cases ho
theorem snd_getJ {c k idx : Nat} {C : String} {T : u_T} {N : Nat} {ty : Nat → FieldType} (hc : ClsOK c C T N ty) (hk : k < N) (hf : fk c k = 1) (hw : Cond.fieldLink μ.1 idx (T k).1 (T k).2.1 (T k).2.2.1 ∈ WSg) (hd : decode μ.2.2.1 pc = .ok (.getfield idx, 3)) : SndOp w l mt μ pc (o_getJ (pc + 3) c k) := snd_step fun C0 G ls st h r ho => by
  unfold o_getJ iff_ at ho
  split at ho
  · split at ho
    · rename_i hok
      exact ⟨_, _, _, _, ho, Nat.le_refl _, snd_getV hc hk hw hd hok (by unfold fv; rw [hf]; rfl)⟩
    · cases ho
  · cases ho
theorem snd_getR {c k idx : Nat} {C : String} {T : u_T} {N : Nat} {ty : Nat → FieldType} (hc : ClsOK c C T N ty) (hk : k < N) (hf : fk c k = 2) (hw : Cond.fieldLink μ.1 idx (T k).1 (T k).2.1 (T k).2.2.1 ∈ WSg) (hd : decode μ.2.2.1 pc = .ok (.getfield idx, 3)) : SndOp w l mt μ pc (o_getR (pc + 3) c k) := snd_step fun C0 G ls st h r ho => by
  unfold o_getR iff_ at ho
  split at ho
  · rename_i a st1
    split at ho
    · rename_i hok
      by_cases hz : h.2.2.1 a k = 0
      · rw [if_pos hz] at ho; cases ho
      · rw [if_neg hz] at ho
        exact ⟨_, _, _, _, ho, Nat.le_refl _, snd_getV hc hk hw hd hok (by unfold fv rfo; rw [hf, if_neg hz]; rfl)⟩
    · cases ho
  · cases ho
/-- a field is set: h' is the heap then -/
theorem snd_putV {c k idx : Nat} {C : String} {T : u_T} {N : Nat} {ty : Nat → FieldType} (hc : ClsOK c C T N ty) (hk : k < N) (hfin : (T k).2.2.2 = false ∨ ((T k).2.2.2 = true ∧ μ.2.1.name = "<init>" ∧ (T k).1 = μ.1)) (hw : Cond.fieldLink μ.1 idx (T k).1 (T k).2.1 (T k).2.2.1 ∈ WSg) (hd : decode μ.2.2.1 pc = .ok (.putfield idx, 3)) {r : ARS} {ls : ALS} {st : List Value} {h h' : AHP} {a : Nat} {v : Value} (ho : okc h a c) (hN : h'.2.2.2 = h.2.2.2) (hen : ∀ b, b ≠ a → en w h' b = en w h b) (hv : fv w h' a c k = vv w v) (hoth : ∀ j, j ≠ k → fv w h' a c j = fv w h a c j) (hscr : Scr w h → Scr w h') (hn : narrow (ty k) (vv w v) = vv w v) (hfit : fits (ty k) (vv w v) = true) : StepW w l μ r pc ls (v :: .ref a :: st) h (pc + 3) ls st h' := by
  intro d p e R s m args below meth c0 n0 Z H locs cells slots lsA hcx hpt hrm hle hlr kk
  have he := ws_at (w := w) ho
  rw [en_obj ho.1 hc.2.2.2.2.1, hc.2.2.2.2.2 a ho.1] at he
  have hset : (wsW w h).set (a - 1) (sg w a, .inr (c, ((List.range N).map (fv w h a c)).set k (vv w v))) = wsW w h' := wsW_set hN hen ho.2.1 (by rw [en_obj ho.1 hc.2.2.2.2.1, hc.2.2.2.2.2 a ho.1, fvs_set hv hoth]) ho.2.2.2
  have hl : k < ((List.range N).map (fv w h a c)).length := by simpa using hk
  rcases hfin with hf | ⟨hf, hi, hdecl⟩
  · exact va_put hcx.1 hcx.2.1 hcx.2.2.2.2.1 hc.2.1 ty hc.2.2.1 hc.2.2.2.1 hcx.2.2.2.1 hcx.2.2.2.2.2.1.1 hpt.1.2.1 wsW_D hpt.S0 (a - 1) he hc.1 k hk (hcx.2.2.2.2.1 _ hw) (fun _ h => h) hf (hc.2.2.1 k hk) hn hfit hl hd (fun H1 locs1 k1 k2 k3 => by
      rw [hset] at k1
      exact kk H1 locs1 cells slots lsA (hpt.put k1 k3 hN (hscr hpt.1.2.2.2.2)) hlr)
  · exact va_putF hcx.1 hcx.2.1 hcx.2.2.2.2.1 hc.2.1 ty hc.2.2.1 hc.2.2.2.1 hcx.2.2.2.1 hcx.2.2.2.2.2.1.1 hpt.1.2.1 wsW_D hpt.S0 (a - 1) he hc.1 k hk (hcx.2.2.2.2.1 _ hw) (fun _ h => h) hf (hcx.2.2.2.2.2.2.2.2.2.2.2.trans hi) hdecl (hc.2.2.1 k hk) hn hfit hl hd (fun H1 locs1 k1 k2 k3 => by
      rw [hset] at k1
      exact kk H1 locs1 cells slots lsA (hpt.put k1 k3 hN (hscr hpt.1.2.2.2.2)) hlr)
theorem NT_lt {a : Nat} (h : a ≤ NT) : ¬ 300000 = a := fun e => by have h3 : a ≤ 201 := h; omega
theorem scr_sI {h : AHP} {a i : Nat} {v : Int32} (ha : a ≤ NT) (hs : Scr w h) : Scr w (sI h a i v) := hs.to (up2_ne (NT_lt ha)) rfl
theorem scr_sJ {h : AHP} {a i : Nat} {v : Int64} (hs : Scr w h) : Scr w (sJ h a i v) := hs.to rfl rfl
theorem scr_sR {h : AHP} {a i : Nat} {v : Nat} (ha : a ≤ NT) (hs : Scr w h) : Scr w (sR h a i v) := hs.to rfl (up2_ne (NT_lt ha))
theorem fv_sI {h : AHP} {a c k j : Nat} {v : Int32} (hj : j ≠ k) : fv w (sI h a k v) a c j = fv w h a c j := by
  unfold fv sI; dsimp only; rw [up2_eq]; dsimp only; rw [if_neg hj]
theorem fv_sJ {h : AHP} {a c k j : Nat} {v : Int64} (hj : j ≠ k) : fv w (sJ h a k v) a c j = fv w h a c j := by
  unfold fv sJ; dsimp only; rw [up2_eq]; dsimp only; rw [if_neg hj]
theorem fv_sR {h : AHP} {a c k j : Nat} {v : Nat} (hj : j ≠ k) : fv w (sR h a k v) a c j = fv w h a c j := by
  unfold fv sR; dsimp only; rw [up2_eq]; dsimp only; rw [if_neg hj]
theorem snd_putI {c k idx : Nat} {C : String} {T : u_T} {N : Nat} {ty : Nat → FieldType} (hc : ClsOK c C T N ty) (hk : k < N) (hf : fk c k = 0) (hty : ty k = .int) (hfin : (T k).2.2.2 = false ∨ ((T k).2.2.2 = true ∧ μ.2.1.name = "<init>" ∧ (T k).1 = μ.1)) (hw : Cond.fieldLink μ.1 idx (T k).1 (T k).2.1 (T k).2.2.1 ∈ WSg) (hd : decode μ.2.2.1 pc = .ok (.putfield idx, 3)) : SndOp w l mt μ pc (o_putI (pc + 3) c k) := snd_step fun C0 G ls st h r ho => by
  unfold o_putI iff_ at ho
  split at ho
  · rename_i x a st1
    split at ho
    · rename_i hok
      exact ⟨_, _, _, _, ho, Nat.le_refl _, snd_putV hc hk hfin hw hd hok rfl (fun b hb => en_sI hb) (by unfold fv sI; dsimp only; rw [hf, up2_eq]; simp [vv]) (fun j hj => fv_sI hj) (scr_sI hok.2.2.2) (by rw [hty]; rfl) (by rw [hty]; rfl)⟩
    · cases ho
  · cases ho
theorem snd_putZ {c k idx : Nat} {C : String} {T : u_T} {N : Nat} {ty : Nat → FieldType} (hc : ClsOK c C T N ty) (hk : k < N) (hf : fk c k = 0) (hty : ty k = .boolean) (hfin : (T k).2.2.2 = false ∨ ((T k).2.2.2 = true ∧ μ.2.1.name = "<init>" ∧ (T k).1 = μ.1)) (hw : Cond.fieldLink μ.1 idx (T k).1 (T k).2.1 (T k).2.2.1 ∈ WSg) (hd : decode μ.2.2.1 pc = .ok (.putfield idx, 3)) : SndOp w l mt μ pc (o_putZ (pc + 3) c k) := snd_step fun C0 G ls st h r ho => by
  unfold o_putZ iff_ at ho
  split at ho
  · rename_i x a st1
    split at ho
    · rename_i hok
      by_cases hx : x = 0 ∨ x = 1
      · rw [if_pos hx] at ho
        exact ⟨_, _, _, _, ho, Nat.le_refl _, snd_putV hc hk hfin hw hd hok rfl (fun b hb => en_sI hb) (by unfold fv sI; dsimp only; rw [hf, up2_eq]; simp [vv]) (fun j hj => fv_sI hj) (scr_sI hok.2.2.2) (by rw [hty]; rcases hx with rfl | rfl <;> rfl) (by rw [hty]; rcases hx with rfl | rfl <;> rfl)⟩
      · rw [if_neg hx] at ho; cases ho
    · cases ho
  · cases ho
theorem snd_putJ {c k idx : Nat} {C : String} {T : u_T} {N : Nat} {ty : Nat → FieldType} (hc : ClsOK c C T N ty) (hk : k < N) (hf : fk c k = 1) (hty : ty k = .long) (hfin : (T k).2.2.2 = false ∨ ((T k).2.2.2 = true ∧ μ.2.1.name = "<init>" ∧ (T k).1 = μ.1)) (hw : Cond.fieldLink μ.1 idx (T k).1 (T k).2.1 (T k).2.2.1 ∈ WSg) (hd : decode μ.2.2.1 pc = .ok (.putfield idx, 3)) : SndOp w l mt μ pc (o_putJ (pc + 3) c k) := snd_step fun C0 G ls st h r ho => by
  unfold o_putJ iff_ at ho
  split at ho
  · rename_i x a st1
    split at ho
    · rename_i hok
      exact ⟨_, _, _, _, ho, Nat.le_refl _, snd_putV hc hk hfin hw hd hok rfl (fun b hb => en_sJ hb) (by unfold fv sJ; dsimp only; rw [hf, up2_eq]; simp [vv]) (fun j hj => fv_sJ hj) scr_sJ (by rw [hty]; rfl) (by rw [hty]; rfl)⟩
    · cases ho
  · cases ho
theorem snd_putR {c k idx : Nat} {C : String} {T : u_T} {N : Nat} {ty : Nat → FieldType} (hc : ClsOK c C T N ty) (hk : k < N) (hf : fk c k = 2) (hty : (∃ n, ty k = .object n) ∨ ∃ t, ty k = .array t) (hfin : (T k).2.2.2 = false ∨ ((T k).2.2.2 = true ∧ μ.2.1.name = "<init>" ∧ (T k).1 = μ.1)) (hw : Cond.fieldLink μ.1 idx (T k).1 (T k).2.1 (T k).2.2.1 ∈ WSg) (hd : decode μ.2.2.1 pc = .ok (.putfield idx, 3)) : SndOp w l mt μ pc (o_putR (pc + 3) c k) := snd_step fun C0 G ls st h r ho => by
  unfold o_putR iff_ at ho
  split at ho
  · rename_i x a st1
    split at ho
    · rename_i hok
      by_cases hx : x = 0
      · rw [if_pos hx] at ho; cases ho
      · rw [if_neg hx] at ho
        exact ⟨_, _, _, _, ho, Nat.le_refl _, snd_putV hc hk hfin hw hd hok rfl (fun b hb => en_sR hb) (by simp [fv, sR, rfo, hf, up2, hx, vv, va_rf]) (fun j hj => fv_sR hj) (scr_sR hok.2.2.2) (by rcases hty with ⟨n, e⟩ | ⟨n, e⟩ <;> rw [e] <;> rfl) (by rcases hty with ⟨n, e⟩ | ⟨n, e⟩ <;> rw [e] <;> rfl)⟩
    · cases ho
  · cases ho
end SND4
