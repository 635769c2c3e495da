section SND8
variable {w : WD} {l : Launch} {mt : Nat → MR} {μ : MR} {pc : Nat}
/-! ===== calls ===== -/
theorem am_after {p : Program} {e : Env} {R : Room} {s : State} {m : MethodId} {args : Array Value} {below : List Frame} {meth : Method} {c : Code} {H : Heap} {locs : List Loc} {cells slots : Nat} {Z : State → Prop} {n0 : Nat} {lsA : Array Slot} {st0 rest : List Value} {a : Array Value} {h : AHP} {r1 : ARS} (hpt : Pt w h s n0 H locs cells slots) (hle : h.2.2.2 ≤ r1.2.2.2.2)
    (hr : va_Run p l e R s m args below meth c H locs cells slots (r1.2.2.2.2 - h.2.2.2) (sl r1.2.2.2.2 - sl h.2.2.2) (F0 m pc lsA st0) rest (QcM w r1 a) (wA w))
    (kk : ∀ H1 locs1, Pt w r1.2 s n0 H1 locs1 (cells + (r1.2.2.2.2 - h.2.2.2)) (slots + (sl r1.2.2.2.2 - sl h.2.2.2)) → W p l e R s m args below meth c H1 locs1 (cells + (r1.2.2.2.2 - h.2.2.2)) (slots + (sl r1.2.2.2.2 - sl h.2.2.2)) Z (F0 m (pc + 3) lsA ((r1.1.map (vv w)).toList ++ rest))) : W p l e R s m args below meth c H locs cells slots Z (F0 m pc lsA st0) := by
  intro T hT X
  obtain ⟨v, st₀, t, T', L, h0, X', hL, e1, e2, ⟨hv, hH, hz, hk⟩, st⟩ := hr T hT X
  cases hv
  rw [h0] at hz hk
  have hsm := sl_mono hle
  obtain ⟨⟨a1, a2, a3, a4, a5⟩, ⟨b1, b2, b3⟩, c1, c2, c3⟩ := hpt
  obtain ⟨t2, x1, x2⟩ := kk T'.heap (locs ++ L) ⟨by rw [e1]; exact hH, ⟨by rw [e1]; exact Nat.le_trans b1 hz, fun q h1 h2 => by rw [e1, hk q (Nat.lt_of_lt_of_le h1 b1) h2]; exact b2 q h1 h2, fun q hq => by
    rcases List.mem_append.mp hq with g | g
    · exact b3 q g
    · exact hL q g⟩, by omega, by omega, c3⟩ T' rfl X'
  exact ⟨t2, st t2 x1, x2⟩
theorem blind_PcM {as : List Value} {h : AHP} : FrameBlind (PcM w as h) := by
  intro a U g mk q
  obtain ⟨h1, h2, h3, h4⟩ := q
  exact ⟨h1, StF.same (u := U) (U := U.calling g mk a) (show U.vm = (U.calling g mk a).vm from rfl) h2, h3, h4⟩
theorem pc_PcM {as : List Value} {h : AHP} {s : State} {H : Heap} (hS : StF w s) (hH : Hold w h H) (hz : H.size = w.1 + h.2.2.2) : ∀ U : State, U.heap = H → s.WarmedH U.vm → PcM w as h (as.map (vv w)).toArray U := fun U hU hW => ⟨rfl, hS.moved hW, by rw [hU]; exact hH, by rw [hU]; exact hz⟩
theorem good_l {L : List Cond} (h : ∀ x ∈ L, x ∈ WSg) : GoodIn WSg L := fun x hx => WSg_good x (h x hx)
/-- what a callee must be -/
def CalOK (μ' : MR) (n : Nat) : Prop := Cond.code μ'.2.1 μ'.2.2.1 μ'.2.2.2.1 μ'.2.2.2.2 ∈ WSg ∧ Cond.initialized μ'.2.1.cls ∈ WSg ∧ μ'.2.2.2.1 ≤ 41 ∧ (μ'.2.1.cls ≠ "java/lang/invoke/MethodHandle" ∧ μ'.2.1.cls ≠ "java/lang/invoke/VarHandle" ∧ (parseMethodDescriptor μ'.2.1.desc).map (fun d => d.parameters.length) = some n)
theorem ws_all {μ' : MR} {n : Nat} (h : CalOK μ' n) : ∀ x ∈ wsM μ', x ∈ WSg := fun x hx => (List.mem_cons.mp hx).elim (fun e => e ▸ h.1) id
theorem cal_room {h : AHP} {r r1 : ARS} {R : Room} {s : State} {n0 : Nat} {H : Heap} {locs : List Loc} {cells slots : Nat} (hpt : Pt w h s n0 H locs cells slots) (hrm : Rmm R r n0) (h1 : h.2.2.2 ≤ r1.2.2.2.2) (h2 : r1.2.2.2.2 ≤ r.2.2.2.2) : cells + (r1.2.2.2.2 - h.2.2.2) ≤ R.cells ∧ slots + (sl r1.2.2.2.2 - sl h.2.2.2) ≤ R.slots := by
  have a1 := hpt.2.2.1
  have a2 := hpt.2.2.2.1
  have a3 := hrm.1
  have a4 := hrm.2
  have a5 := sl_mono h1
  have a6 := sl_mono h2
  omega
theorem snd_callS {k j idx : Nat} (hm : CalOK (mt k) j) (hw : Cond.methodLink μ.1 idx (mt k).2.1 ∈ WSg) (hw2 : Cond.static (mt k).2.1 ∈ WSg) (hd : decode μ.2.2.1 pc = .ok (.invokestatic idx, 3)) : SndOp w l mt μ pc (o_callS (pc + 3) k j) := by
  intro d C G r ls st h hC ho hG
  unfold o_callS at ho
  by_cases hi : (st.take j).length = j ∧ ((st.drop j).map fun v => v.category).sum ≤ 8
  · rw [if_pos hi] at ho
    cases hcr : C k (st.take j).reverse h with
    | none => rw [hcr] at ho; cases ho
    | some r1 =>
      rw [hcr] at ho
      obtain ⟨d', hdd, hle, hM⟩ := hC _ _ _ _ hcr
      obtain ⟨g1, g2⟩ := hG _ _ _ _ ho
      refine ⟨Nat.le_trans hle g1, fun p e R s m args below meth c n0 Z H locs cells slots lsA hcx hret hpt hrm hlr => W_size fun hz => ?_⟩
      have hR := hcx.2.2.2.2.2.2.2.2.1
      have hst : st.map (vv w) = ((st.take j).reverse.map (vv w)).reverse ++ (st.drop j).map (vv w) := by
        rw [← List.map_reverse, List.reverse_reverse, ← List.map_append, List.take_append_drop]
      refine am_after hpt hle (va_runS (As := (st.take j).reverse.map (vv w)) (rest := (st.drop j).map (vv w)) (n := j) (bytes := (mt k).2.2.1) (maxL := (mt k).2.2.2.1) (ret := (mt k).2.2.2.2) ⟨hcx.1, hcx.2.1, hcx.2.2.1, hcx.2.2.2.1, hcx.2.2.2.2.1⟩ hM ⟨callB_of j hcx.2.2.2.2.1 (good_l (ws_all hm)) rfl rfl rfl (hcx.2.2.2.2.1 _ hm.2.1) (hcx.2.2.2.2.1 _ hw) hm.2.2.2 ⟨by show d' + 1 + 1 ≤ _; omega, by show 8 + (_ + 11) + 60 * (d' + 1) ≤ _; have := hm.2.2.1; omega⟩, hcx.2.2.2.2.1 _ hw2⟩ ⟨blind_PcM, pc_PcM hcx.2.2.2.2.2.1 hpt.1 (hpt.size hz)⟩ rfl (by rw [List.length_map, List.length_reverse]; exact hi.1) hlr.1 hst (lv_room (by rw [cat_map]; exact hi.2)) hd (cal_room hpt hrm hle g1)) (fun H1 locs1 hp1 => ?_)
      have k2 := g2 p e R s m args below meth c n0 Z H1 locs1 _ _ lsA hcx hret hp1 hrm hlr
      rw [List.map_append, show r1.1.toList.map (vv w) = (r1.1.map (vv w)).toList by cases r1.1 <;> rfl] at k2
      exact k2
  · rw [if_neg hi] at ho; cases ho
theorem snd_callSN {k j idx : Nat} (hm : CalOK (mt k) j) (hw : (μ.1, idx, (mt k).2.1, RX11) ∈ nestM) (hw2 : Cond.static (mt k).2.1 ∈ WSg) (hd : decode μ.2.2.1 pc = .ok (.invokestatic idx, 3)) : SndOp w l mt μ pc (o_callS (pc + 3) k j) := by
  intro d C G r ls st h hC ho hG
  unfold o_callS at ho
  by_cases hi : (st.take j).length = j ∧ ((st.drop j).map fun v => v.category).sum ≤ 8
  · rw [if_pos hi] at ho
    cases hcr : C k (st.take j).reverse h with
    | none => rw [hcr] at ho; cases ho
    | some r1 =>
      rw [hcr] at ho
      obtain ⟨d', hdd, hle, hM⟩ := hC _ _ _ _ hcr
      obtain ⟨g1, g2⟩ := hG _ _ _ _ ho
      refine ⟨Nat.le_trans hle g1, fun p e R s m args below meth c n0 Z H locs cells slots lsA hcx hret hpt hrm hlr => W_size fun hz => ?_⟩
      have hR := hcx.2.2.2.2.2.2.2.2.1
      have hst : st.map (vv w) = ((st.take j).reverse.map (vv w)).reverse ++ (st.drop j).map (vv w) := by
        rw [← List.map_reverse, List.reverse_reverse, ← List.map_append, List.take_append_drop]
      refine am_after hpt hle (va_runSN (host := RX11) (As := (st.take j).reverse.map (vv w)) (rest := (st.drop j).map (vv w)) (n := j) (bytes := (mt k).2.2.1) (maxL := (mt k).2.2.2.1) (ret := (mt k).2.2.2.2) ⟨hcx.1, hcx.2.1, hcx.2.2.1, hcx.2.2.2.1, hcx.2.2.2.2.1⟩ hM ⟨va_cnB j hcx.2.2.2.2.1 (good_l (ws_all hm)) rfl rfl rfl (hcx.2.2.2.2.2.1.2.1 _ hw) (hcx.2.2.2.2.1 _ hm.2.1) hm.2.2.2 ⟨by show d' + 1 + 1 ≤ _; omega, by show 8 + (_ + 11) + 60 * (d' + 1) ≤ _; have := hm.2.2.1; omega⟩, hcx.2.2.2.2.1 _ hw2, trivial⟩ ⟨blind_PcM, pc_PcM hcx.2.2.2.2.2.1 hpt.1 (hpt.size hz)⟩ rfl (by rw [List.length_map, List.length_reverse]; exact hi.1) hlr.1 hst (lv_room (by rw [cat_map]; exact hi.2)) hd (cal_room hpt hrm hle g1)) (fun H1 locs1 hp1 => ?_)
      have k2 := g2 p e R s m args below meth c n0 Z H1 locs1 _ _ lsA hcx hret hp1 hrm hlr
      rw [List.map_append, show r1.1.toList.map (vv w) = (r1.1.map (vv w)).toList by cases r1.1 <;> rfl] at k2
      exact k2
  · rw [if_neg hi] at ho; cases ho
/-- a call with a receiver, in three forms: what the machine's row says -/
theorem snd_callR {k j c : Nat} {C0 : String} {T : u_T} {N : Nat} {ty : Nat → FieldType} (hc : ClsOK c C0 T N ty)
    (row : ∀ (d d' : Nat) (p : Program) (e : Env) (R : Room) (s : State) (m : MethodId) (args : Array Value) (below : List Frame) (meth : Method) (cd : Code) (n0 : Nat) (H : Heap) (locs : List Loc) (cells slots : Nat) (lsA : Array Slot) (a : Nat) (as rest : List Value) (h : AHP) (r1 : ARS), d = d' + 1 → Cx w μ d p R s m args meth cd → Pt w h s n0 H locs cells slots → H.size = w.1 + h.2.2.2 → LR w μ.2.2.2.1 (List.replicate μ.2.2.2.1 none) lsA → MetM w l (mt k) d' (.ref a :: as) h r1 → as.length + 1 = j → (∃ cellB : Cell, H[sg w a]? = some cellB ∧ cellB.vm.isStatics = false ∧ s.vm.findClass C0 = some cellB.cls) → (rest.map fun v => v.category).sum ≤ 8 → cells + (r1.2.2.2.2 - h.2.2.2) ≤ R.cells ∧ slots + (sl r1.2.2.2.2 - sl h.2.2.2) ≤ R.slots →
      va_Run p l e R s m args below meth cd H locs cells slots (r1.2.2.2.2 - h.2.2.2) (sl r1.2.2.2.2 - sl h.2.2.2) (F0 m pc lsA ((as.map (vv w)).reverse ++ .ref (sg w a) :: rest)) rest (QcM w r1 (Value.ref (sg w a) :: as.map (vv w)).toArray) (wA w)) : SndOp w l mt μ pc (o_callV (pc + 3) k j c) := by
  intro d C G r ls st h hC ho hG
  unfold o_callV iff_ at ho
  split at ho
  · rename_i a as hta
    split at ho
    · rename_i hok
      by_cases hi : as.length + 1 = j ∧ ((st.drop j).map fun v => v.category).sum ≤ 8
      · rw [if_pos hi] at ho
        cases hcr : C k (.ref a :: as) h with
        | none => rw [hcr] at ho; cases ho
        | some r1 =>
          rw [hcr] at ho
          obtain ⟨d', hdd, hle, hM⟩ := hC _ _ _ _ hcr
          obtain ⟨g1, g2⟩ := hG _ _ _ _ ho
          refine ⟨Nat.le_trans hle g1, fun p e R s m args below meth cd n0 Z H locs cells slots lsA hcx hret hpt hrm hlr => W_size fun hz => ?_⟩
          have hst : st.map (vv w) = (as.map (vv w)).reverse ++ .ref (sg w a) :: (st.drop j).map (vv w) := by
            have h1 : st.take j = as.reverse ++ [.ref a] := by rw [← List.reverse_reverse (st.take j), hta, List.reverse_cons]
            conv => lhs; rw [← List.take_append_drop j st, h1]
            rw [List.map_append, List.map_append, List.map_reverse, List.append_assoc]; rfl
          have he := ws_at (w := w) hok
          rw [en_obj hok.1 hc.2.2.2.2.1] at he
          rw [hst]
          refine am_after hpt hle (row d d' p e R s m args below meth cd n0 H locs cells slots lsA a as ((st.drop j).map (vv w)) h r1 hdd hcx hpt (hpt.size hz) ⟨hlr.1, List.length_replicate, hlr.2.2.1, fun i v hv => ?_⟩ hM hi.1 (va_recv hcx.2.2.2.2.2.1.1 hpt.1.2.1 hc.1 he) (by rw [cat_map]; exact hi.2) (cal_room hpt hrm hle g1)) (fun H1 locs1 hp1 => ?_)
          · exfalso
            have : ∀ (n i : Nat), lg (List.replicate n none) i = none := by
              intro n
              induction n with
              | zero => intro i; rfl
              | succ n ih => intro i; cases i with
                | zero => rfl
                | succ i => exact ih i
            rw [this] at hv; cases hv
          · have k2 := g2 p e R s m args below meth cd n0 Z H1 locs1 _ _ lsA hcx hret hp1 hrm hlr
            rw [List.map_append, show r1.1.toList.map (vv w) = (r1.1.map (vv w)).toList by cases r1.1 <;> rfl] at k2
            exact k2
      · rw [if_neg hi] at ho; cases ho
    · cases ho
  · cases ho
theorem snd_callV {k j c idx : Nat} {C0 : String} {T : u_T} {N : Nat} {ty : Nat → FieldType} (hc : ClsOK c C0 T N ty) (hm : CalOK (mt k) j) (hC0 : (mt k).2.1.cls = C0) (hw : Cond.methodLink μ.1 idx (mt k).2.1 ∈ WSg) (hw2 : Cond.instanceMethod (mt k).2.1 ∈ WSg) (hw3 : Cond.selects C0 (mt k).2.1 (mt k).2.1 ∈ WSg) (hd : decode μ.2.2.1 pc = .ok (.invokevirtual idx, 3)) : SndOp w l mt μ pc (o_callV (pc + 3) k (j + 1) c) :=
  snd_callR hc fun d d' p e R s m args below meth cd n0 H locs cells slots lsA a as rest h r1 hdd hcx hpt hz hlr hM hj hrec hcat hroom => by
    have hR := hcx.2.2.2.2.2.2.2.2.1
    subst hC0
    exact va_runV (As := as.map (vv w)) (rest := rest) (n := j) (bytes := (mt k).2.2.1) (maxL := (mt k).2.2.2.1) (ret := (mt k).2.2.2.2) ⟨hcx.1, hcx.2.1, hcx.2.2.1, hcx.2.2.2.1, hcx.2.2.2.2.1⟩ hM ⟨callB_of j hcx.2.2.2.2.1 (good_l (ws_all hm)) rfl rfl rfl (hcx.2.2.2.2.1 _ hm.2.1) (hcx.2.2.2.2.1 _ hw) hm.2.2.2 ⟨by show d' + 1 + 1 ≤ _; omega, by show 8 + (_ + 11) + 60 * (d' + 1) ≤ _; have := hm.2.2.1; omega⟩, hcx.2.2.2.2.1 _ hw2, hcx.2.2.2.2.1 _ hw3⟩ ⟨blind_PcM, hrec, pc_PcM (as := .ref a :: as) hcx.2.2.2.2.2.1 hpt.1 hz⟩ rfl (by rw [List.length_map]; omega) hlr.1 rfl (lv_room hcat) hd hroom
theorem snd_callI {k j c idx : Nat} {C0 : String} {T : u_T} {N : Nat} {ty : Nat → FieldType} (hc : ClsOK c C0 T N ty) (hm : CalOK (mt k) j) (hnm : (mt k).2.1.name = "<init>") (hrt : (mt k).2.2.2.2 = none) (hw : Cond.methodLink μ.1 idx (mt k).2.1 ∈ WSg) (hw2 : Cond.instanceMethod (mt k).2.1 ∈ WSg) (hd : decode μ.2.2.1 pc = .ok (.invokespecial idx, 3)) : SndOp w l mt μ pc (o_callV (pc + 3) k (j + 1) c) :=
  snd_callR hc fun d d' p e R s m args below meth cd n0 H locs cells slots lsA a as rest h r1 hdd hcx hpt hz hlr hM hj hrec hcat hroom => by
    have hR := hcx.2.2.2.2.2.2.2.2.1
    have hcb := callB_of (R := R) (rm := rmM d' (r1.2.2.2.2 - h.2.2.2) (sl r1.2.2.2.2 - sl h.2.2.2)) (own := μ.1) (index := idx) (maxL := (mt k).2.2.2.1) (ret := (mt k).2.2.2.2) j hcx.2.2.2.2.1 (good_l (ws_all hm)) rfl rfl rfl (hcx.2.2.2.2.1 _ hm.2.1) (hcx.2.2.2.2.1 _ hw) hm.2.2.2 ⟨by show d' + 1 + 1 ≤ _; omega, by show 8 + (_ + 11) + 60 * (d' + 1) ≤ _; have := hm.2.2.1; omega⟩
    rw [hrt] at hcb
    exact va_runI (As := as.map (vv w)) (rest := rest) (n := j) (bytes := (mt k).2.2.1) (maxL := (mt k).2.2.2.1) ⟨hcx.1, hcx.2.1, hcx.2.2.1, hcx.2.2.2.1, hcx.2.2.2.2.1⟩ hM ⟨hcb, hnm, hcx.2.2.2.2.1 _ hw2⟩ ⟨blind_PcM, pc_PcM (as := .ref a :: as) hcx.2.2.2.2.2.1 hpt.1 hz⟩ rfl (by rw [List.length_map]; omega) hlr.1 rfl (lv_room hcat) hd hroom
theorem snd_callIN {k j c idx : Nat} {C0 : String} {T : u_T} {N : Nat} {ty : Nat → FieldType} (hc : ClsOK c C0 T N ty) (hm : CalOK (mt k) j) (hnm : (mt k).2.1.name = "<init>") (hrt : (mt k).2.2.2.2 = none) (hw : (μ.1, idx, (mt k).2.1, RX11) ∈ nestM) (hw2 : Cond.instanceMethod (mt k).2.1 ∈ WSg) (hd : decode μ.2.2.1 pc = .ok (.invokespecial idx, 3)) : SndOp w l mt μ pc (o_callV (pc + 3) k (j + 1) c) :=
  snd_callR hc fun d d' p e R s m args below meth cd n0 H locs cells slots lsA a as rest h r1 hdd hcx hpt hz hlr hM hj hrec hcat hroom => by
    have hR := hcx.2.2.2.2.2.2.2.2.1
    have hcb := va_cnB (R := R) (rm := rmM d' (r1.2.2.2.2 - h.2.2.2) (sl r1.2.2.2.2 - sl h.2.2.2)) (own := μ.1) (host := RX11) (index := idx) (maxL := (mt k).2.2.2.1) (ret := (mt k).2.2.2.2) j hcx.2.2.2.2.1 (good_l (ws_all hm)) rfl rfl rfl (hcx.2.2.2.2.2.1.2.1 _ hw) (hcx.2.2.2.2.1 _ hm.2.1) hm.2.2.2 ⟨by show d' + 1 + 1 ≤ _; omega, by show 8 + (_ + 11) + 60 * (d' + 1) ≤ _; have := hm.2.2.1; omega⟩
    rw [hrt] at hcb
    exact va_runIN (host := RX11) (As := as.map (vv w)) (rest := rest) (n := j) (bytes := (mt k).2.2.1) (maxL := (mt k).2.2.2.1) ⟨hcx.1, hcx.2.1, hcx.2.2.1, hcx.2.2.2.1, hcx.2.2.2.2.1⟩ hM ⟨hcb, hnm, hcx.2.2.2.2.1 _ hw2⟩ ⟨blind_PcM, pc_PcM (as := .ref a :: as) hcx.2.2.2.2.2.1 hpt.1 hz⟩ rfl (by rw [List.length_map]; omega) hlr.1 rfl (lv_room hcat) hd hroom
end SND8
