section SND7
variable {w : WD} {l : Launch} {mt : Nat → MR} {μ : MR} {pc : Nat}
theorem snd_anew {c t0 idx : Nat} {C : String} (hC : (c, C) = (23, RX1) ∨ (c, C) = (24, RX10)) (ht : ∀ w : WD, (tysW w)[t0]? = some (w.2.2.2.2.1 c, .object C)) (hsm : ∀ a, (lay a).2 ≤ 100000) (hw : Cond.classLink μ.1 idx C ∈ WSg) (hd : decode μ.2.2.1 pc = .ok (.anewarray idx, 3)) : SndOp w l mt μ pc (o_newa (pc + 3) c) := snd_step fun C0 G ls st h r ho => by
  unfold o_newa at ho
  split at ho
  · rename_i x st1
    by_cases hi : ¬ x < 0 ∧ lay (h.2.2.2 + 1) = (c, x.toNatClampNeg) ∧ h.2.2.2 + 1 ≤ NT
    · rw [if_pos hi] at ho
      obtain ⟨hx, hl, hN⟩ := hi
      refine ⟨_, _, _, _, ho, Nat.le_succ _, fun d p e R s m args below meth c0 n0 Z H locs cells slots lsA hcx hpt hrm hle hlr kk => ?_⟩
      obtain ⟨r1, r2⟩ := am_room1 hpt hrm hle
      have hl2 : (lay (h.2.2.2 + 1)).2 = x.toNatClampNeg := by rw [hl]
      have hsm2 := hsm (h.2.2.2 + 1)
      rw [hl2] at hsm2
      have hAO : va_AO C s := by
        rcases hC with e | e <;> cases e
        · exact hcx.2.2.2.2.2.1.2.2.2.2.2.2.2.2.2.2.2.2.1
        · exact hcx.2.2.2.2.2.1.2.2.2.2.2.2.2.2.2.2.2.2.2.1
      refine va_newq (N' := (lay (h.2.2.2 + 1)).2) hcx.1 hcx.2.1 hcx.2.2.2.1 (hcx.2.2.2.2.1 _ hw) hAO hcx.2.2.2.2.2.1.1 hpt.1.2.1 wsW_D hpt.S0 (S_hA hpt) hx hl2.symm (by rw [hl2]; omega) r1 r2 hd fun q cA H1 k0 k1 k2 k3 => W_size fun hz => ?_
      have hcA : w.2.2.2.2.1 c = cA := by
        obtain ⟨_, _, -, -, -, q1⟩ := (hcx.2.2.2.2.2.1.1.2 t0 _ (ht w)).2
        obtain ⟨_, _, -, -, -, q2⟩ := (k0.2 5 (cA, .object C) rfl).2
        exact Option.some.inj (q1.symm.trans q2)
      have hen : en w (anw h) (h.2.2.2 + 1) = .inl (cA, (lay (h.2.2.2 + 1)).2, .inr (.inr (.inr (.inr (fun _ => none))))) := by
        rw [en_ref (c := c) (by rw [hl]) (by rcases hC with e | e <;> cases e; exact Or.inl rfl; exact Or.inr rfl), hcA]
        rw [show (fun j => rfo w ((anw h).2.2.1 (h.2.2.2 + 1) j)) = fun _ => none from funext fun j => by rw [nw_0R]; rfl]
      obtain ⟨hq, hp2⟩ := hpt.made hN k1 k2 k3 hz hen
      subst hq
      have k4 := kk H1 locs _ _ lsA hp2 hlr
      rw [show List.map (vv w) (Value.ref (h.2.2.2 + 1) :: st1) = .ref (w.1 + h.2.2.2) :: List.map (vv w) st1 by show Value.ref (sg w (h.2.2.2 + 1)) :: _ = _; rw [sg_dyn hN]; rfl] at k4
      exact k4
    · rw [if_neg hi] at ho; cases ho
  · cases ho
theorem snd_new {c idx N : Nat} {C : String} {T : u_T} {ty : Nat → FieldType} (hc : ClsOK c C T N ty) (hf : ∀ k, k < N → (fk c k = 1 ∧ ty k = .long) ∨ (fk c k = 2 ∧ ((∃ n, ty k = .object n) ∨ ∃ t, ty k = .array t)) ∨ (fk c k = 0 ∧ (ty k = .int ∨ ty k = .boolean))) (hw : Cond.classLink μ.1 idx C ∈ WSg) (hw2 : Cond.instantiable C N ∈ WSg) (hw3 : Cond.initialized C ∈ WSg) (hd : decode μ.2.2.1 pc = .ok (.new idx, 3)) : SndOp w l mt μ pc (o_new (pc + 3) c N) := snd_step fun C0 G ls st h r ho => by
  unfold o_new at ho
  by_cases hi : lay (h.2.2.2 + 1) = (c, N) ∧ h.2.2.2 + 1 ≤ NT
  · rw [if_pos hi] at ho
    obtain ⟨hl, hN⟩ := hi
    refine ⟨_, _, _, _, ho, Nat.le_succ _, fun d p e R s m args below meth c0 n0 Z H locs cells slots lsA hcx hpt hrm hle hlr kk => ?_⟩
    obtain ⟨r1, r2⟩ := am_room1 hpt hrm hle
    have hl2 : (lay (h.2.2.2 + 1)).2 = N := by rw [hl]
    rw [hl2] at r2
    have hen : en w (anw h) (h.2.2.2 + 1) = .inr (c, (List.range N).map (fv w (anw h) (h.2.2.2 + 1) c)) := by
      rw [en_obj (c := c) (by rw [hl]) hc.2.2.2.2.1, hl2]
    refine va_new (fs := (List.range N).map (fv w (anw h) (h.2.2.2 + 1) c)) hcx.1 hcx.2.1 hcx.2.2.2.2.1 hc.2.1 ty hc.2.2.1 hcx.2.2.2.1 (hcx.2.2.2.2.1 _ hw) (hcx.2.2.2.2.1 _ hw2) (hcx.2.2.2.2.1 _ hw3) hcx.2.2.2.2.2.1.1 hpt.1.2.1 wsW_D hpt.S0 (S_hA hpt) hc.1 (fun j hj => ?_) r1 r2 hd fun q H1 k1 k2 k3 => W_size fun hz => ?_
    · unfold vp_V
      rw [List.getD_eq_getElem?_getD, fvs_get hj]
      show defaultValue (ty j) = fv w (anw h) (h.2.2.2 + 1) c j
      unfold fv
      rw [nw_0I, nw_0J, nw_0R]
      rcases hf j hj with ⟨e1, e2⟩ | ⟨e1, ⟨n, e2⟩ | ⟨n, e2⟩⟩ | ⟨e1, e2 | e2⟩ <;> rw [e1, e2] <;> rfl
    · obtain ⟨hq, hp2⟩ := hpt.made hN k1 k2 k3 hz hen
      subst hq
      rw [hl2] at hp2
      have k4 := kk H1 locs _ _ lsA hp2 hlr
      rw [show List.map (vv w) (Value.ref (h.2.2.2 + 1) :: st) = .ref (w.1 + h.2.2.2) :: List.map (vv w) st by show Value.ref (sg w (h.2.2.2 + 1)) :: _ = _; rw [sg_dyn hN]; rfl] at k4
      exact k4
  · rw [if_neg hi] at ho; cases ho
theorem cat_map {w : WD} (st : List Value) : ((st.map (vv w)).map fun v => v.category).sum = (st.map fun v => v.category).sum := by
  rw [List.map_map]; congr 1; apply List.map_congr_left; intro v _; exact vv_cat w v
theorem snd_objinit {idx : Nat} (hw : Cond.methodLink μ.1 idx Lib.objectInit ∈ WSg) (hw2 : Cond.instanceMethod Lib.objectInit ∈ WSg) (hw3 : Cond.code Lib.objectInit ⟨#[0xb1]⟩ 1 none ∈ WSg) (hd : decode μ.2.2.1 pc = .ok (.invokespecial idx, 3)) : SndOp w l mt μ pc (o_pop1 (pc + 3)) := snd_step fun C0 G ls st h r ho => by
  unfold o_pop1 at ho
  split at ho
  · rename_i a st1
    by_cases hi : (st1.map fun v => v.category).sum ≤ 8
    · rw [if_pos hi] at ho
      refine ⟨_, _, _, _, ho, Nat.le_refl _, fun d p e R s m args below meth c0 n0 Z H locs cells slots lsA hcx hpt hrm hle hlr kk => ?_⟩
      have h1 := hcx.2.2.2.2.2.2.2.2.1
      have h2 := lv_room (m := m) (pc := pc) (ls := lsA) (rest := (Value.ref a :: st1).map (vv w)) (st := st1.map (vv w)) (by rw [cat_map]; exact hi)
      exact W.objInit hcx.1 hcx.2.1 hcx.2.2.2.1 (hcx.2.2.2.2.1 _ hw) (hcx.2.2.2.2.1 _ hw2) (hcx.2.2.2.2.1 _ hw3) rfl (by rw [hcx.2.2.1]; exact hlr.1) rfl hd (by omega) (by omega) (kk H locs cells slots lsA hpt hlr)
    · rw [if_neg hi] at ho; cases ho
  · cases ho
theorem snd_max {idx : Nat} (hw : Cond.methodLink μ.1 idx Lib.Math.max.name ∈ WSg) (hw2 : Cond.static Lib.Math.max.name ∈ WSg) (hw3 : Cond.initialized "java/lang/Math" ∈ WSg) (hw4 : Cond.code Lib.Math.max.name Lib.Math.max.code 2 (some .int) ∈ WSg) (hd : decode μ.2.2.1 pc = .ok (.invokestatic idx, 3)) : SndOp w l mt μ pc (o_max (pc + 3)) := snd_step fun C0 G ls st h r ho => by
  unfold o_max at ho
  split at ho
  · rename_i y x st1
    by_cases hi : (st1.map fun v => v.category).sum ≤ 8
    · rw [if_pos hi] at ho
      refine ⟨_, _, _, _, ho, Nat.le_refl _, fun d p e R s m args below meth c0 n0 Z H locs cells slots lsA hcx hpt hrm hle hlr kk => ?_⟩
      have h1 := hcx.2.2.2.2.2.2.2.2.1
      obtain ⟨r1, r2⟩ := am_room0 hpt hrm hle
      exact va_mmax hcx.1 hcx.2.1 (by rw [hcx.2.2.1]; exact hlr.1.symm) hcx.2.2.2.1 (hcx.2.2.2.2.1 _ hw) (hcx.2.2.2.2.1 _ hw2) (hcx.2.2.2.2.1 _ hw3) (hcx.2.2.2.2.1 _ hw4) (by omega) (by rw [cat_map]; omega) r1 r2 hd (kk H locs cells slots lsA hpt hlr)
    · rw [if_neg hi] at ho; cases ho
  · cases ho
theorem snd_min {idx : Nat} (hw : Cond.methodLink μ.1 idx Lib.Math.min.name ∈ WSg) (hw2 : Cond.static Lib.Math.min.name ∈ WSg) (hw3 : Cond.initialized "java/lang/Math" ∈ WSg) (hw4 : Cond.code Lib.Math.min.name Lib.Math.min.code 2 (some .int) ∈ WSg) (hd : decode μ.2.2.1 pc = .ok (.invokestatic idx, 3)) : SndOp w l mt μ pc (o_min (pc + 3)) := snd_step fun C0 G ls st h r ho => by
  unfold o_min at ho
  split at ho
  · rename_i y x st1
    by_cases hi : (st1.map fun v => v.category).sum ≤ 8
    · rw [if_pos hi] at ho
      refine ⟨_, _, _, _, ho, Nat.le_refl _, fun d p e R s m args below meth c0 n0 Z H locs cells slots lsA hcx hpt hrm hle hlr kk => ?_⟩
      have h1 := hcx.2.2.2.2.2.2.2.2.1
      obtain ⟨r1, r2⟩ := am_room0 hpt hrm hle
      exact va_mmin hcx.1 hcx.2.1 (by rw [hcx.2.2.1]; exact hlr.1.symm) hcx.2.2.2.1 (hcx.2.2.2.2.1 _ hw) (hcx.2.2.2.2.1 _ hw2) (hcx.2.2.2.2.1 _ hw3) (hcx.2.2.2.2.1 _ hw4) (by omega) (by rw [cat_map]; omega) r1 r2 hd (kk H locs cells slots lsA hpt hlr)
    · rw [if_neg hi] at ho; cases ho
  · cases ho
theorem snd_acopy {idx : Nat} (hw : Cond.methodLink μ.1 idx arraycopyName ∈ WSg) (hw2 : Cond.native arraycopyName ∈ WSg) (hw3 : Cond.static arraycopyName ∈ WSg) (hw4 : Cond.initialized "java/lang/System" ∈ WSg) (hd : decode μ.2.2.1 pc = .ok (.invokestatic idx, 3)) : SndOp w l mt μ pc (o_acopy (pc + 3)) := snd_step fun C0 G ls st h r ho => by
  unfold o_acopy iff_ at ho
  split at ho
  · rename_i k dp b sp a st1
    split at ho
    · rename_i hoa
      split at ho
      · rename_i hob
        by_cases hi : ¬ sp < 0 ∧ ¬ dp < 0 ∧ ¬ k < 0 ∧ sp.toNatClampNeg + k.toNatClampNeg ≤ (lay a).2 ∧ dp.toNatClampNeg + k.toNatClampNeg ≤ (lay b).2 ∧ (st1.map fun v => v.category).sum ≤ 8
        · rw [if_pos hi] at ho
          obtain ⟨i1, i2, i3, i4, i5, i6⟩ := hi
          refine ⟨_, _, _, _, ho, Nat.le_refl _, fun d p e R s m args below meth c0 n0 Z H locs cells slots lsA hcx hpt hrm hle hlr kk => ?_⟩
          have h1 := hcx.2.2.2.2.2.2.2.2.1
          have hea := ws_at (w := w) hoa
          have heb := ws_at (w := w) hob
          rw [en_int hoa.1 (Or.inl rfl)] at hea
          rw [en_int hob.1 (Or.inl rfl)] at heb
          have hset : (wsW w h).set (b - 1) (sg w b, .inl (w.2.2.2.2.1 20, (lay b).2, .inl (va_cpy (h.1 a) (h.1 b) sp.toNatClampNeg dp.toNatClampNeg k.toNatClampNeg))) = wsW w (rowI h b (va_cpy (h.1 a) (h.1 b) sp.toNatClampNeg dp.toNatClampNeg k.toNatClampNeg)) := wsW_set rfl (fun c hc => en_congr (by funext j; simp [rowI, row2, hc]) rfl rfl) hob.2.1 (by
            rw [en_int hob.1 (Or.inl rfl)]
            rw [show (rowI h b (va_cpy (h.1 a) (h.1 b) sp.toNatClampNeg dp.toNatClampNeg k.toNatClampNeg)).1 b = va_cpy (h.1 a) (h.1 b) sp.toNatClampNeg dp.toNatClampNeg k.toNatClampNeg by funext j; simp [rowI, row2]]) hob.2.2.2
          exact va_copyi (ty := .int) hcx.1 hcx.2.1 (by rw [hcx.2.2.1]; exact hlr.1.symm) hcx.2.2.2.1 (hcx.2.2.2.2.1 _ hw) (hcx.2.2.2.2.1 _ hw2) (hcx.2.2.2.2.1 _ hw3) (hcx.2.2.2.2.1 _ hw4) hcx.2.2.2.2.2.1.1 hpt.1.2.1 wsW_D hpt.S0 (a - 1) (b - 1) 0 0 hea heb rfl rfl rfl i1 i2 i3 i4 i5 (fun _ _ => rfl) (by omega) (by rw [cat_map, show nativeFrameWords "java/lang/System" "arraycopy" 5 = 7 from rfl]; omega) hd (fun H1 locs1 k1 k2 k3 => by
            rw [hset] at k1
            exact kk H1 locs1 cells slots lsA (hpt.put k1 k3 rfl (hpt.1.2.2.2.2.to (by funext j; simp [rowI, row2, NT_lt hob.2.2.2]) rfl)) hlr)
        · rw [if_neg hi] at ho; cases ho
      · cases ho
    · cases ho
  · cases ho
theorem snd_tsw {dflt lo hi : Int} {offs : Array Int} {len : Nat} {f : Int32 → Nat} (hf : ∀ x : Int32, (x.toInt < lo ∨ hi < x.toInt) ∧ (pc : Int) + dflt = (f x : Int) ∨ ¬ x.toInt < lo ∧ ¬ hi < x.toInt ∧ ∃ off, offs[(x.toInt - lo).toNat]? = some off ∧ (pc : Int) + off = (f x : Int)) (hd : decode μ.2.2.1 pc = .ok (.tableswitch dflt lo hi offs, len)) : SndOp w l mt μ pc (o_sw f) := snd_step fun C0 G ls st h r ho => by
  unfold o_sw at ho
  split at ho
  · rename_i x st1
    refine ⟨_, _, _, _, ho, Nat.le_refl _, fun d p e R s m args below meth c0 n0 Z H locs cells slots lsA hcx hpt hrm hle hlr kk => ?_⟩
    rcases hf x with ⟨h1, h2⟩ | ⟨h1, h2, off, h3, h4⟩
    · exact lv_tableOut hcx.1 hcx.2.1 hd h1 h2 (kk H locs cells slots lsA hpt hlr)
    · exact lv_tableIn hcx.1 hcx.2.1 hd h1 h2 h3 h4 (kk H locs cells slots lsA hpt hlr)
  · cases ho
theorem snd_lsw {dflt : Int} {ps : Array (Int × Int)} {len : Nat} {f : Int32 → Nat} (hp : (ps.toList.zip (ps.toList.drop 1)).all (fun (a, next) => a.1 < next.1) = true) (hf : ∀ x : Int32, (pc : Int) + Op.lookupswitch.offset ps.toList dflt x.toInt = (f x : Int)) (hd : decode μ.2.2.1 pc = .ok (.lookupswitch dflt ps, len)) : SndOp w l mt μ pc (o_sw f) := snd_step fun C0 G ls st h r ho => by
  unfold o_sw at ho
  split at ho
  · rename_i x st1
    refine ⟨_, _, _, _, ho, Nat.le_refl _, fun d p e R s m args below meth c0 n0 Z H locs cells slots lsA hcx hpt hrm hle hlr kk => ?_⟩
    exact lv_lookup hcx.1 hcx.2.1 hd hp rfl (hf x) (kk H locs cells slots lsA hpt hlr)
  · cases ho
/-! ===== ends ===== -/
theorem snd_ret {op : AOP} (hop : ∀ C G ls st h r, op C G ls st h = some r → r.2 = h ∧ st = r.1.toList ∧ retI μ pc r.1) : SndOp w l mt μ pc op := by
  intro d C G r ls st h hC ho hG
  obtain ⟨h1, h2, h3⟩ := hop C G ls st h r ho
  refine ⟨by rw [h1]; exact Nat.le_refl _, fun p e R s m args below meth c n0 Z H locs cells slots lsA hcx hret hpt hrm hlr => ?_⟩
  have k2 := hret H locs cells slots pc lsA (by rw [h1]; exact hpt) h3
  rw [h2, show r.1.toList.map (vv w) = (r.1.map (vv w)).toList by cases r.1 <;> rfl]
  exact k2
theorem snd_iret (ht : μ.2.2.2.2 = some .int) (hd : decode μ.2.2.1 pc = .ok (.ireturn, 1)) : SndOp w l mt μ pc o_iret := snd_ret fun C G ls st h r ho => by
  unfold o_iret at ho
  split at ho
  · cases ho; exact ⟨rfl, rfl, hd, Or.inl ht⟩
  · cases ho
theorem snd_zret (ht : μ.2.2.2.2 = some .boolean) (hd : decode μ.2.2.1 pc = .ok (.ireturn, 1)) : SndOp w l mt μ pc o_zret := snd_ret fun C G ls st h r ho => by
  unfold o_zret at ho
  split at ho
  · rename_i x
    by_cases hx : x = 0 ∨ x = 1
    · rw [if_pos hx] at ho; cases ho; exact ⟨rfl, rfl, hd, Or.inr ⟨ht, hx⟩⟩
    · rw [if_neg hx] at ho; cases ho
  · cases ho
theorem snd_lret (ht : μ.2.2.2.2 = some .long) (hd : decode μ.2.2.1 pc = .ok (.lreturn, 1)) : SndOp w l mt μ pc o_lret := snd_ret fun C G ls st h r ho => by
  unfold o_lret at ho
  split at ho
  · cases ho; exact ⟨rfl, rfl, hd, ht⟩
  · cases ho
theorem snd_aret {n : String} (ht : μ.2.2.2.2 = some (.object n)) (hd : decode μ.2.2.1 pc = .ok (.areturn, 1)) : SndOp w l mt μ pc o_aret := snd_ret fun C G ls st h r ho => by
  unfold o_aret at ho
  split at ho
  · cases ho; exact ⟨rfl, rfl, hd, n, ht⟩
  · cases ho
theorem snd_vret (ht : μ.2.2.2.2 = none) (hd : decode μ.2.2.1 pc = .ok (.return_, 1)) : SndOp w l mt μ pc o_vret := snd_ret fun C G ls st h r ho => by
  unfold o_vret at ho
  split at ho
  · cases ho; exact ⟨rfl, rfl, hd, ht⟩
  · cases ho
end SND7
