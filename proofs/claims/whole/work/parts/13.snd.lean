section SND5
variable {w : WD} {l : Launch} {mt : Nat → MR} {μ : MR} {pc : Nat}
/-! ===== arrays ===== -/
theorem snd_iald (hd : decode μ.2.2.1 pc = .ok (.iaload, 1)) : SndOp w l mt μ pc (o_iald (pc + 1)) := snd_step fun C0 G ls st h r ho => by
  unfold o_iald iff_ at ho
  split at ho
  · rename_i i a st1
    split at ho
    · rename_i hok
      by_cases hi : i < 0 ∨ (lay a).2 ≤ i.toNatClampNeg
      · rw [if_pos hi] at ho; cases ho
      · rw [if_neg hi] at ho
        refine ⟨_, _, _, _, ho, Nat.le_refl _, fun d p e R s m args below meth c n0 Z H locs cells slots lsA hcx hpt hrm hle hlr kk => ?_⟩
        have he := ws_at (w := w) hok
        rw [en_int hok.1 (Or.inl rfl)] at he
        exact va_iald hcx.1 hcx.2.1 hcx.2.2.2.2.2.1.1 hpt.1.2.1 (a - 1) 0 he rfl hi hd (kk H locs cells slots lsA hpt hlr)
    · cases ho
  · cases ho
theorem snd_zald (hd : decode μ.2.2.1 pc = .ok (.baload, 1)) : SndOp w l mt μ pc (o_zald (pc + 1)) := snd_step fun C0 G ls st h r ho => by
  unfold o_zald iff_ at ho
  split at ho
  · rename_i i a st1
    split at ho
    · rename_i hok
      by_cases hi : i < 0 ∨ (lay a).2 ≤ i.toNatClampNeg
      · rw [if_pos hi] at ho; cases ho
      · rw [if_neg hi] at ho
        refine ⟨_, _, _, _, ho, Nat.le_refl _, fun d p e R s m args below meth c n0 Z H locs cells slots lsA hcx hpt hrm hle hlr kk => ?_⟩
        have he := ws_at (w := w) hok
        rw [en_int hok.1 (Or.inr rfl)] at he
        exact va_zald hcx.1 hcx.2.1 hcx.2.2.2.2.2.1.1 hpt.1.2.1 (a - 1) 2 he rfl hi hd (kk H locs cells slots lsA hpt hlr)
    · cases ho
  · cases ho
theorem snd_lald (hd : decode μ.2.2.1 pc = .ok (.laload, 1)) : SndOp w l mt μ pc (o_lald (pc + 1)) := snd_step fun C0 G ls st h r ho => by
  unfold o_lald iff_ at ho
  split at ho
  · rename_i i a st1
    split at ho
    · rename_i hok
      by_cases hi : i < 0 ∨ (lay a).2 ≤ i.toNatClampNeg
      · rw [if_pos hi] at ho; cases ho
      · rw [if_neg hi] at ho
        refine ⟨_, _, _, _, ho, Nat.le_refl _, fun d p e R s m args below meth c n0 Z H locs cells slots lsA hcx hpt hrm hle hlr kk => ?_⟩
        have he := ws_at (w := w) hok
        rw [en_long hok.1] at he
        exact va_lald hcx.1 hcx.2.1 hcx.2.2.2.2.2.1.1 hpt.1.2.1 (a - 1) 1 he rfl hi hd (kk H locs cells slots lsA hpt hlr)
    · cases ho
  · cases ho
theorem snd_aald {c : Nat} (hc : c = 23 ∨ c = 24) (hd : decode μ.2.2.1 pc = .ok (.aaload, 1)) : SndOp w l mt μ pc (o_aald (pc + 1) c) := snd_step fun C0 G ls st h r ho => by
  unfold o_aald iff_ at ho
  split at ho
  · rename_i i a st1
    split at ho
    · rename_i hok
      by_cases hi : i < 0 ∨ (lay a).2 ≤ i.toNatClampNeg
      · rw [if_pos hi] at ho; cases ho
      · rw [if_neg hi] at ho
        by_cases hz : h.2.2.1 a i.toNatClampNeg = 0
        · rw [if_pos hz] at ho; cases ho
        · rw [if_neg hz] at ho
          refine ⟨_, _, _, _, ho, Nat.le_refl _, fun d p e R s m args below meth c0 n0 Z H locs cells slots lsA hcx hpt hrm hle hlr kk => ?_⟩
          have he := ws_at (w := w) hok
          rw [en_ref hok.1 hc] at he
          have k2 := kk H locs cells slots lsA hpt hlr
          have e2 : va_rf (rfo w (h.2.2.1 a i.toNatClampNeg)) = .ref (sg w (h.2.2.1 a i.toNatClampNeg)) := by unfold rfo; rw [if_neg hz]; rfl
          rcases hc with rfl | rfl
          · exact va_aldq (C := RX1) hcx.1 hcx.2.1 hcx.2.2.2.2.2.1.1 hpt.1.2.1 (a - 1) 3 he rfl hi hd (by rw [e2]; exact k2)
          · exact va_aldq (C := RX10) hcx.1 hcx.2.1 hcx.2.2.2.2.2.1.1 hpt.1.2.1 (a - 1) 4 he rfl hi hd (by rw [e2]; exact k2)
    · cases ho
  · cases ho
theorem upd_eq {f : Nat → Int32} {i : Nat} {x : Int32} : upd f i x = fun j => if j = i then x else f j := by funext j; simp [upd]
theorem snd_iast (hd : decode μ.2.2.1 pc = .ok (.iastore, 1)) : SndOp w l mt μ pc (o_iast (pc + 1)) := snd_step fun C0 G ls st h r ho => by
  unfold o_iast iff_ at ho
  split at ho
  · rename_i x i a st1
    split at ho
    · rename_i hok
      by_cases hi : i < 0 ∨ (lay a).2 ≤ i.toNatClampNeg
      · rw [if_pos hi] at ho; cases ho
      · rw [if_neg hi] at ho
        refine ⟨_, _, _, _, ho, Nat.le_refl _, fun d p e R s m args below meth c n0 Z H locs cells slots lsA hcx hpt hrm hle hlr kk => ?_⟩
        have he := ws_at (w := w) hok
        rw [en_int hok.1 (Or.inl rfl)] at he
        have hset : (wsW w h).set (a - 1) (sg w a, .inl (w.2.2.2.2.1 20, (lay a).2, .inl (upd (h.1 a) i.toNatClampNeg x))) = wsW w (sI h a i.toNatClampNeg x) := wsW_set rfl (fun b hb => en_sI hb) hok.2.1 (by rw [en_int hok.1 (Or.inl rfl), upd_eq]; unfold sI; dsimp only; rw [up2_eq]) hok.2.2.2
        exact va_iast hcx.1 hcx.2.1 hcx.2.2.2.2.2.1.1 hpt.1.2.1 wsW_D hpt.S0 (a - 1) 0 he rfl hi hd (fun H1 locs1 k1 k2 k3 => by
          rw [hset] at k1
          exact kk H1 locs1 cells slots lsA (hpt.put k1 k3 rfl (scr_sI hok.2.2.2 hpt.1.2.2.2.2)) hlr)
    · cases ho
  · cases ho
theorem snd_zast (hd : decode μ.2.2.1 pc = .ok (.bastore, 1)) : SndOp w l mt μ pc (o_zast (pc + 1)) := snd_step fun C0 G ls st h r ho => by
  unfold o_zast iff_ at ho
  split at ho
  · rename_i x i a st1
    split at ho
    · rename_i hok
      by_cases hi : i < 0 ∨ (lay a).2 ≤ i.toNatClampNeg
      · rw [if_pos hi] at ho; cases ho
      · rw [if_neg hi] at ho
        by_cases hx : x = 0 ∨ x = 1
        · rw [if_pos hx] at ho
          refine ⟨_, _, _, _, ho, Nat.le_refl _, fun d p e R s m args below meth c n0 Z H locs cells slots lsA hcx hpt hrm hle hlr kk => ?_⟩
          have he := ws_at (w := w) hok
          rw [en_int hok.1 (Or.inr rfl)] at he
          have hnx : vp_nar .boolean x = x := by rcases hx with rfl | rfl <;> rfl
          have hset : (wsW w h).set (a - 1) (sg w a, .inl (w.2.2.2.2.1 22, (lay a).2, .inl (upd (h.1 a) i.toNatClampNeg (vp_nar .boolean x)))) = wsW w (sI h a i.toNatClampNeg x) := wsW_set rfl (fun b hb => en_sI hb) hok.2.1 (by rw [en_int hok.1 (Or.inr rfl), upd_eq, hnx]; unfold sI; dsimp only; rw [up2_eq]) hok.2.2.2
          exact va_zast hcx.1 hcx.2.1 hcx.2.2.2.2.2.1.1 hpt.1.2.1 wsW_D hpt.S0 (a - 1) 2 he rfl hi hd (fun H1 locs1 k1 k2 k3 => by
            rw [hset] at k1
            exact kk H1 locs1 cells slots lsA (hpt.put k1 k3 rfl (scr_sI hok.2.2.2 hpt.1.2.2.2.2)) hlr)
        · rw [if_neg hx] at ho; cases ho
    · cases ho
  · cases ho
theorem snd_last (hd : decode μ.2.2.1 pc = .ok (.lastore, 1)) : SndOp w l mt μ pc (o_last (pc + 1)) := snd_step fun C0 G ls st h r ho => by
  unfold o_last iff_ at ho
  split at ho
  · rename_i x i a st1
    split at ho
    · rename_i hok
      by_cases hi : i < 0 ∨ (lay a).2 ≤ i.toNatClampNeg
      · rw [if_pos hi] at ho; cases ho
      · rw [if_neg hi] at ho
        refine ⟨_, _, _, _, ho, Nat.le_refl _, fun d p e R s m args below meth c n0 Z H locs cells slots lsA hcx hpt hrm hle hlr kk => ?_⟩
        have he := ws_at (w := w) hok
        rw [en_long hok.1] at he
        have hset : (wsW w h).set (a - 1) (sg w a, .inl (w.2.2.2.2.1 21, (lay a).2, .inr (.inl (vp_updL (h.2.1 a) i.toNatClampNeg x)))) = wsW w (sJ h a i.toNatClampNeg x) := wsW_set rfl (fun b hb => en_sJ hb) hok.2.1 (by rw [en_long hok.1]; unfold sJ vp_updL; dsimp only; rw [up2_eq]) hok.2.2.2
        exact va_last hcx.1 hcx.2.1 hcx.2.2.2.2.2.1.1 hpt.1.2.1 wsW_D hpt.S0 (a - 1) 1 he rfl hi hd (fun H1 locs1 k1 k2 k3 => by
          rw [hset] at k1
          exact kk H1 locs1 cells slots lsA (hpt.put k1 k3 rfl (scr_sJ hpt.1.2.2.2.2)) hlr)
    · cases ho
  · cases ho
/-- an array of references: c its tag, x its things' class -/
theorem snd_aast {c x t0 : Nat} {C : String} {T : u_T} {N : Nat} {ty : Nat → FieldType} (hc : c = 23 ∨ c = 24) (hx : ClsOK x C T N ty) (ht : ∀ w : WD, (tysW w)[t0]? = some (w.2.2.2.2.1 c, .object C)) (hd : decode μ.2.2.1 pc = .ok (.aastore, 1)) : SndOp w l mt μ pc (o_aast (pc + 1) c x) := snd_step fun C0 G ls st h r ho => by
  unfold o_aast iff_ at ho
  split at ho
  · rename_i v i a st1
    split at ho
    · rename_i hok
      split at ho
      · rename_i hov
        by_cases hi : i < 0 ∨ (lay a).2 ≤ i.toNatClampNeg
        · rw [if_pos hi] at ho; cases ho
        · rw [if_neg hi] at ho
          refine ⟨_, _, _, _, ho, Nat.le_refl _, fun d p e R s m args below meth c0 n0 Z H locs cells slots lsA hcx hpt hrm hle hlr kk => ?_⟩
          have he := ws_at (w := w) hok
          rw [en_ref hok.1 hc] at he
          have hev := ws_at (w := w) hov
          rw [en_obj hov.1 hx.2.2.2.2.1] at hev
          have hv0 : ¬ v = 0 := fun e => by have h3 := hov.2.1; rw [e] at h3; exact absurd h3 (Nat.lt_irrefl 0)
          have hset : (wsW w h).set (a - 1) (sg w a, .inl (w.2.2.2.2.1 c, (lay a).2, .inr (.inr (.inr (.inr (va_up (fun j => rfo w (h.2.2.1 a j)) i.toNatClampNeg (some (sg w v)))))))) = wsW w (sR h a i.toNatClampNeg v) := wsW_set rfl (fun b hb => en_sR hb) hok.2.1 (by
            rw [en_ref hok.1 hc]
            have e2 : (fun j => rfo w ((sR h a i.toNatClampNeg v).2.2.1 a j)) = va_up (fun j => rfo w (h.2.2.1 a j)) i.toNatClampNeg (some (sg w v)) := by
              funext j
              unfold va_up sR rfo up2
              dsimp only
              by_cases hj : j = i.toNatClampNeg
              · simp [hj, hv0]
              · simp [hj]
            rw [e2]) hok.2.2.2
          exact va_astq (r := (C, T, N)) hcx.1 hcx.2.1 hcx.2.2.2.2.2.1.1 hpt.1.2.1 wsW_D hpt.S0 (a - 1) t0 (v - 1) x he (ht w) hev hx.1 hi hd (fun H1 locs1 k1 k2 k3 => by
            rw [hset] at k1
            exact kk H1 locs1 cells slots lsA (hpt.put k1 k3 rfl (scr_sR hok.2.2.2 hpt.1.2.2.2.2)) hlr)
      · cases ho
    · cases ho
  · cases ho
/-! ===== statics ===== -/
theorem st_S {h : AHP} {s : State} {n0 : Nat} {H : Heap} {locs : List Loc} {cells slots : Nat} {d : Nat} {p : Program} {R : Room} {m : MethodId} {args : Array Value} {meth : Method} {c : Code} (hcx : Cx w μ d p R s m args meth c) : ∀ a : Nat, a < w.2.2.2.2.2.size → ¬ wA w a → s.heap[a]? = w.2.2.2.2.2[a]? := fun a _ h2 => hcx.2.2.2.2.2.2.2.2.2.2.1 a (Nat.not_le.mp h2)
theorem snd_getsK {idx a : Nat} {n : String} (hq : (n, a) ∈ statK) (hw : Cond.fieldLink μ.1 idx RX4 n "LEmberLand$Key;" ∈ WSg) (hd : decode μ.2.2.1 pc = .ok (.getstatic idx, 3)) : SndOp w l mt μ pc (o_gets (pc + 3) a) := snd_step fun C0 G ls st h r ho =>
  ⟨_, _, _, _, ho, Nat.le_refl _, fun d p e R s m args below meth c n0 Z H locs cells slots lsA hcx hpt hrm hle hlr kk => va_gets hcx.1 hcx.2.1 ((hcx.2.2.2.2.2.1.2.2.2.1 _ hq).kept (st_S (h := h) (n0 := n0) (H := H) (locs := locs) (cells := cells) (slots := slots) hcx)) hpt.2.1 hcx.2.2.2.1 (hcx.2.2.2.2.1 _ hw) (fun _ h => h) hd (kk H locs cells slots lsA hpt hlr)⟩
theorem snd_getsA {idx : Nat} (hw : Cond.fieldLink μ.1 idx RX4 "ALL" "[LEmberLand$Key;" ∈ WSg) (hd : decode μ.2.2.1 pc = .ok (.getstatic idx, 3)) : SndOp w l mt μ pc (o_gets (pc + 3) 200100) := snd_step fun C0 G ls st h r ho =>
  ⟨_, _, _, _, ho, Nat.le_refl _, fun d p e R s m args below meth c n0 Z H locs cells slots lsA hcx hpt hrm hle hlr kk => va_gets hcx.1 hcx.2.1 (hcx.2.2.2.2.2.1.2.2.2.2.1.kept (st_S (h := h) (n0 := n0) (H := H) (locs := locs) (cells := cells) (slots := slots) hcx)) hpt.2.1 hcx.2.2.2.1 (hcx.2.2.2.2.1 _ hw) (fun _ h => h) hd (kk H locs cells slots lsA hpt hlr)⟩
theorem snd_getsB (hμ : μ.1 = RX1) (hd : decode μ.2.2.1 pc = .ok (.getstatic 113, 3)) : SndOp w l mt μ pc (o_gets (pc + 3) 200200) := snd_step fun C0 G ls st h r ho =>
  ⟨_, _, _, _, ho, Nat.le_refl _, fun d p e R s m args below meth c n0 Z H locs cells slots lsA hcx hpt hrm hle hlr kk => va_getsN (host := RX11) (ref := RX11) hcx.1 hcx.2.1 (hcx.2.2.2.2.2.1.2.2.2.2.2.1.kept (st_S (h := h) (n0 := n0) (H := H) (locs := locs) (cells := cells) (slots := slots) hcx)) hpt.2.1 (by have h3 := hcx.2.2.2.1; rw [hμ] at h3; exact h3) (va_Nw.use rfl hcx.2.2.2.2.2.1.2.2.1) (fun _ h => h) hd (kk H locs cells slots lsA hpt hlr)⟩
theorem snd_ialdB (hd : decode μ.2.2.1 pc = .ok (.iaload, 1)) : SndOp w l mt μ pc (o_ialdB (pc + 1)) := snd_step fun C0 G ls st h r ho => by
  unfold o_ialdB at ho
  split at ho
  · rename_i i a st1
    by_cases hi : a = 200200 ∧ ¬ (i < 0 ∨ 12 ≤ i.toNatClampNeg)
    · rw [if_pos hi] at ho
      obtain ⟨rfl, hi⟩ := hi
      exact ⟨_, _, _, _, ho, Nat.le_refl _, fun d p e R s m args below meth c n0 Z H locs cells slots lsA hcx hpt hrm hle hlr kk => va_ti hcx.1 hcx.2.1 (hcx.2.2.2.2.2.1.2.2.2.2.2.2.1.kept (st_S (h := h) (n0 := n0) (H := H) (locs := locs) (cells := cells) (slots := slots) hcx)) hpt.2.1 hi rfl hd (kk H locs cells slots lsA hpt hlr)⟩
    · rw [if_neg hi] at ho; cases ho
  · cases ho
theorem snd_aaldK (hd : decode μ.2.2.1 pc = .ok (.aaload, 1)) : SndOp w l mt μ pc (o_aaldK (pc + 1)) := snd_step fun C0 G ls st h r ho => by
  unfold o_aaldK at ho
  split at ho
  · rename_i i a st1
    by_cases hi : a = 200100 ∧ ¬ (i < 0 ∨ 25 ≤ i.toNatClampNeg)
    · rw [if_pos hi] at ho
      obtain ⟨rfl, hi⟩ := hi
      exact ⟨_, _, _, _, ho, Nat.le_refl _, fun d p e R s m args below meth c n0 Z H locs cells slots lsA hcx hpt hrm hle hlr kk => vb_tq (C := RX4) hcx.1 hcx.2.1 (hcx.2.2.2.2.2.1.2.2.2.2.2.2.2.1.kept (st_S (h := h) (n0 := n0) (H := H) (locs := locs) (cells := cells) (slots := slots) hcx)) hpt.2.1 hi rfl hd (kk H locs cells slots lsA hpt hlr)⟩
    · rw [if_neg hi] at ho; cases ho
  · cases ho
theorem snd_alenK (hd : decode μ.2.2.1 pc = .ok (.arraylength, 1)) : SndOp w l mt μ pc (o_alenK (pc + 1)) := snd_step fun C0 G ls st h r ho => by
  unfold o_alenK at ho
  split at ho
  · rename_i a st1
    by_cases hi : a = 200100
    · rw [if_pos hi] at ho
      subst hi
      exact ⟨_, _, _, _, ho, Nat.le_refl _, fun d p e R s m args below meth c n0 Z H locs cells slots lsA hcx hpt hrm hle hlr kk => va_tlen hcx.1 hcx.2.1 (hcx.2.2.2.2.2.1.2.2.2.2.2.2.2.1.kept (st_S (h := h) (n0 := n0) (H := H) (locs := locs) (cells := cells) (slots := slots) hcx)) hpt.2.1 rfl hd (kk H locs cells slots lsA hpt hlr)⟩
    · rw [if_neg hi] at ho; cases ho
  · cases ho
theorem snd_keyJ {idx : Nat} (hw : Cond.fieldLink μ.1 idx RX4 "letters" "J" ∈ WSg) (hd : decode μ.2.2.1 pc = .ok (.getfield idx, 3)) : SndOp w l mt μ pc (o_keyJ (pc + 3) kLet) := snd_step fun C0 G ls st h r ho => by
  unfold o_keyJ at ho
  split at ho
  · rename_i a st1
    by_cases hi : 200000 ≤ a ∧ a < 200025
    · rw [if_pos hi] at ho
      refine ⟨_, _, _, _, ho, Nat.le_refl _, fun d p e R s m args below meth c n0 Z H locs cells slots lsA hcx hpt hrm hle hlr kk => ?_⟩
      have hj : 200000 + (a - 200000) = a := Nat.add_sub_cancel' hi.1
      have hE : va_Ef 25 RX4 "letters" "J" (fun j => .long (kLet j)) (fun j => sg w (200000 + j)) (wA w) s s.heap := fun j hj => (hcx.2.2.2.2.2.1.2.2.2.2.2.2.2.2.1 j hj).1.kept (st_S (h := h) (n0 := n0) (H := H) (locs := locs) (cells := cells) (slots := slots) hcx)
      have k2 := va_getX (Q := Z) hcx.1 hcx.2.1 hE (Nat.sub_lt_left_of_lt_add hi.1 hi.2) hpt.2.1 hcx.2.2.2.1 (hcx.2.2.2.2.1 _ hw) (fun _ h => h) hd (kk H locs cells slots lsA hpt hlr)
      rw [hj] at k2
      exact k2
    · rw [if_neg hi] at ho; cases ho
  · cases ho
theorem snd_keyI {idx : Nat} {nm ds : String} {f : Nat → Int32} (hf : (nm, ds, f) = ("canName", "Z", kCan) ∨ (nm, ds, f) = ("kind", "I", kKind)) (hw : Cond.fieldLink μ.1 idx RX4 nm ds ∈ WSg) (hd : decode μ.2.2.1 pc = .ok (.getfield idx, 3)) : SndOp w l mt μ pc (o_keyI (pc + 3) f) := snd_step fun C0 G ls st h r ho => by
  unfold o_keyI at ho
  split at ho
  · rename_i a st1
    by_cases hi : 200000 ≤ a ∧ a < 200025
    · rw [if_pos hi] at ho
      refine ⟨_, _, _, _, ho, Nat.le_refl _, fun d p e R s m args below meth c n0 Z H locs cells slots lsA hcx hpt hrm hle hlr kk => ?_⟩
      have hj : 200000 + (a - 200000) = a := Nat.add_sub_cancel' hi.1
      have hE : va_Ef 25 RX4 nm ds (fun j => .int (f j)) (fun j => sg w (200000 + j)) (wA w) s s.heap := fun j hj => by
        have h3 := hcx.2.2.2.2.2.1.2.2.2.2.2.2.2.2.1 j hj
        rcases hf with e | e <;> cases e
        · exact h3.2.1.kept (st_S (h := h) (n0 := n0) (H := H) (locs := locs) (cells := cells) (slots := slots) hcx)
        · exact h3.2.2.kept (st_S (h := h) (n0 := n0) (H := H) (locs := locs) (cells := cells) (slots := slots) hcx)
      have k2 := va_getX (Q := Z) hcx.1 hcx.2.1 hE (Nat.sub_lt_left_of_lt_add hi.1 hi.2) hpt.2.1 hcx.2.2.2.1 (hcx.2.2.2.2.1 _ hw) (fun _ h => h) hd (kk H locs cells slots lsA hpt hlr)
      rw [hj] at k2
      exact k2
    · rw [if_neg hi] at ho; cases ho
  · cases ho
theorem st_X {h : AHP} {s : State} {n0 : Nat} {H : Heap} {locs : List Loc} {cells slots : Nat} {d : Nat} {p : Program} {R : Room} {m : MethodId} {args : Array Value} {meth : Method} {c : Code} (hcx : Cx w μ d p R s m args meth c) (hpt : Pt w h s n0 H locs cells slots) : va_X (sg w 300000) (h.2.2.1 300000 0) (h.1 300000) s s.heap ∧ sg w 300000 < s.heap.size ∧ ¬ wA w (sg w 300000) := by
  obtain ⟨scr, h1, h2, h3, h4⟩ := hpt.1.2.2.2.2
  have hlt := hcx.2.2.2.2.2.1.2.2.2.2.2.2.2.2.2.2.1
  exact ⟨⟨scr, by rw [hcx.2.2.2.2.2.2.2.2.2.2.1 _ hlt.1]; exact h1, hlt.2 scr h1, h2, h3, h4⟩, Nat.lt_of_lt_of_le hlt.1 hcx.2.2.2.2.2.2.2.2.2.1, Nat.not_le.mpr hlt.1⟩
theorem snd_sld (hd : decode μ.2.2.1 pc = .ok (.iaload, 1)) : SndOp w l mt μ pc (o_sld (pc + 1)) := snd_step fun C0 G ls st h r ho => by
  unfold o_sld at ho
  split at ho
  · rename_i i a st1
    by_cases hi : a = 300000 ∧ ¬ (i < 0 ∨ h.2.2.1 300000 0 ≤ i.toNatClampNeg)
    · rw [if_pos hi] at ho
      obtain ⟨rfl, hi⟩ := hi
      refine ⟨_, _, _, _, ho, Nat.le_refl _, fun d p e R s m args below meth c n0 Z H locs cells slots lsA hcx hpt hrm hle hlr kk => ?_⟩
      obtain ⟨x1, x2, x3⟩ := st_X hcx hpt
      exact va_sld hcx.1 hcx.2.1 x1 x2 x3 hpt.2.1 hi hd (kk H locs cells slots lsA hpt hlr)
    · rw [if_neg hi] at ho; cases ho
  · cases ho
theorem snd_slen (hd : decode μ.2.2.1 pc = .ok (.arraylength, 1)) : SndOp w l mt μ pc (o_slen (pc + 1)) := snd_step fun C0 G ls st h r ho => by
  unfold o_slen at ho
  split at ho
  · rename_i a st1
    by_cases hi : a = 300000
    · rw [if_pos hi] at ho
      subst hi
      refine ⟨_, _, _, _, ho, Nat.le_refl _, fun d p e R s m args below meth c n0 Z H locs cells slots lsA hcx hpt hrm hle hlr kk => ?_⟩
      obtain ⟨x1, x2, x3⟩ := st_X hcx hpt
      exact va_slen hcx.1 hcx.2.1 x1 x2 x3 hpt.2.1 hd (kk H locs cells slots lsA hpt hlr)
    · rw [if_neg hi] at ho; cases ho
  · cases ho
/-! ===== things that are made ===== -/
theorem nw_congr {h : AHP} {b : Nat} (hb : b ≠ h.2.2.2 + 1) : en w (anw h) b = en w h b := en_congr (by funext j; simp [anw, row2, hb]) (by funext j; simp [anw, row2, hb]) (by funext j; simp [anw, row2, hb])
theorem nw_ws {h : AHP} (hN : h.2.2.2 + 1 ≤ NT) : wsW w (anw h) = wsW w h ++ [(w.1 + h.2.2.2, en w (anw h) (h.2.2.2 + 1))] := by
  unfold wsW
  rw [show min (anw h).2.2.2 NT = h.2.2.2 + 1 from Nat.min_eq_left hN, show min h.2.2.2 NT = h.2.2.2 from Nat.min_eq_left (Nat.le_of_succ_le hN), List.range_succ, List.map_append]
  congr 1
  apply List.map_congr_left
  intro j hj
  rw [nw_congr (by have := List.mem_range.mp hj; omega)]
theorem Pt.made {h : AHP} {s : State} {n0 : Nat} {H H1 : Heap} {locs : List Loc} {cells slots q : Nat} {x : va_E} (hpt : Pt w h s n0 H locs cells slots) (hN : h.2.2.2 + 1 ≤ NT) (hP : va_P (wD w) vwCl (wsW w h ++ [(q, x)]) H1) (hD : va_D (wA w) (wsW w h ++ [(q, x)])) (hS : va_S (wA w) H H1 locs) (hz : H1.size ≤ s.heap.size + (cells + 1)) (hx : en w (anw h) (h.2.2.2 + 1) = x) : q = w.1 + h.2.2.2 ∧ Pt w (anw h) s n0 H1 locs (cells + 1) (slots + (lay (h.2.2.2 + 1)).2) := by
  obtain ⟨⟨a1, a2, a3, a4, a5⟩, ⟨b1, b2, b3⟩, c1, c2, c3⟩ := hpt
  have hlen : (wsW w h).length = h.2.2.2 := by rw [wsW_len]; exact Nat.min_eq_left (Nat.le_of_succ_le hN)
  have hlast : (wsW w h ++ [(q, x)])[h.2.2.2]? = some (q, x) := by rw [List.getElem?_append_right (by omega), hlen, Nat.sub_self]; rfl
  have hq1 : q < H1.size := (hP _ _ hlast).lt
  have hq2 : w.1 ≤ q := hD.2 _ _ hlast
  have hq : q = w.1 + h.2.2.2 := by
    rcases Nat.lt_or_ge q (w.1 + h.2.2.2) with hlt | hge
    · have hg : (wsW w h ++ [(q, x)])[q - w.1]? = some (w.1 + (q - w.1), en w h (q - w.1 + 1)) := by
        rw [List.getElem?_append_left (by omega)]
        unfold wsW
        rw [List.getElem?_map, List.getElem?_range (by rw [← wsW_len (w := w), hlen]; omega)]
        rfl
      have := hD.1 _ _ _ _ hg hlast (show w.1 + (q - w.1) = q by omega)
      omega
    · omega
  subst hx
  refine ⟨hq, ⟨?_, ?_, fun z hz => ?_, ?_, ?_⟩, ⟨Nat.le_trans b1 hS.1, fun z h1 h2 => ?_, hS.2.2⟩, ?_, ?_, c3⟩
  · show w.1 + (h.2.2.2 + 1) ≤ H1.size
    omega
  · rw [nw_ws hN, ← hq]; exact hP
  · rw [hS.2.1 z (by omega) (fun y => Nat.not_le.mpr hz y)]; exact a3 z hz
  · show h.2.2.2 + 1 < 90000
    have h3 : h.2.2.2 + 1 ≤ 201 := hN
    omega
  · have h3 : h.2.2.2 + 1 ≤ 201 := hN
    have h4 : ¬ 300000 = h.2.2.2 + 1 := by omega
    exact a5.to (by funext j; simp [anw, row2, h4]) (by funext j; simp [anw, row2, h4])
  · rw [hS.2.1 z (Nat.lt_of_lt_of_le h1 b1) h2]; exact b2 z h1 h2
  · show cells + 1 + n0 = h.2.2.2 + 1
    omega
  · show slots + _ + sl n0 = sl (h.2.2.2 + 1)
    rw [sl_succ]; omega
theorem nw_0I {h : AHP} (j : Nat) : (anw h).1 (h.2.2.2 + 1) j = 0 := by simp [anw, row2]
theorem nw_0J {h : AHP} (j : Nat) : (anw h).2.1 (h.2.2.2 + 1) j = 0 := by simp [anw, row2]
theorem nw_0R {h : AHP} (j : Nat) : (anw h).2.2.1 (h.2.2.2 + 1) j = 0 := by simp [anw, row2]
/-- the room that is left for one more -/
theorem am_room1 {h : AHP} {r : ARS} {R : Room} {s : State} {n0 : Nat} {H : Heap} {locs : List Loc} {cells slots : Nat} (hpt : Pt w h s n0 H locs cells slots) (hrm : Rmm R r n0) (hle : h.2.2.2 + 1 ≤ r.2.2.2.2) : cells + 1 ≤ R.cells ∧ slots + (lay (h.2.2.2 + 1)).2 ≤ R.slots := by
  have h1 := hpt.2.2.1
  have h2 := hpt.2.2.2.1
  have h3 := hrm.1
  have h4 := hrm.2
  have h5 := sl_mono hle
  rw [sl_succ] at h5
  omega
theorem am_room0 {h : AHP} {r : ARS} {R : Room} {s : State} {n0 : Nat} {H : Heap} {locs : List Loc} {cells slots : Nat} (hpt : Pt w h s n0 H locs cells slots) (hrm : Rmm R r n0) (hle : h.2.2.2 ≤ r.2.2.2.2) : cells ≤ R.cells ∧ slots ≤ R.slots := by
  have h1 := hpt.2.2.1
  have h2 := hpt.2.2.2.1
  have h3 := hrm.1
  have h4 := hrm.2
  have h5 := sl_mono hle
  omega
theorem Pt.size {h : AHP} {s : State} {n0 : Nat} {H : Heap} {locs : List Loc} {cells slots : Nat} (hpt : Pt w h s n0 H locs cells slots) (hz : H.size ≤ s.heap.size + cells) : H.size = w.1 + h.2.2.2 := by
  have h1 := hpt.2.2.1
  have h2 := hpt.2.2.2.2
  have h3 := hpt.1.1
  omega
theorem S_hA {h : AHP} {s : State} {n0 : Nat} {H : Heap} {locs : List Loc} {cells slots : Nat} (hpt : Pt w h s n0 H locs cells slots) : ∀ q : Nat, H.size ≤ q → wA w q := fun q hq => Nat.le_trans (Nat.le_trans (Nat.le_add_right _ _) hpt.1.1) hq
/-- newarray: t0 the place of its type among tysW -/
theorem snd_newaI (ht : Cond.arrayClass .int ∈ WSg) (hsm : ∀ a, (lay a).2 ≤ 100000) (hd : decode μ.2.2.1 pc = .ok (.newarray .int, 2)) : SndOp w l mt μ pc (o_newa (pc + 2) 20) := snd_step fun C0 G ls st h r ho => by
  unfold o_newa at ho
  split at ho
  · rename_i x st1
    by_cases hi : ¬ x < 0 ∧ lay (h.2.2.2 + 1) = (20, x.toNatClampNeg) ∧ h.2.2.2 + 1 ≤ NT
    · rw [if_pos hi] at ho
      obtain ⟨hx, hl, hN⟩ := hi
      refine ⟨_, _, _, _, ho, Nat.le_succ _, fun d p e R s m args below meth c0 n0 Z H locs cells slots lsA hcx hpt hrm hle hlr kk => ?_⟩
      obtain ⟨r1, r2⟩ := am_room1 hpt hrm hle
      have hl2 : (lay (h.2.2.2 + 1)).2 = x.toNatClampNeg := by rw [hl]
      have hsm2 := hsm (h.2.2.2 + 1)
      rw [hl2] at hsm2
      refine va_newa (atype := .int) (N' := (lay (h.2.2.2 + 1)).2) (a0 := ((lay (h.2.2.2 + 1)).2, .inl (fun _ => 0))) hcx.1 hcx.2.1 (hcx.2.2.2.2.1 _ ht) rfl hcx.2.2.2.2.2.1.1 hpt.1.2.1 wsW_D hpt.S0 (S_hA hpt) (fun _ => rfl) hx hl2.symm (by rw [hl2]; show _ * 4 ≤ _; omega) r1 r2 hd fun q cA H1 k0 k1 k2 k3 => W_size fun hz => ?_
      have hcA : w.2.2.2.2.1 20 = cA := Option.some.inj ((hcx.2.2.2.2.2.1.1.2 0 _ rfl).2.symm.trans (k0.2 5 (cA, .int) rfl).2)
      have hen : en w (anw h) (h.2.2.2 + 1) = .inl (cA, (lay (h.2.2.2 + 1)).2, .inl (fun _ => 0)) := by
        rw [en_int (c := 20) (by rw [hl]) (Or.inl rfl), hcA, show (anw h).1 (h.2.2.2 + 1) = fun _ => 0 from funext nw_0I]
      obtain ⟨hq, hp2⟩ := hpt.made hN k1 k2 k3 hz hen
      subst hq
      have k4 := kk H1 locs _ _ lsA hp2 hlr
      rw [show List.map (vv w) (Value.ref (h.2.2.2 + 1) :: st1) = .ref (w.1 + h.2.2.2) :: List.map (vv w) st1 by show Value.ref (sg w (h.2.2.2 + 1)) :: _ = _; rw [sg_dyn hN]; rfl] at k4
      exact k4
    · rw [if_neg hi] at ho; cases ho
  · cases ho
theorem snd_newaJ (ht : Cond.arrayClass .long ∈ WSg) (hsm : ∀ a, (lay a).2 ≤ 100000) (hd : decode μ.2.2.1 pc = .ok (.newarray .long, 2)) : SndOp w l mt μ pc (o_newa (pc + 2) 21) := snd_step fun C0 G ls st h r ho => by
  unfold o_newa at ho
  split at ho
  · rename_i x st1
    by_cases hi : ¬ x < 0 ∧ lay (h.2.2.2 + 1) = (21, x.toNatClampNeg) ∧ h.2.2.2 + 1 ≤ NT
    · rw [if_pos hi] at ho
      obtain ⟨hx, hl, hN⟩ := hi
      refine ⟨_, _, _, _, ho, Nat.le_succ _, fun d p e R s m args below meth c0 n0 Z H locs cells slots lsA hcx hpt hrm hle hlr kk => ?_⟩
      obtain ⟨r1, r2⟩ := am_room1 hpt hrm hle
      have hl2 : (lay (h.2.2.2 + 1)).2 = x.toNatClampNeg := by rw [hl]
      have hsm2 := hsm (h.2.2.2 + 1)
      rw [hl2] at hsm2
      refine va_newa (atype := .long) (N' := (lay (h.2.2.2 + 1)).2) (a0 := ((lay (h.2.2.2 + 1)).2, .inr (.inl (fun _ => 0)))) hcx.1 hcx.2.1 (hcx.2.2.2.2.1 _ ht) rfl hcx.2.2.2.2.2.1.1 hpt.1.2.1 wsW_D hpt.S0 (S_hA hpt) (fun _ => rfl) hx hl2.symm (by rw [hl2]; show _ * 8 ≤ _; omega) r1 r2 hd fun q cA H1 k0 k1 k2 k3 => W_size fun hz => ?_
      have hcA : w.2.2.2.2.1 21 = cA := Option.some.inj ((hcx.2.2.2.2.2.1.1.2 1 _ rfl).2.symm.trans (k0.2 5 (cA, .long) rfl).2)
      have hen : en w (anw h) (h.2.2.2 + 1) = .inl (cA, (lay (h.2.2.2 + 1)).2, .inr (.inl (fun _ => 0))) := by
        rw [en_long (by rw [hl]), hcA, show (anw h).2.1 (h.2.2.2 + 1) = fun _ => 0 from funext nw_0J]
      obtain ⟨hq, hp2⟩ := hpt.made hN k1 k2 k3 hz hen
      subst hq
      have k4 := kk H1 locs _ _ lsA hp2 hlr
      rw [show List.map (vv w) (Value.ref (h.2.2.2 + 1) :: st1) = .ref (w.1 + h.2.2.2) :: List.map (vv w) st1 by show Value.ref (sg w (h.2.2.2 + 1)) :: _ = _; rw [sg_dyn hN]; rfl] at k4
      exact k4
    · rw [if_neg hi] at ho; cases ho
  · cases ho
theorem snd_newaZ (ht : Cond.arrayClass .boolean ∈ WSg) (hsm : ∀ a, (lay a).2 ≤ 100000) (hd : decode μ.2.2.1 pc = .ok (.newarray .boolean, 2)) : SndOp w l mt μ pc (o_newa (pc + 2) 22) := snd_step fun C0 G ls st h r ho => by
  unfold o_newa at ho
  split at ho
  · rename_i x st1
    by_cases hi : ¬ x < 0 ∧ lay (h.2.2.2 + 1) = (22, x.toNatClampNeg) ∧ h.2.2.2 + 1 ≤ NT
    · rw [if_pos hi] at ho
      obtain ⟨hx, hl, hN⟩ := hi
      refine ⟨_, _, _, _, ho, Nat.le_succ _, fun d p e R s m args below meth c0 n0 Z H locs cells slots lsA hcx hpt hrm hle hlr kk => ?_⟩
      obtain ⟨r1, r2⟩ := am_room1 hpt hrm hle
      have hl2 : (lay (h.2.2.2 + 1)).2 = x.toNatClampNeg := by rw [hl]
      have hsm2 := hsm (h.2.2.2 + 1)
      rw [hl2] at hsm2
      refine va_newa (atype := .boolean) (N' := (lay (h.2.2.2 + 1)).2) (a0 := ((lay (h.2.2.2 + 1)).2, .inl (fun _ => 0))) hcx.1 hcx.2.1 (hcx.2.2.2.2.1 _ ht) rfl hcx.2.2.2.2.2.1.1 hpt.1.2.1 wsW_D hpt.S0 (S_hA hpt) (fun _ => rfl) hx hl2.symm (by rw [hl2]; show _ * 1 ≤ _; omega) r1 r2 hd fun q cA H1 k0 k1 k2 k3 => W_size fun hz => ?_
      have hcA : w.2.2.2.2.1 22 = cA := Option.some.inj ((hcx.2.2.2.2.2.1.1.2 2 _ rfl).2.symm.trans (k0.2 5 (cA, .boolean) rfl).2)
      have hen : en w (anw h) (h.2.2.2 + 1) = .inl (cA, (lay (h.2.2.2 + 1)).2, .inl (fun _ => 0)) := by
        rw [en_int (c := 22) (by rw [hl]) (Or.inr rfl), hcA, show (anw h).1 (h.2.2.2 + 1) = fun _ => 0 from funext nw_0I]
      obtain ⟨hq, hp2⟩ := hpt.made hN k1 k2 k3 hz hen
      subst hq
      have k4 := kk H1 locs _ _ lsA hp2 hlr
      rw [show List.map (vv w) (Value.ref (h.2.2.2 + 1) :: st1) = .ref (w.1 + h.2.2.2) :: List.map (vv w) st1 by show Value.ref (sg w (h.2.2.2 + 1)) :: _ = _; rw [sg_dyn hN]; rfl] at k4
      exact k4
    · rw [if_neg hi] at ho; cases ho
  · cases ho
end SND5
