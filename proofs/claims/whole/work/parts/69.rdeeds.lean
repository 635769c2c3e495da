/-! ===== the reference: deeds ===== -/
abbrev dz (i : Nat) : Prop := i < 23 ∨ pst i
theorem dz_p : ∀ i, pst i → dz i := fun _ q => Or.inr q
theorem dz_0 : ∀ i, blk 0 i → dz i := fun i q => Or.inl (by have := q.2; omega)
theorem CP.s23 {k h : AHP} {g n m : Nat} {v : Int32} (hP : CP k h g n m) : CP (sI k 183 23 v) h g n m := by
  unfold CP RH RD RLw at hP ⊢
  rw [sI_ne (b := 189) (by decide), sI_ne (b := 190) (by decide), sI_ne (b := 191) (by decide)]
  exact hP
theorem CP.thr {k h : AHP} {g n m : Nat} {v : Int32} (hP : CP k h g n m) : CP (sI k 183 0 v) h g n m := hP.zf (A := trl) (Zf_thr Zf.rf)
theorem s23_thr {A : Nat → Prop} {k : AHP} {u v : Int32} : Zf A (sI k 183 23 v) (sI (sI k 183 0 u) 183 23 v) := Zf.s23 (u := k.1 183 23) (by rw [sI_id]; exact Zf_thr Zf.rf)
/-- what the reference keeps -/
def RP (s : Nat → Int32) (u : Nat) (P : Nat → FS) : Prop := ∀ a, a < u → RB s (42 * (5 + a)) (P a)
theorem RP.zf {A : Nat → Prop} {k S : AHP} {u : Nat} {P : Nat → FS} (h : RP (k.1 197) u P) (hz : Zf A k S) (hA : ∀ i, 210 ≤ i → ¬ A i) : RP (S.1 197) u P := fun a ha => (h a ha).zf hz (fun i h1 _ => hA i (by omega))
theorem r_hourP {d : Nat} {k h : AHP} {m n g T u : Nat} {F : FS} {P : Nat → FS} (hP : CP k h g n m) (hW : FW m T F) (hB0 : RB (k.1 197) 0 F) (hT : T < 90000) (hu : k.1 183 23 = nI u) (h16 : u ≤ 16) (hPs : RP (k.1 197) u P)  : MM (d + 5) 221 [.ref 183] k (fun v h2 => v = some (.int ((HB h g n 1 F).2)) ∧ Zf dz (sI k 183 23 (nI (kpU u))) h2 ∧ RB (h2.1 197) 0 (HF h g n F) ∧ RP (h2.1 197) (kpU u) (kpP P F u)) := by
  refine ⟨Nat.le_of_ble_eq_true rfl, ?_⟩
  have hm := hP.1.2.2.1
  have hS := hP.1.1
  have hE := hP.1.2.1
  refine t_go (op := o_aload 1 0) (fe_X12_hour 0) (fun _ _ => rfl) ?_
  refine t_go (op := o_ci 2 0) (fe_X12_hour 1) (fun _ _ => rfl) ?_
  refine t_go (op := o_putI 5 11 0) (fe_X12_hour 2) (g_putI hS (show (lay 183).1 = 11 by decide) (by decide)) ?_
  have hB5 : RB ((sI k 183 0 0).1 197) 0 F := by rw [sI_ne (by decide)]; exact hB0
  have hP5 := hP.thr (v := 0)
  replace hS := hP5.1.1
  replace hE := hP5.1.2.1
  refine t_go (op := o_aload 6 0) (fe_X12_hour 5) (fun _ _ => rfl) ?_
  refine t_call (op := o_callV 9 199 1 11) (fe_X12_hour 6) (g_callV hS (show (lay 183).1 = 11 by decide) (by decide) rfl rfl rfl (Nat.le_of_ble_eq_true rfl)) ?_
  refine M_mono ?_ (r_keeps (k := sI k 183 0 0) (P := P) hS hu (by rw [sI_ne (by decide)]; exact hB0) (fun a ha => by rw [sI_ne (by decide)]; exact hPs a ha) h16)
  rintro _ h2 ⟨rfl, hz2, hkp⟩
  have hz : Zf dz (sI k 183 23 (nI (kpU u))) h2 := s23_thr.tr (hz2.mono dz_p)
  have hPS := (hP.s23 (v := nI (kpU u))).zf hz
  have hS := hPS.1.1
  have hE := hPS.1.2.1
  have hB1 : RB (h2.1 197) 0 F := RB.zf (k := sI (sI k 183 0 0) 183 23 (nI (kpU u))) (by rw [sI_ne (by decide), sI_ne (by decide)]; exact hB0) hz2 pst0
  clear hz2
  refine t_go (op := o_aload 10 0) (fe_X12_hour 9) (fun _ _ => rfl) ?_
  refine t_go (op := o_ci 11 0) (fe_X12_hour 10) (fun _ _ => rfl) ?_
  refine t_call (op := o_callV 14 215 2 11) (fe_X12_hour 11) (g_callV hS (show (lay 183).1 = 11 by decide) (by decide) rfl rfl rfl (Nat.le_of_ble_eq_true rfl)) ?_
  refine M_mono ?_ (r_hour (b := 0) hPS hW hB1 (by decide) (by omega))
  rintro _ h3 ⟨rfl, hz3, hB2⟩
  have hkp2 : RP (h3.1 197) (kpU u) (kpP P F u) := RP.zf hkp hz3 (fun i h1 q => by have := q.2; omega)
  replace hz := hz.tr (hz3.mono dz_0)
  refine t_ret (op := o_iret) (fe_X12_hour 14) (fun _ _ => rfl) ?_
  exact ⟨rfl, hz, hB2, hkp2⟩
theorem r_pokeP {d : Nat} {k h : AHP} {m n g T u : Nat} {F : FS} {P : Nat → FS} (hP : CP k h g n m) (hW : FW m T F) (hB0 : RB (k.1 197) 0 F) (hT : T < 90000) (hu : k.1 183 23 = nI u) (h16 : u ≤ 16) (hPs : RP (k.1 197) u P) {e : Nat} (he : e < m) (hh : hasF F (nI e)) : MM (d + 5) 222 [.ref 183, .int (nI e)] k (fun v h2 => v = some (.int ((stokeF F (nI e)).1 e)) ∧ Zf dz (sI k 183 23 (nI (kpU u))) h2 ∧ RB (h2.1 197) 0 (stokeF F (nI e)) ∧ RP (h2.1 197) (kpU u) (kpP P F u)) := by
  refine ⟨Nat.le_of_ble_eq_true rfl, ?_⟩
  have hm := hP.1.2.2.1
  have hS := hP.1.1
  have hE := hP.1.2.1
  refine t_go (op := o_aload 1 0) (fe_X12_poke 0) (fun _ _ => rfl) ?_
  refine t_go (op := o_ci 2 0) (fe_X12_poke 1) (fun _ _ => rfl) ?_
  refine t_go (op := o_putI 5 11 0) (fe_X12_poke 2) (g_putI hS (show (lay 183).1 = 11 by decide) (by decide)) ?_
  have hB5 : RB ((sI k 183 0 0).1 197) 0 F := by rw [sI_ne (by decide)]; exact hB0
  have hP5 := hP.thr (v := 0)
  replace hS := hP5.1.1
  replace hE := hP5.1.2.1
  refine t_go (op := o_aload 6 0) (fe_X12_poke 5) (fun _ _ => rfl) ?_
  refine t_go (op := o_iload 7 1) (fe_X12_poke 6) (fun _ _ => rfl) ?_
  refine t_call (op := o_callV 10 202 2 11) (fe_X12_poke 7) (g_callV hS (show (lay 183).1 = 11 by decide) (by decide) rfl rfl rfl (Nat.le_of_ble_eq_true rfl)) ?_
  refine M_eq (r_isEmber (by exact hS) (by exact hE)) ?_
  refine t_ite (op := o_if 13 22 (fun x => x = 0) (fun _ => inferInstance)) (fe_X12_poke 10) g_if (fun c1 => ?_) (fun c1 => ?_)
  · exact absurd (isE he hm) (b2i_z c1)
  · replace c1 := b2i_nn c1
    refine t_go (op := o_aload 14 0) (fe_X12_poke 13) (fun _ _ => rfl) ?_
    refine t_go (op := o_ci 15 0) (fe_X12_poke 14) (fun _ _ => rfl) ?_
    refine t_go (op := o_iload 16 1) (fe_X12_poke 15) (fun _ _ => rfl) ?_
    refine t_call (op := o_callV 19 203 3 11) (fe_X12_poke 16) (g_callV hS (show (lay 183).1 = 11 by decide) (by decide) rfl rfl rfl (Nat.le_of_ble_eq_true rfl)) ?_
    refine M_eq (r_isThere (b := 0) hS hW.1 hB5 (by decide) (e := e) (by omega)) ?_
    refine t_ite (op := o_if 24 22 (fun x => x = 0) (fun _ => inferInstance)) (fe_X12_poke 19) g_if (fun c2 => ?_) (fun c2 => ?_)
    · exact absurd hh (b2i_z c2)
    · replace c2 := b2i_nn c2
      refine t_go (op := o_aload 25 0) (fe_X12_poke 24) (fun _ _ => rfl) ?_
      refine t_call (op := o_callV 28 199 1 11) (fe_X12_poke 25) (g_callV hS (show (lay 183).1 = 11 by decide) (by decide) rfl rfl rfl (Nat.le_of_ble_eq_true rfl)) ?_
      refine M_mono ?_ (r_keeps (k := sI k 183 0 0) (P := P) hS hu (by rw [sI_ne (by decide)]; exact hB0) (fun a ha => by rw [sI_ne (by decide)]; exact hPs a ha) h16)
      rintro _ h2 ⟨rfl, hz2, hkp⟩
      have hz : Zf dz (sI k 183 23 (nI (kpU u))) h2 := s23_thr.tr (hz2.mono dz_p)
      have hPS := (hP.s23 (v := nI (kpU u))).zf hz
      have hS := hPS.1.1
      have hE := hPS.1.2.1
      have hB1 : RB (h2.1 197) 0 F := RB.zf (k := sI (sI k 183 0 0) 183 23 (nI (kpU u))) (by rw [sI_ne (by decide), sI_ne (by decide)]; exact hB0) hz2 pst0
      clear hz2
      refine t_go (op := o_aload 29 0) (fe_X12_poke 28) (fun _ _ => rfl) ?_
      refine t_go (op := o_ci 30 0) (fe_X12_poke 29) (fun _ _ => rfl) ?_
      refine t_go (op := o_iload 31 1) (fe_X12_poke 30) (fun _ _ => rfl) ?_
      refine t_call (op := o_callV 34 217 3 11) (fe_X12_poke 31) (g_callV hS (show (lay 183).1 = 11 by decide) (by decide) rfl rfl rfl (Nat.le_of_ble_eq_true rfl)) ?_
      refine M_mono ?_ (r_pokes (b := 0) hPS.1 hW.1 hB1 (by decide) (e := e) (by omega) hh)
      rintro _ h3 ⟨rfl, hz3, hB2⟩
      have hkp2 : RP (h3.1 197) (kpU u) (kpP P F u) := RP.zf hkp hz3 (fun i h1 q => by have := q.2; omega)
      replace hz := hz.tr (hz3.mono dz_0)
      replace hS := ((hP.s23 (v := nI (kpU u))).zf hz).1.1
      refine t_go (op := o_aload 35 0) (fe_X12_poke 34) (fun _ _ => rfl) ?_
      refine t_go (op := o_getR 38 11 22) (fe_X12_poke 35) (g_getR hS (show (lay 183).1 = 11 by decide) (by decide) (fr_11_22 hS) (by decide)) ?_
      refine t_go (op := o_ci 39 2) (fe_X12_poke 38) (fun _ _ => rfl) ?_
      refine t_go (op := o_iload 40 1) (fe_X12_poke 39) (fun _ _ => rfl) ?_
      refine t_go (op := o_i2 41 (fun x y => x + y)) (fe_X12_poke 40) (fun _ _ => rfl) ?_
      refine t_go (op := o_iald 42) (fe_X12_poke 41) (g_ialdN hS (show lay 197 = (20, 966) by decide) (nIa (nIl 2) rfl) (by omega) (by decide)) ?_
      rw [show h3.1 197 (2 + e) = (stokeF F (nI e)).1 e from by have := (hB2.1 e (by omega)).1; rw [Nat.zero_add] at this; exact this]
      refine t_ret (op := o_iret) (fe_X12_poke 42) (fun _ _ => rfl) ?_
      exact ⟨rfl, hz, hB2, hkp2⟩
theorem r_pokeF {d : Nat} {k h : AHP} {m n g T u : Nat} {F : FS} {P : Nat → FS} (hP : CP k h g n m) (hW : FW m T F) (hB0 : RB (k.1 197) 0 F) (hT : T < 90000) (hu : k.1 183 23 = nI u) (h16 : u ≤ 16) (hPs : RP (k.1 197) u P) {x : Int32} (hn : ¬ (¬ x < 0 ∧ x < nI m)) : MM (d + 5) 222 [.ref 183, .int x] k (fun v h2 => v = some (.int (-1)) ∧ h2 = sI k 183 0 0) := by
  refine ⟨Nat.le_of_ble_eq_true rfl, ?_⟩
  have hm := hP.1.2.2.1
  have hS := hP.1.1
  have hE := hP.1.2.1
  refine t_go (op := o_aload 1 0) (fe_X12_poke 0) (fun _ _ => rfl) ?_
  refine t_go (op := o_ci 2 0) (fe_X12_poke 1) (fun _ _ => rfl) ?_
  refine t_go (op := o_putI 5 11 0) (fe_X12_poke 2) (g_putI hS (show (lay 183).1 = 11 by decide) (by decide)) ?_
  have hB5 : RB ((sI k 183 0 0).1 197) 0 F := by rw [sI_ne (by decide)]; exact hB0
  have hP5 := hP.thr (v := 0)
  replace hS := hP5.1.1
  replace hE := hP5.1.2.1
  refine t_go (op := o_aload 6 0) (fe_X12_poke 5) (fun _ _ => rfl) ?_
  refine t_go (op := o_iload 7 1) (fe_X12_poke 6) (fun _ _ => rfl) ?_
  refine t_call (op := o_callV 10 202 2 11) (fe_X12_poke 7) (g_callV hS (show (lay 183).1 = 11 by decide) (by decide) rfl rfl rfl (Nat.le_of_ble_eq_true rfl)) ?_
  refine M_eq (r_isEmber (by exact hS) (by exact hE)) ?_
  refine t_ite (op := o_if 13 22 (fun x => x = 0) (fun _ => inferInstance)) (fe_X12_poke 10) g_if (fun c1 => ?_) (fun c1 => ?_)
  · replace c1 := b2i_z c1
    refine t_go (op := o_ci 23 (-1)) (fe_X12_poke 22) (fun _ _ => rfl) ?_
    refine t_ret (op := o_iret) (fe_X12_poke 23) (fun _ _ => rfl) ?_
    exact ⟨rfl, rfl⟩
  · exact absurd (b2i_nn c1) hn
theorem r_pokeA {d : Nat} {k h : AHP} {m n g T u : Nat} {F : FS} {P : Nat → FS} (hP : CP k h g n m) (hW : FW m T F) (hB0 : RB (k.1 197) 0 F) (hT : T < 90000) (hu : k.1 183 23 = nI u) (h16 : u ≤ 16) (hPs : RP (k.1 197) u P) {e : Nat} (he : e < m) (hh : ¬ hasF F (nI e)) : MM (d + 5) 222 [.ref 183, .int (nI e)] k (fun v h2 => v = some (.int (-1)) ∧ h2 = sI k 183 0 0) := by
  refine ⟨Nat.le_of_ble_eq_true rfl, ?_⟩
  have hm := hP.1.2.2.1
  have hS := hP.1.1
  have hE := hP.1.2.1
  refine t_go (op := o_aload 1 0) (fe_X12_poke 0) (fun _ _ => rfl) ?_
  refine t_go (op := o_ci 2 0) (fe_X12_poke 1) (fun _ _ => rfl) ?_
  refine t_go (op := o_putI 5 11 0) (fe_X12_poke 2) (g_putI hS (show (lay 183).1 = 11 by decide) (by decide)) ?_
  have hB5 : RB ((sI k 183 0 0).1 197) 0 F := by rw [sI_ne (by decide)]; exact hB0
  have hP5 := hP.thr (v := 0)
  replace hS := hP5.1.1
  replace hE := hP5.1.2.1
  refine t_go (op := o_aload 6 0) (fe_X12_poke 5) (fun _ _ => rfl) ?_
  refine t_go (op := o_iload 7 1) (fe_X12_poke 6) (fun _ _ => rfl) ?_
  refine t_call (op := o_callV 10 202 2 11) (fe_X12_poke 7) (g_callV hS (show (lay 183).1 = 11 by decide) (by decide) rfl rfl rfl (Nat.le_of_ble_eq_true rfl)) ?_
  refine M_eq (r_isEmber (by exact hS) (by exact hE)) ?_
  refine t_ite (op := o_if 13 22 (fun x => x = 0) (fun _ => inferInstance)) (fe_X12_poke 10) g_if (fun c1 => ?_) (fun c1 => ?_)
  · exact absurd (isE he hm) (b2i_z c1)
  · replace c1 := b2i_nn c1
    refine t_go (op := o_aload 14 0) (fe_X12_poke 13) (fun _ _ => rfl) ?_
    refine t_go (op := o_ci 15 0) (fe_X12_poke 14) (fun _ _ => rfl) ?_
    refine t_go (op := o_iload 16 1) (fe_X12_poke 15) (fun _ _ => rfl) ?_
    refine t_call (op := o_callV 19 203 3 11) (fe_X12_poke 16) (g_callV hS (show (lay 183).1 = 11 by decide) (by decide) rfl rfl rfl (Nat.le_of_ble_eq_true rfl)) ?_
    refine M_eq (r_isThere (b := 0) hS hW.1 hB5 (by decide) (e := e) (by omega)) ?_
    refine t_ite (op := o_if 24 22 (fun x => x = 0) (fun _ => inferInstance)) (fe_X12_poke 19) g_if (fun c2 => ?_) (fun c2 => ?_)
    · replace c2 := b2i_z c2
      refine t_go (op := o_ci 23 (-1)) (fe_X12_poke 22) (fun _ _ => rfl) ?_
      refine t_ret (op := o_iret) (fe_X12_poke 23) (fun _ _ => rfl) ?_
      exact ⟨rfl, rfl⟩
    · exact absurd (b2i_nn c2) hh
theorem r_tongs {d : Nat} {k h : AHP} {m n g T u : Nat} {F : FS} {P : Nat → FS} (hP : CP k h g n m) (hW : FW m T F) (hB0 : RB (k.1 197) 0 F) (hT : T < 90000) (hu : k.1 183 23 = nI u) (h16 : u ≤ 16) (hPs : RP (k.1 197) u P) {e c : Nat} (he : e < m) (hc : c < 12) (hh : hasF F (nI e) ∧ freeF F (nI c)) : MM (d + 5) 224 [.ref 183, .int (nI e), .int (nI c)] k (fun v h2 => v = some (.int (1)) ∧ Zf dz (sI k 183 23 (nI (kpU u))) h2 ∧ RB (h2.1 197) 0 (carryF F (nI e) (nI c)) ∧ RP (h2.1 197) (kpU u) (kpP P F u)) := by
  refine ⟨Nat.le_of_ble_eq_true rfl, ?_⟩
  have hm := hP.1.2.2.1
  have hS := hP.1.1
  have hE := hP.1.2.1
  refine t_go (op := o_aload 1 0) (fe_X12_tongs 0) (fun _ _ => rfl) ?_
  refine t_go (op := o_ci 2 0) (fe_X12_tongs 1) (fun _ _ => rfl) ?_
  refine t_go (op := o_putI 5 11 0) (fe_X12_tongs 2) (g_putI hS (show (lay 183).1 = 11 by decide) (by decide)) ?_
  have hB5 : RB ((sI k 183 0 0).1 197) 0 F := by rw [sI_ne (by decide)]; exact hB0
  have hP5 := hP.thr (v := 0)
  replace hS := hP5.1.1
  replace hE := hP5.1.2.1
  refine t_go (op := o_aload 6 0) (fe_X12_tongs 5) (fun _ _ => rfl) ?_
  refine t_go (op := o_iload 7 1) (fe_X12_tongs 6) (fun _ _ => rfl) ?_
  refine t_call (op := o_callV 10 202 2 11) (fe_X12_tongs 7) (g_callV hS (show (lay 183).1 = 11 by decide) (by decide) rfl rfl rfl (Nat.le_of_ble_eq_true rfl)) ?_
  refine M_eq (r_isEmber (by exact hS) (by exact hE)) ?_
  refine t_ite (op := o_if 13 33 (fun x => x = 0) (fun _ => inferInstance)) (fe_X12_tongs 10) g_if (fun c1 => ?_) (fun c1 => ?_)
  · exact absurd (isE he hm) (b2i_z c1)
  · replace c1 := b2i_nn c1
    refine t_go (op := o_iload 14 2) (fe_X12_tongs 13) (fun _ _ => rfl) ?_
    refine t_go (op := o_ci 15 0) (fe_X12_tongs 14) (fun _ _ => rfl) ?_
    refine t_go (op := o_ci 17 11) (fe_X12_tongs 15) (fun _ _ => rfl) ?_
    refine t_call (op := o_callS 20 173 3) (fe_X12_tongs 17) (g_callS rfl rfl rfl (Nat.le_of_ble_eq_true rfl)) ?_
    refine M_eq r_within ?_
    refine t_ite (op := o_if 23 33 (fun x => x = 0) (fun _ => inferInstance)) (fe_X12_tongs 20) g_if (fun c2 => ?_) (fun c2 => ?_)
    · exact absurd (show ¬ nI c < 0 ∧ ¬ (11 : Int32) < nI c from ⟨nI_pos (by omega), nI_nlt (a := 11) (by omega) (by omega)⟩) (b2i_z c2)
    · replace c2 := b2i_nn c2
      refine t_go (op := o_aload 24 0) (fe_X12_tongs 23) (fun _ _ => rfl) ?_
      refine t_go (op := o_ci 25 0) (fe_X12_tongs 24) (fun _ _ => rfl) ?_
      refine t_go (op := o_iload 26 1) (fe_X12_tongs 25) (fun _ _ => rfl) ?_
      refine t_go (op := o_iload 27 2) (fe_X12_tongs 26) (fun _ _ => rfl) ?_
      refine t_call (op := o_callV 30 223 4 11) (fe_X12_tongs 27) (g_callV hS (show (lay 183).1 = 11 by decide) (by decide) rfl rfl rfl (Nat.le_of_ble_eq_true rfl)) ?_
      refine M_eq (r_mayCarry (b := 0) hS hE hm hW.1 hB5 (by decide) (e := e) (c := c) (by omega) hc) ?_
      refine t_ite (op := o_if 35 33 (fun x => x = 0) (fun _ => inferInstance)) (fe_X12_tongs 30) g_if (fun c3 => ?_) (fun c3 => ?_)
      · exact absurd hh (b2i_z c3)
      · replace c3 := b2i_nn c3
        refine t_go (op := o_aload 36 0) (fe_X12_tongs 35) (fun _ _ => rfl) ?_
        refine t_call (op := o_callV 39 199 1 11) (fe_X12_tongs 36) (g_callV hS (show (lay 183).1 = 11 by decide) (by decide) rfl rfl rfl (Nat.le_of_ble_eq_true rfl)) ?_
        refine M_mono ?_ (r_keeps (k := sI k 183 0 0) (P := P) hS hu (by rw [sI_ne (by decide)]; exact hB0) (fun a ha => by rw [sI_ne (by decide)]; exact hPs a ha) h16)
        rintro _ h2 ⟨rfl, hz2, hkp⟩
        have hz : Zf dz (sI k 183 23 (nI (kpU u))) h2 := s23_thr.tr (hz2.mono dz_p)
        have hPS := (hP.s23 (v := nI (kpU u))).zf hz
        have hS := hPS.1.1
        have hE := hPS.1.2.1
        have hB1 : RB (h2.1 197) 0 F := RB.zf (k := sI (sI k 183 0 0) 183 23 (nI (kpU u))) (by rw [sI_ne (by decide), sI_ne (by decide)]; exact hB0) hz2 pst0
        clear hz2
        refine t_go (op := o_aload 40 0) (fe_X12_tongs 39) (fun _ _ => rfl) ?_
        refine t_go (op := o_getR 43 11 22) (fe_X12_tongs 40) (g_getR hS (show (lay 183).1 = 11 by decide) (by decide) (fr_11_22 hS) (by decide)) ?_
        refine t_go (op := o_ci 44 2) (fe_X12_tongs 43) (fun _ _ => rfl) ?_
        refine t_go (op := o_iload 45 1) (fe_X12_tongs 44) (fun _ _ => rfl) ?_
        refine t_go (op := o_i2 46 (fun x y => x + y)) (fe_X12_tongs 45) (fun _ _ => rfl) ?_
        refine t_go (op := o_iload 47 2) (fe_X12_tongs 46) (fun _ _ => rfl) ?_
        refine t_go (op := o_iast 48) (fe_X12_tongs 47) (g_iastN hS (show lay 197 = (20, 966) by decide) (nIa (nIl 2) rfl) (by omega) (by decide)) ?_
        obtain ⟨_, c0, _, _, hc0, _, _, _, hce, _⟩ := FV_in hW.1 (show e < 7 by omega) hh.1
        have hz3 : Zf (blk 0) h2 (sI h2 197 (2 + e) (nI c)) := Zf_st Zf.rf (by constructor <;> omega)
        have hB2 : RB ((sI h2 197 (2 + e) (nI c)).1 197) 0 (carryF F (nI e) (nI c)) := by
          rw [carry_eq hW.1 (by omega) hh.1 hce hc0 hc ((free_n hc).mp hh.2)]
          have := RB_cell (x := nI c) hB1 (show e < 7 by omega)
          rw [Nat.zero_add] at this
          exact RB_lies this
        have hkp2 : RP ((sI h2 197 (2 + e) (nI c)).1 197) (kpU u) (kpP P F u) := RP.zf hkp hz3 (fun i h1 q => by have := q.2; omega)
        replace hz := hz.tr (hz3.mono dz_0)
        refine t_go (op := o_ci 49 1) (fe_X12_tongs 48) (fun _ _ => rfl) ?_
        refine t_ret (op := o_zret) (fe_X12_tongs 49) (g_zret (Or.inr rfl)) ?_
        exact ⟨rfl, hz, hB2, hkp2⟩
theorem r_tongsF {d : Nat} {k h : AHP} {m n g T u : Nat} {F : FS} {P : Nat → FS} (hP : CP k h g n m) (hW : FW m T F) (hB0 : RB (k.1 197) 0 F) (hT : T < 90000) (hu : k.1 183 23 = nI u) (h16 : u ≤ 16) (hPs : RP (k.1 197) u P) {x y : Int32} (hn : ¬ (¬ x < 0 ∧ x < nI m)) : MM (d + 5) 224 [.ref 183, .int x, .int y] k (fun v h2 => v = some (.int (0)) ∧ h2 = sI k 183 0 0) := by
  refine ⟨Nat.le_of_ble_eq_true rfl, ?_⟩
  have hm := hP.1.2.2.1
  have hS := hP.1.1
  have hE := hP.1.2.1
  refine t_go (op := o_aload 1 0) (fe_X12_tongs 0) (fun _ _ => rfl) ?_
  refine t_go (op := o_ci 2 0) (fe_X12_tongs 1) (fun _ _ => rfl) ?_
  refine t_go (op := o_putI 5 11 0) (fe_X12_tongs 2) (g_putI hS (show (lay 183).1 = 11 by decide) (by decide)) ?_
  have hB5 : RB ((sI k 183 0 0).1 197) 0 F := by rw [sI_ne (by decide)]; exact hB0
  have hP5 := hP.thr (v := 0)
  replace hS := hP5.1.1
  replace hE := hP5.1.2.1
  refine t_go (op := o_aload 6 0) (fe_X12_tongs 5) (fun _ _ => rfl) ?_
  refine t_go (op := o_iload 7 1) (fe_X12_tongs 6) (fun _ _ => rfl) ?_
  refine t_call (op := o_callV 10 202 2 11) (fe_X12_tongs 7) (g_callV hS (show (lay 183).1 = 11 by decide) (by decide) rfl rfl rfl (Nat.le_of_ble_eq_true rfl)) ?_
  refine M_eq (r_isEmber (by exact hS) (by exact hE)) ?_
  refine t_ite (op := o_if 13 33 (fun x => x = 0) (fun _ => inferInstance)) (fe_X12_tongs 10) g_if (fun c1 => ?_) (fun c1 => ?_)
  · replace c1 := b2i_z c1
    refine t_go (op := o_ci 34 0) (fe_X12_tongs 33) (fun _ _ => rfl) ?_
    refine t_ret (op := o_zret) (fe_X12_tongs 34) (g_zret (Or.inl rfl)) ?_
    exact ⟨rfl, rfl⟩
  · exact absurd (b2i_nn c1) hn
theorem r_tongsG {d : Nat} {k h : AHP} {m n g T u : Nat} {F : FS} {P : Nat → FS} (hP : CP k h g n m) (hW : FW m T F) (hB0 : RB (k.1 197) 0 F) (hT : T < 90000) (hu : k.1 183 23 = nI u) (h16 : u ≤ 16) (hPs : RP (k.1 197) u P) {e : Nat} (he : e < m) {y : Int32} (hn : ¬ (¬ y < 0 ∧ ¬ 11 < y)) : MM (d + 5) 224 [.ref 183, .int (nI e), .int y] k (fun v h2 => v = some (.int (0)) ∧ h2 = sI k 183 0 0) := by
  refine ⟨Nat.le_of_ble_eq_true rfl, ?_⟩
  have hm := hP.1.2.2.1
  have hS := hP.1.1
  have hE := hP.1.2.1
  refine t_go (op := o_aload 1 0) (fe_X12_tongs 0) (fun _ _ => rfl) ?_
  refine t_go (op := o_ci 2 0) (fe_X12_tongs 1) (fun _ _ => rfl) ?_
  refine t_go (op := o_putI 5 11 0) (fe_X12_tongs 2) (g_putI hS (show (lay 183).1 = 11 by decide) (by decide)) ?_
  have hB5 : RB ((sI k 183 0 0).1 197) 0 F := by rw [sI_ne (by decide)]; exact hB0
  have hP5 := hP.thr (v := 0)
  replace hS := hP5.1.1
  replace hE := hP5.1.2.1
  refine t_go (op := o_aload 6 0) (fe_X12_tongs 5) (fun _ _ => rfl) ?_
  refine t_go (op := o_iload 7 1) (fe_X12_tongs 6) (fun _ _ => rfl) ?_
  refine t_call (op := o_callV 10 202 2 11) (fe_X12_tongs 7) (g_callV hS (show (lay 183).1 = 11 by decide) (by decide) rfl rfl rfl (Nat.le_of_ble_eq_true rfl)) ?_
  refine M_eq (r_isEmber (by exact hS) (by exact hE)) ?_
  refine t_ite (op := o_if 13 33 (fun x => x = 0) (fun _ => inferInstance)) (fe_X12_tongs 10) g_if (fun c1 => ?_) (fun c1 => ?_)
  · exact absurd (isE he hm) (b2i_z c1)
  · replace c1 := b2i_nn c1
    refine t_go (op := o_iload 14 2) (fe_X12_tongs 13) (fun _ _ => rfl) ?_
    refine t_go (op := o_ci 15 0) (fe_X12_tongs 14) (fun _ _ => rfl) ?_
    refine t_go (op := o_ci 17 11) (fe_X12_tongs 15) (fun _ _ => rfl) ?_
    refine t_call (op := o_callS 20 173 3) (fe_X12_tongs 17) (g_callS rfl rfl rfl (Nat.le_of_ble_eq_true rfl)) ?_
    refine M_eq r_within ?_
    refine t_ite (op := o_if 23 33 (fun x => x = 0) (fun _ => inferInstance)) (fe_X12_tongs 20) g_if (fun c2 => ?_) (fun c2 => ?_)
    · replace c2 := b2i_z c2
      refine t_go (op := o_ci 34 0) (fe_X12_tongs 33) (fun _ _ => rfl) ?_
      refine t_ret (op := o_zret) (fe_X12_tongs 34) (g_zret (Or.inl rfl)) ?_
      exact ⟨rfl, rfl⟩
    · exact absurd (b2i_nn c2) hn
theorem r_tongsA {d : Nat} {k h : AHP} {m n g T u : Nat} {F : FS} {P : Nat → FS} (hP : CP k h g n m) (hW : FW m T F) (hB0 : RB (k.1 197) 0 F) (hT : T < 90000) (hu : k.1 183 23 = nI u) (h16 : u ≤ 16) (hPs : RP (k.1 197) u P) {e c : Nat} (he : e < m) (hc : c < 12) (hh : ¬ (hasF F (nI e) ∧ freeF F (nI c))) : MM (d + 5) 224 [.ref 183, .int (nI e), .int (nI c)] k (fun v h2 => v = some (.int (0)) ∧ h2 = sI k 183 0 0) := by
  refine ⟨Nat.le_of_ble_eq_true rfl, ?_⟩
  have hm := hP.1.2.2.1
  have hS := hP.1.1
  have hE := hP.1.2.1
  refine t_go (op := o_aload 1 0) (fe_X12_tongs 0) (fun _ _ => rfl) ?_
  refine t_go (op := o_ci 2 0) (fe_X12_tongs 1) (fun _ _ => rfl) ?_
  refine t_go (op := o_putI 5 11 0) (fe_X12_tongs 2) (g_putI hS (show (lay 183).1 = 11 by decide) (by decide)) ?_
  have hB5 : RB ((sI k 183 0 0).1 197) 0 F := by rw [sI_ne (by decide)]; exact hB0
  have hP5 := hP.thr (v := 0)
  replace hS := hP5.1.1
  replace hE := hP5.1.2.1
  refine t_go (op := o_aload 6 0) (fe_X12_tongs 5) (fun _ _ => rfl) ?_
  refine t_go (op := o_iload 7 1) (fe_X12_tongs 6) (fun _ _ => rfl) ?_
  refine t_call (op := o_callV 10 202 2 11) (fe_X12_tongs 7) (g_callV hS (show (lay 183).1 = 11 by decide) (by decide) rfl rfl rfl (Nat.le_of_ble_eq_true rfl)) ?_
  refine M_eq (r_isEmber (by exact hS) (by exact hE)) ?_
  refine t_ite (op := o_if 13 33 (fun x => x = 0) (fun _ => inferInstance)) (fe_X12_tongs 10) g_if (fun c1 => ?_) (fun c1 => ?_)
  · exact absurd (isE he hm) (b2i_z c1)
  · replace c1 := b2i_nn c1
    refine t_go (op := o_iload 14 2) (fe_X12_tongs 13) (fun _ _ => rfl) ?_
    refine t_go (op := o_ci 15 0) (fe_X12_tongs 14) (fun _ _ => rfl) ?_
    refine t_go (op := o_ci 17 11) (fe_X12_tongs 15) (fun _ _ => rfl) ?_
    refine t_call (op := o_callS 20 173 3) (fe_X12_tongs 17) (g_callS rfl rfl rfl (Nat.le_of_ble_eq_true rfl)) ?_
    refine M_eq r_within ?_
    refine t_ite (op := o_if 23 33 (fun x => x = 0) (fun _ => inferInstance)) (fe_X12_tongs 20) g_if (fun c2 => ?_) (fun c2 => ?_)
    · exact absurd (show ¬ nI c < 0 ∧ ¬ (11 : Int32) < nI c from ⟨nI_pos (by omega), nI_nlt (a := 11) (by omega) (by omega)⟩) (b2i_z c2)
    · replace c2 := b2i_nn c2
      refine t_go (op := o_aload 24 0) (fe_X12_tongs 23) (fun _ _ => rfl) ?_
      refine t_go (op := o_ci 25 0) (fe_X12_tongs 24) (fun _ _ => rfl) ?_
      refine t_go (op := o_iload 26 1) (fe_X12_tongs 25) (fun _ _ => rfl) ?_
      refine t_go (op := o_iload 27 2) (fe_X12_tongs 26) (fun _ _ => rfl) ?_
      refine t_call (op := o_callV 30 223 4 11) (fe_X12_tongs 27) (g_callV hS (show (lay 183).1 = 11 by decide) (by decide) rfl rfl rfl (Nat.le_of_ble_eq_true rfl)) ?_
      refine M_eq (r_mayCarry (b := 0) hS hE hm hW.1 hB5 (by decide) (e := e) (c := c) (by omega) hc) ?_
      refine t_ite (op := o_if 35 33 (fun x => x = 0) (fun _ => inferInstance)) (fe_X12_tongs 30) g_if (fun c3 => ?_) (fun c3 => ?_)
      · replace c3 := b2i_z c3
        refine t_go (op := o_ci 34 0) (fe_X12_tongs 33) (fun _ _ => rfl) ?_
        refine t_ret (op := o_zret) (fe_X12_tongs 34) (g_zret (Or.inl rfl)) ?_
        exact ⟨rfl, rfl⟩
      · exact absurd (b2i_nn c3) hh
theorem r_fuelP {d : Nat} {k h : AHP} {m n g T u : Nat} {F : FS} {P : Nat → FS} (hP : CP k h g n m) (hW : FW m T F) (hB0 : RB (k.1 197) 0 F) (hT : T < 90000) (hu : k.1 183 23 = nI u) (h16 : u ≤ 16) (hPs : RP (k.1 197) u P) {e x : Nat} (he : e < m) (hx1 : 1 ≤ x) (hx : x ≤ 9) (hh : hasF F (nI e)) : MM (d + 5) 225 [.ref 183, .int (nI e), .int (nI x)] k (fun v h2 => v = some (.int ((addFuelF F (nI e) (nI x)).2.2.1 e)) ∧ Zf dz (sI k 183 23 (nI (kpU u))) h2 ∧ RB (h2.1 197) 0 (addFuelF F (nI e) (nI x)) ∧ RP (h2.1 197) (kpU u) (kpP P F u)) := by
  refine ⟨Nat.le_of_ble_eq_true rfl, ?_⟩
  have hm := hP.1.2.2.1
  have hS := hP.1.1
  have hE := hP.1.2.1
  refine t_go (op := o_aload 1 0) (fe_X12_fuel 0) (fun _ _ => rfl) ?_
  refine t_go (op := o_ci 2 0) (fe_X12_fuel 1) (fun _ _ => rfl) ?_
  refine t_go (op := o_putI 5 11 0) (fe_X12_fuel 2) (g_putI hS (show (lay 183).1 = 11 by decide) (by decide)) ?_
  have hB5 : RB ((sI k 183 0 0).1 197) 0 F := by rw [sI_ne (by decide)]; exact hB0
  have hP5 := hP.thr (v := 0)
  replace hS := hP5.1.1
  replace hE := hP5.1.2.1
  refine t_go (op := o_aload 6 0) (fe_X12_fuel 5) (fun _ _ => rfl) ?_
  refine t_go (op := o_iload 7 1) (fe_X12_fuel 6) (fun _ _ => rfl) ?_
  refine t_call (op := o_callV 10 202 2 11) (fe_X12_fuel 7) (g_callV hS (show (lay 183).1 = 11 by decide) (by decide) rfl rfl rfl (Nat.le_of_ble_eq_true rfl)) ?_
  refine M_eq (r_isEmber (by exact hS) (by exact hE)) ?_
  refine t_ite (op := o_if 13 32 (fun x => x = 0) (fun _ => inferInstance)) (fe_X12_fuel 10) g_if (fun c1 => ?_) (fun c1 => ?_)
  · exact absurd (isE he hm) (b2i_z c1)
  · replace c1 := b2i_nn c1
    refine t_go (op := o_iload 14 2) (fe_X12_fuel 13) (fun _ _ => rfl) ?_
    refine t_go (op := o_ci 15 1) (fe_X12_fuel 14) (fun _ _ => rfl) ?_
    refine t_go (op := o_ci 17 9) (fe_X12_fuel 15) (fun _ _ => rfl) ?_
    refine t_call (op := o_callS 20 173 3) (fe_X12_fuel 17) (g_callS rfl rfl rfl (Nat.le_of_ble_eq_true rfl)) ?_
    refine M_eq r_within ?_
    refine t_ite (op := o_if 23 32 (fun x => x = 0) (fun _ => inferInstance)) (fe_X12_fuel 20) g_if (fun c2 => ?_) (fun c2 => ?_)
    · exact absurd (show ¬ nI x < 1 ∧ ¬ (9 : Int32) < nI x from ⟨nI_nlt (b := 1) hx1 (by omega), nI_nlt (a := 9) (by omega) (by omega)⟩) (b2i_z c2)
    · replace c2 := b2i_nn c2
      refine t_go (op := o_aload 24 0) (fe_X12_fuel 23) (fun _ _ => rfl) ?_
      refine t_go (op := o_ci 25 0) (fe_X12_fuel 24) (fun _ _ => rfl) ?_
      refine t_go (op := o_iload 26 1) (fe_X12_fuel 25) (fun _ _ => rfl) ?_
      refine t_call (op := o_callV 29 203 3 11) (fe_X12_fuel 26) (g_callV hS (show (lay 183).1 = 11 by decide) (by decide) rfl rfl rfl (Nat.le_of_ble_eq_true rfl)) ?_
      refine M_eq (r_isThere (b := 0) hS hW.1 hB5 (by decide) (e := e) (by omega)) ?_
      refine t_ite (op := o_if 34 32 (fun x => x = 0) (fun _ => inferInstance)) (fe_X12_fuel 29) g_if (fun c3 => ?_) (fun c3 => ?_)
      · exact absurd hh (b2i_z c3)
      · replace c3 := b2i_nn c3
        refine t_go (op := o_aload 35 0) (fe_X12_fuel 34) (fun _ _ => rfl) ?_
        refine t_call (op := o_callV 38 199 1 11) (fe_X12_fuel 35) (g_callV hS (show (lay 183).1 = 11 by decide) (by decide) rfl rfl rfl (Nat.le_of_ble_eq_true rfl)) ?_
        refine M_mono ?_ (r_keeps (k := sI k 183 0 0) (P := P) hS hu (by rw [sI_ne (by decide)]; exact hB0) (fun a ha => by rw [sI_ne (by decide)]; exact hPs a ha) h16)
        rintro _ h2 ⟨rfl, hz2, hkp⟩
        have hz : Zf dz (sI k 183 23 (nI (kpU u))) h2 := s23_thr.tr (hz2.mono dz_p)
        have hPS := (hP.s23 (v := nI (kpU u))).zf hz
        have hS := hPS.1.1
        have hE := hPS.1.2.1
        have hB1 : RB (h2.1 197) 0 F := RB.zf (k := sI (sI k 183 0 0) 183 23 (nI (kpU u))) (by rw [sI_ne (by decide), sI_ne (by decide)]; exact hB0) hz2 pst0
        clear hz2
        refine t_go (op := o_aload 39 0) (fe_X12_fuel 38) (fun _ _ => rfl) ?_
        refine t_go (op := o_ci 40 0) (fe_X12_fuel 39) (fun _ _ => rfl) ?_
        refine t_go (op := o_iload 41 1) (fe_X12_fuel 40) (fun _ _ => rfl) ?_
        refine t_go (op := o_iload 42 2) (fe_X12_fuel 41) (fun _ _ => rfl) ?_
        refine t_call (op := o_callV 45 218 4 11) (fe_X12_fuel 42) (g_callV hS (show (lay 183).1 = 11 by decide) (by decide) rfl rfl rfl (Nat.le_of_ble_eq_true rfl)) ?_
        refine M_mono ?_ (r_feeds (b := 0) hPS.1 hW.1 hB1 (by decide) (e := e) (by omega) hh)
        rintro _ h3 ⟨rfl, hz3, hB2⟩
        have hkp2 : RP (h3.1 197) (kpU u) (kpP P F u) := RP.zf hkp hz3 (fun i h1 q => by have := q.2; omega)
        replace hz := hz.tr (hz3.mono dz_0)
        replace hS := ((hP.s23 (v := nI (kpU u))).zf hz).1.1
        refine t_go (op := o_aload 46 0) (fe_X12_fuel 45) (fun _ _ => rfl) ?_
        refine t_go (op := o_getR 49 11 22) (fe_X12_fuel 46) (g_getR hS (show (lay 183).1 = 11 by decide) (by decide) (fr_11_22 hS) (by decide)) ?_
        refine t_go (op := o_ci 51 16) (fe_X12_fuel 49) (fun _ _ => rfl) ?_
        refine t_go (op := o_iload 52 1) (fe_X12_fuel 51) (fun _ _ => rfl) ?_
        refine t_go (op := o_i2 53 (fun x y => x + y)) (fe_X12_fuel 52) (fun _ _ => rfl) ?_
        refine t_go (op := o_iald 54) (fe_X12_fuel 53) (g_ialdN hS (show lay 197 = (20, 966) by decide) (nIa (nIl 16) rfl) (by omega) (by decide)) ?_
        rw [show h3.1 197 (16 + e) = (addFuelF F (nI e) (nI x)).2.2.1 e from by have := (hB2.1 e (by omega)).2.2; rw [Nat.zero_add] at this; exact this]
        refine t_ret (op := o_iret) (fe_X12_fuel 54) (fun _ _ => rfl) ?_
        exact ⟨rfl, hz, hB2, hkp2⟩
theorem r_fuelF {d : Nat} {k h : AHP} {m n g T u : Nat} {F : FS} {P : Nat → FS} (hP : CP k h g n m) (hW : FW m T F) (hB0 : RB (k.1 197) 0 F) (hT : T < 90000) (hu : k.1 183 23 = nI u) (h16 : u ≤ 16) (hPs : RP (k.1 197) u P) {x y : Int32} (hn : ¬ (¬ x < 0 ∧ x < nI m)) : MM (d + 5) 225 [.ref 183, .int x, .int y] k (fun v h2 => v = some (.int (-1)) ∧ h2 = sI k 183 0 0) := by
  refine ⟨Nat.le_of_ble_eq_true rfl, ?_⟩
  have hm := hP.1.2.2.1
  have hS := hP.1.1
  have hE := hP.1.2.1
  refine t_go (op := o_aload 1 0) (fe_X12_fuel 0) (fun _ _ => rfl) ?_
  refine t_go (op := o_ci 2 0) (fe_X12_fuel 1) (fun _ _ => rfl) ?_
  refine t_go (op := o_putI 5 11 0) (fe_X12_fuel 2) (g_putI hS (show (lay 183).1 = 11 by decide) (by decide)) ?_
  have hB5 : RB ((sI k 183 0 0).1 197) 0 F := by rw [sI_ne (by decide)]; exact hB0
  have hP5 := hP.thr (v := 0)
  replace hS := hP5.1.1
  replace hE := hP5.1.2.1
  refine t_go (op := o_aload 6 0) (fe_X12_fuel 5) (fun _ _ => rfl) ?_
  refine t_go (op := o_iload 7 1) (fe_X12_fuel 6) (fun _ _ => rfl) ?_
  refine t_call (op := o_callV 10 202 2 11) (fe_X12_fuel 7) (g_callV hS (show (lay 183).1 = 11 by decide) (by decide) rfl rfl rfl (Nat.le_of_ble_eq_true rfl)) ?_
  refine M_eq (r_isEmber (by exact hS) (by exact hE)) ?_
  refine t_ite (op := o_if 13 32 (fun x => x = 0) (fun _ => inferInstance)) (fe_X12_fuel 10) g_if (fun c1 => ?_) (fun c1 => ?_)
  · replace c1 := b2i_z c1
    refine t_go (op := o_ci 33 (-1)) (fe_X12_fuel 32) (fun _ _ => rfl) ?_
    refine t_ret (op := o_iret) (fe_X12_fuel 33) (fun _ _ => rfl) ?_
    exact ⟨rfl, rfl⟩
  · exact absurd (b2i_nn c1) hn
theorem r_fuelG {d : Nat} {k h : AHP} {m n g T u : Nat} {F : FS} {P : Nat → FS} (hP : CP k h g n m) (hW : FW m T F) (hB0 : RB (k.1 197) 0 F) (hT : T < 90000) (hu : k.1 183 23 = nI u) (h16 : u ≤ 16) (hPs : RP (k.1 197) u P) {e : Nat} (he : e < m) {y : Int32} (hn : ¬ (¬ y < 1 ∧ ¬ 9 < y)) : MM (d + 5) 225 [.ref 183, .int (nI e), .int y] k (fun v h2 => v = some (.int (-1)) ∧ h2 = sI k 183 0 0) := by
  refine ⟨Nat.le_of_ble_eq_true rfl, ?_⟩
  have hm := hP.1.2.2.1
  have hS := hP.1.1
  have hE := hP.1.2.1
  refine t_go (op := o_aload 1 0) (fe_X12_fuel 0) (fun _ _ => rfl) ?_
  refine t_go (op := o_ci 2 0) (fe_X12_fuel 1) (fun _ _ => rfl) ?_
  refine t_go (op := o_putI 5 11 0) (fe_X12_fuel 2) (g_putI hS (show (lay 183).1 = 11 by decide) (by decide)) ?_
  have hB5 : RB ((sI k 183 0 0).1 197) 0 F := by rw [sI_ne (by decide)]; exact hB0
  have hP5 := hP.thr (v := 0)
  replace hS := hP5.1.1
  replace hE := hP5.1.2.1
  refine t_go (op := o_aload 6 0) (fe_X12_fuel 5) (fun _ _ => rfl) ?_
  refine t_go (op := o_iload 7 1) (fe_X12_fuel 6) (fun _ _ => rfl) ?_
  refine t_call (op := o_callV 10 202 2 11) (fe_X12_fuel 7) (g_callV hS (show (lay 183).1 = 11 by decide) (by decide) rfl rfl rfl (Nat.le_of_ble_eq_true rfl)) ?_
  refine M_eq (r_isEmber (by exact hS) (by exact hE)) ?_
  refine t_ite (op := o_if 13 32 (fun x => x = 0) (fun _ => inferInstance)) (fe_X12_fuel 10) g_if (fun c1 => ?_) (fun c1 => ?_)
  · exact absurd (isE he hm) (b2i_z c1)
  · replace c1 := b2i_nn c1
    refine t_go (op := o_iload 14 2) (fe_X12_fuel 13) (fun _ _ => rfl) ?_
    refine t_go (op := o_ci 15 1) (fe_X12_fuel 14) (fun _ _ => rfl) ?_
    refine t_go (op := o_ci 17 9) (fe_X12_fuel 15) (fun _ _ => rfl) ?_
    refine t_call (op := o_callS 20 173 3) (fe_X12_fuel 17) (g_callS rfl rfl rfl (Nat.le_of_ble_eq_true rfl)) ?_
    refine M_eq r_within ?_
    refine t_ite (op := o_if 23 32 (fun x => x = 0) (fun _ => inferInstance)) (fe_X12_fuel 20) g_if (fun c2 => ?_) (fun c2 => ?_)
    · replace c2 := b2i_z c2
      refine t_go (op := o_ci 33 (-1)) (fe_X12_fuel 32) (fun _ _ => rfl) ?_
      refine t_ret (op := o_iret) (fe_X12_fuel 33) (fun _ _ => rfl) ?_
      exact ⟨rfl, rfl⟩
    · exact absurd (b2i_nn c2) hn
theorem r_fuelA {d : Nat} {k h : AHP} {m n g T u : Nat} {F : FS} {P : Nat → FS} (hP : CP k h g n m) (hW : FW m T F) (hB0 : RB (k.1 197) 0 F) (hT : T < 90000) (hu : k.1 183 23 = nI u) (h16 : u ≤ 16) (hPs : RP (k.1 197) u P) {e : Nat} (he : e < m) {y : Int32} (hy : ¬ y < 1 ∧ ¬ 9 < y) (hh : ¬ hasF F (nI e)) : MM (d + 5) 225 [.ref 183, .int (nI e), .int y] k (fun v h2 => v = some (.int (-1)) ∧ h2 = sI k 183 0 0) := by
  refine ⟨Nat.le_of_ble_eq_true rfl, ?_⟩
  have hm := hP.1.2.2.1
  have hS := hP.1.1
  have hE := hP.1.2.1
  refine t_go (op := o_aload 1 0) (fe_X12_fuel 0) (fun _ _ => rfl) ?_
  refine t_go (op := o_ci 2 0) (fe_X12_fuel 1) (fun _ _ => rfl) ?_
  refine t_go (op := o_putI 5 11 0) (fe_X12_fuel 2) (g_putI hS (show (lay 183).1 = 11 by decide) (by decide)) ?_
  have hB5 : RB ((sI k 183 0 0).1 197) 0 F := by rw [sI_ne (by decide)]; exact hB0
  have hP5 := hP.thr (v := 0)
  replace hS := hP5.1.1
  replace hE := hP5.1.2.1
  refine t_go (op := o_aload 6 0) (fe_X12_fuel 5) (fun _ _ => rfl) ?_
  refine t_go (op := o_iload 7 1) (fe_X12_fuel 6) (fun _ _ => rfl) ?_
  refine t_call (op := o_callV 10 202 2 11) (fe_X12_fuel 7) (g_callV hS (show (lay 183).1 = 11 by decide) (by decide) rfl rfl rfl (Nat.le_of_ble_eq_true rfl)) ?_
  refine M_eq (r_isEmber (by exact hS) (by exact hE)) ?_
  refine t_ite (op := o_if 13 32 (fun x => x = 0) (fun _ => inferInstance)) (fe_X12_fuel 10) g_if (fun c1 => ?_) (fun c1 => ?_)
  · exact absurd (isE he hm) (b2i_z c1)
  · replace c1 := b2i_nn c1
    refine t_go (op := o_iload 14 2) (fe_X12_fuel 13) (fun _ _ => rfl) ?_
    refine t_go (op := o_ci 15 1) (fe_X12_fuel 14) (fun _ _ => rfl) ?_
    refine t_go (op := o_ci 17 9) (fe_X12_fuel 15) (fun _ _ => rfl) ?_
    refine t_call (op := o_callS 20 173 3) (fe_X12_fuel 17) (g_callS rfl rfl rfl (Nat.le_of_ble_eq_true rfl)) ?_
    refine M_eq r_within ?_
    refine t_ite (op := o_if 23 32 (fun x => x = 0) (fun _ => inferInstance)) (fe_X12_fuel 20) g_if (fun c2 => ?_) (fun c2 => ?_)
    · exact absurd hy (b2i_z c2)
    · replace c2 := b2i_nn c2
      refine t_go (op := o_aload 24 0) (fe_X12_fuel 23) (fun _ _ => rfl) ?_
      refine t_go (op := o_ci 25 0) (fe_X12_fuel 24) (fun _ _ => rfl) ?_
      refine t_go (op := o_iload 26 1) (fe_X12_fuel 25) (fun _ _ => rfl) ?_
      refine t_call (op := o_callV 29 203 3 11) (fe_X12_fuel 26) (g_callV hS (show (lay 183).1 = 11 by decide) (by decide) rfl rfl rfl (Nat.le_of_ble_eq_true rfl)) ?_
      refine M_eq (r_isThere (b := 0) hS hW.1 hB5 (by decide) (e := e) (by omega)) ?_
      refine t_ite (op := o_if 34 32 (fun x => x = 0) (fun _ => inferInstance)) (fe_X12_fuel 29) g_if (fun c3 => ?_) (fun c3 => ?_)
      · replace c3 := b2i_z c3
        refine t_go (op := o_ci 33 (-1)) (fe_X12_fuel 32) (fun _ _ => rfl) ?_
        refine t_ret (op := o_iret) (fe_X12_fuel 33) (fun _ _ => rfl) ?_
        exact ⟨rfl, rfl⟩
      · exact absurd (b2i_nn c3) hh
theorem r_bankP {d : Nat} {k h : AHP} {m n g T u : Nat} {F : FS} {P : Nat → FS} (hP : CP k h g n m) (hW : FW m T F) (hB0 : RB (k.1 197) 0 F) (hT : T < 90000) (hu : k.1 183 23 = nI u) (h16 : u ≤ 16) (hPs : RP (k.1 197) u P)  : MM (d + 5) 226 [.ref 183] k (fun v h2 => v = some (.int ((bankF F).2.2.2.2.2)) ∧ Zf dz (sI k 183 23 (nI (kpU u))) h2 ∧ RB (h2.1 197) 0 (bankF F) ∧ RP (h2.1 197) (kpU u) (kpP P F u)) := by
  refine ⟨Nat.le_of_ble_eq_true rfl, ?_⟩
  have hm := hP.1.2.2.1
  have hS := hP.1.1
  have hE := hP.1.2.1
  refine t_go (op := o_aload 1 0) (fe_X12_bank 0) (fun _ _ => rfl) ?_
  refine t_go (op := o_ci 2 0) (fe_X12_bank 1) (fun _ _ => rfl) ?_
  refine t_go (op := o_putI 5 11 0) (fe_X12_bank 2) (g_putI hS (show (lay 183).1 = 11 by decide) (by decide)) ?_
  have hB5 : RB ((sI k 183 0 0).1 197) 0 F := by rw [sI_ne (by decide)]; exact hB0
  have hP5 := hP.thr (v := 0)
  replace hS := hP5.1.1
  replace hE := hP5.1.2.1
  refine t_go (op := o_aload 6 0) (fe_X12_bank 5) (fun _ _ => rfl) ?_
  refine t_call (op := o_callV 9 199 1 11) (fe_X12_bank 6) (g_callV hS (show (lay 183).1 = 11 by decide) (by decide) rfl rfl rfl (Nat.le_of_ble_eq_true rfl)) ?_
  refine M_mono ?_ (r_keeps (k := sI k 183 0 0) (P := P) hS hu (by rw [sI_ne (by decide)]; exact hB0) (fun a ha => by rw [sI_ne (by decide)]; exact hPs a ha) h16)
  rintro _ h2 ⟨rfl, hz2, hkp⟩
  have hz : Zf dz (sI k 183 23 (nI (kpU u))) h2 := s23_thr.tr (hz2.mono dz_p)
  have hPS := (hP.s23 (v := nI (kpU u))).zf hz
  have hS := hPS.1.1
  have hE := hPS.1.2.1
  have hB1 : RB (h2.1 197) 0 F := RB.zf (k := sI (sI k 183 0 0) 183 23 (nI (kpU u))) (by rw [sI_ne (by decide), sI_ne (by decide)]; exact hB0) hz2 pst0
  clear hz2
  refine t_go (op := o_aload 10 0) (fe_X12_bank 9) (fun _ _ => rfl) ?_
  refine t_go (op := o_getR 13 11 22) (fe_X12_bank 10) (g_getR hS (show (lay 183).1 = 11 by decide) (by decide) (fr_11_22 hS) (by decide)) ?_
  refine t_go (op := o_ci 14 1) (fe_X12_bank 13) (fun _ _ => rfl) ?_
  refine t_go (op := o_ci 15 1) (fe_X12_bank 14) (fun _ _ => rfl) ?_
  refine t_go (op := o_aload 16 0) (fe_X12_bank 15) (fun _ _ => rfl) ?_
  refine t_go (op := o_getR 19 11 22) (fe_X12_bank 16) (g_getR hS (show (lay 183).1 = 11 by decide) (by decide) (fr_11_22 hS) (by decide)) ?_
  refine t_go (op := o_ci 20 1) (fe_X12_bank 19) (fun _ _ => rfl) ?_
  refine t_go (op := o_iald 21) (fe_X12_bank 20) (g_ialdN hS (show lay 197 = (20, 966) by decide) (nIl 1) (by omega) (by decide)) ?_
  rw [show h2.1 197 1 = F.2.2.2.2.2 from hB1.2.2]
  refine t_go (op := o_i2 22 (fun x y => x - y)) (fe_X12_bank 21) (fun _ _ => rfl) ?_
  refine t_go (op := o_iast 23) (fe_X12_bank 22) (g_iastN hS (show lay 197 = (20, 966) by decide) (nIl 1) (by omega) (by decide)) ?_
  have hz3 : Zf (blk 0) h2 (sI h2 197 1 (1 - F.2.2.2.2.2)) := Zf_st Zf.rf (by decide)
  have hB2 : RB ((sI h2 197 1 (1 - F.2.2.2.2.2)).1 197) 0 (bankF F) := by
    have := RB_bank (x := 1 - F.2.2.2.2.2) hB1
    rw [show (F.1, F.2.1, F.2.2.1, F.2.2.2.1, F.2.2.2.2.1, 1 - F.2.2.2.2.2) = bankF F from by rw [bank_1 hW.1]; rfl] at this
    exact this
  have hkp2 : RP ((sI h2 197 1 (1 - F.2.2.2.2.2)).1 197) (kpU u) (kpP P F u) := RP.zf hkp hz3 (fun i h1 q => by have := q.2; omega)
  replace hz := hz.tr (hz3.mono dz_0)
  refine t_go (op := o_aload 24 0) (fe_X12_bank 23) (fun _ _ => rfl) ?_
  refine t_go (op := o_getR 27 11 22) (fe_X12_bank 24) (g_getR hS (show (lay 183).1 = 11 by decide) (by decide) (fr_11_22 hS) (by decide)) ?_
  refine t_go (op := o_ci 28 1) (fe_X12_bank 27) (fun _ _ => rfl) ?_
  refine t_go (op := o_iald 29) (fe_X12_bank 28) (g_ialdN hS (show lay 197 = (20, 966) by decide) (nIl 1) (by omega) (by decide)) ?_
  rw [show (sI h2 197 1 ((fun x y => x - y) 1 F.2.2.2.2.2)).1 197 1 = (bankF F).2.2.2.2.2 from hB2.2.2]
  refine t_go (op := o_ci 30 1) (fe_X12_bank 29) (fun _ _ => rfl) ?_
  refine t_ite (op := o_icmp 37 33 (fun x y => x = y) (fun _ _ => inferInstance)) (fe_X12_bank 30) g_icmp (fun c1 => ?_) (fun c1 => ?_)
  · refine t_go (op := o_ci 34 1) (fe_X12_bank 33) (fun _ _ => rfl) ?_
    refine t_go (op := o_goto 38) (fe_X12_bank 34) (fun _ _ => rfl) ?_
    refine t_ret (op := o_zret) (fe_X12_bank 38) (g_zret (Or.inr rfl)) ?_
    exact ⟨by rw [c1], hz, hB2, hkp2⟩
  · refine t_go (op := o_ci 38 0) (fe_X12_bank 37) (fun _ _ => rfl) ?_
    refine t_ret (op := o_zret) (fe_X12_bank 38) (g_zret (Or.inl rfl)) ?_
    exact ⟨by rw [show (bankF F).2.2.2.2.2 = 0 from (FV_bank hW.1).2.2.2.resolve_right c1], hz, hB2, hkp2⟩
theorem r_undo {d : Nat} {k : AHP} {u : Nat} {F : FS} {P : Nat → FS} (hS : Std k) (hu : k.1 183 23 = nI u) (h16 : u ≤ 16) (hPs : RP (k.1 197) u P) (h0 : 1 ≤ u) : MM (d + 1) 227 [.ref 183] k (fun v h2 => v = some (.int 1) ∧ Zf (fun i => i < 23) (sI k 183 23 (nI (u - 1))) h2 ∧ RB (h2.1 197) 0 (P (u - 1))) := by
  refine ⟨Nat.le_of_ble_eq_true rfl, ?_⟩
  refine t_go (op := o_aload 1 0) (fe_X12_undo 0) (fun _ _ => rfl) ?_
  refine t_go (op := o_ci 2 0) (fe_X12_undo 1) (fun _ _ => rfl) ?_
  refine t_go (op := o_putI 5 11 0) (fe_X12_undo 2) (g_putI hS (show (lay 183).1 = 11 by decide) (by decide)) ?_
  refine t_go (op := o_aload 6 0) (fe_X12_undo 5) (fun _ _ => rfl) ?_
  refine t_go (op := o_getI 9 11 23) (fe_X12_undo 6) (g_getI hS (show (lay 183).1 = 11 by decide) (by decide)) ?_
  rw [show (sI k 183 0 0).1 183 23 = nI u from hu]
  refine t_ite (op := o_if 14 12 (fun x => x = 0) (fun _ => inferInstance)) (fe_X12_undo 9) g_if (fun c1 => ?_) (fun c1 => ?_)
  · exact absurd c1 (nI_nz h0 (by omega))
  · refine t_go (op := o_aload 15 0) (fe_X12_undo 14) (fun _ _ => rfl) ?_
    refine t_go (op := o_dupA 16) (fe_X12_undo 15) (fun _ _ => rfl) ?_
    refine t_go (op := o_getI 19 11 23) (fe_X12_undo 16) (g_getI hS (show (lay 183).1 = 11 by decide) (by decide)) ?_
    rw [show (sI k 183 0 0).1 183 23 = nI u from hu]
    refine t_go (op := o_ci 20 1) (fe_X12_undo 19) (fun _ _ => rfl) ?_
    refine t_go (op := o_i2 21 (fun x y => x - y)) (fe_X12_undo 20) (fun _ _ => rfl) ?_
    refine t_go (op := o_putI 24 11 23) (fe_X12_undo 21) (g_putI hS (show (lay 183).1 = 11 by decide) (by decide)) ?_
    rw [show (fun x y : Int32 => x - y) (nI u) 1 = nI (u - 1) from nIs rfl rfl h0]
    refine t_go (op := o_aload 25 0) (fe_X12_undo 24) (fun _ _ => rfl) ?_
    refine t_go (op := o_ci 27 42) (fe_X12_undo 25) (fun _ _ => rfl) ?_
    refine t_go (op := o_ci 28 5) (fe_X12_undo 27) (fun _ _ => rfl) ?_
    refine t_go (op := o_aload 29 0) (fe_X12_undo 28) (fun _ _ => rfl) ?_
    refine t_go (op := o_getI 32 11 23) (fe_X12_undo 29) (g_getI hS (show (lay 183).1 = 11 by decide) (by decide)) ?_
    rw [sI_eq]
    refine t_go (op := o_i2 33 (fun x y => x + y)) (fe_X12_undo 32) (fun _ _ => rfl) ?_
    refine t_go (op := o_i2 34 (fun x y => x * y)) (fe_X12_undo 33) (fun _ _ => rfl) ?_
    refine t_go (op := o_ci 35 0) (fe_X12_undo 34) (fun _ _ => rfl) ?_
    refine t_go (op := o_ci 37 23) (fe_X12_undo 35) (fun _ _ => rfl) ?_
    refine t_call (op := o_callV 40 196 4 11) (fe_X12_undo 37) (g_callV hS (show (lay 183).1 = 11 by decide) (by decide) rfl rfl rfl (Nat.le_of_ble_eq_true rfl)) ?_
    refine M_args2 (nIm (nIl 42) (nIa (nIl 5) rfl)) rfl ?_
    refine M_mono ?_ (r_copies (k := sI (sI k 183 0 0) 183 23 (nI (u - 1))) (p := 42 * (5 + (u - 1))) (q := 0) (c := 23) hS (by omega) (by omega) (by omega))
    rintro _ h2 ⟨rfl, hz2, hc⟩
    refine t_go (op := o_ci 41 1) (fe_X12_undo 40) (fun _ _ => rfl) ?_
    refine t_ret (op := o_zret) (fe_X12_undo 41) (g_zret (Or.inr rfl)) ?_
    exact ⟨rfl, s23_thr.tr (hz2.mono (fun i q => by have := q.2; omega)), RB_copy hc (by rw [sI_ne (by decide), sI_ne (by decide)]; exact hPs (u - 1) (by omega))⟩
theorem r_undoF {d : Nat} {k : AHP} {u : Nat} (hS : Std k) (hu : k.1 183 23 = nI u) (h0 : u = 0) : MM (d + 1) 227 [.ref 183] k (fun v h2 => v = some (.int 0) ∧ h2 = sI k 183 0 0) := by
  refine ⟨Nat.le_of_ble_eq_true rfl, ?_⟩
  refine t_go (op := o_aload 1 0) (fe_X12_undo 0) (fun _ _ => rfl) ?_
  refine t_go (op := o_ci 2 0) (fe_X12_undo 1) (fun _ _ => rfl) ?_
  refine t_go (op := o_putI 5 11 0) (fe_X12_undo 2) (g_putI hS (show (lay 183).1 = 11 by decide) (by decide)) ?_
  refine t_go (op := o_aload 6 0) (fe_X12_undo 5) (fun _ _ => rfl) ?_
  refine t_go (op := o_getI 9 11 23) (fe_X12_undo 6) (g_getI hS (show (lay 183).1 = 11 by decide) (by decide)) ?_
  rw [show (sI k 183 0 0).1 183 23 = 0 from hu.trans (by rw [h0]; rfl)]
  refine t_ite (op := o_if 14 12 (fun x => x = 0) (fun _ => inferInstance)) (fe_X12_undo 9) g_if (fun c1 => ?_) (fun c1 => ?_)
  · clear c1
    refine t_go (op := o_ci 13 0) (fe_X12_undo 12) (fun _ _ => rfl) ?_
    refine t_ret (op := o_zret) (fe_X12_undo 13) (g_zret (Or.inl rfl)) ?_
    exact ⟨rfl, rfl⟩
  · exact absurd (by decide) c1
theorem r_ember0 {d : Nat} {k h : AHP} {m n g T u : Nat} {F : FS} {P : Nat → FS} (hP : CP k h g n m) (hW : FW m T F) (hB0 : RB (k.1 197) 0 F) (hT : T < 90000) (hu : k.1 183 23 = nI u) (h16 : u ≤ 16) (hPs : RP (k.1 197) u P) {e : Nat} (he : e < m) : MM (d + 5) 219 [.ref 183, .int (nI e), .int (0)] k (fun v h2 => v = some (.int (h.1 (g + 2) e)) ∧ h2 = sI k 183 0 0) := by
  refine ⟨Nat.le_of_ble_eq_true rfl, ?_⟩
  have hm := hP.1.2.2.1
  have hS := hP.1.1
  have hE := hP.1.2.1
  refine t_go (op := o_aload 1 0) (fe_X12_ember 0) (fun _ _ => rfl) ?_
  refine t_go (op := o_ci 2 0) (fe_X12_ember 1) (fun _ _ => rfl) ?_
  refine t_go (op := o_putI 5 11 0) (fe_X12_ember 2) (g_putI hS (show (lay 183).1 = 11 by decide) (by decide)) ?_
  have hB5 : RB ((sI k 183 0 0).1 197) 0 F := by rw [sI_ne (by decide)]; exact hB0
  have hP5 := hP.thr (v := 0)
  replace hS := hP5.1.1
  replace hE := hP5.1.2.1
  refine t_go (op := o_aload 6 0) (fe_X12_ember 5) (fun _ _ => rfl) ?_
  refine t_go (op := o_iload 7 1) (fe_X12_ember 6) (fun _ _ => rfl) ?_
  refine t_call (op := o_callV 10 202 2 11) (fe_X12_ember 7) (g_callV hS (show (lay 183).1 = 11 by decide) (by decide) rfl rfl rfl (Nat.le_of_ble_eq_true rfl)) ?_
  refine M_eq (r_isEmber (by exact hS) (by exact hE)) ?_
  refine t_ite (op := o_if 13 22 (fun x => x = 0) (fun _ => inferInstance)) (fe_X12_ember 10) g_if (fun c1 => ?_) (fun c1 => ?_)
  · exact absurd (isE he hm) (b2i_z c1)
  · replace c1 := b2i_nn c1
    refine t_go (op := o_iload 14 2) (fe_X12_ember 13) (fun _ _ => rfl) ?_
    refine t_go (op := o_ci 15 0) (fe_X12_ember 14) (fun _ _ => rfl) ?_
    refine t_go (op := o_ci 16 4) (fe_X12_ember 15) (fun _ _ => rfl) ?_
    refine t_call (op := o_callS 19 173 3) (fe_X12_ember 16) (g_callS rfl rfl rfl (Nat.le_of_ble_eq_true rfl)) ?_
    refine M_eq r_within ?_
    refine t_ite (op := o_if 25 22 (fun x => x = 0) (fun _ => inferInstance)) (fe_X12_ember 19) g_if (fun c2 => ?_) (fun c2 => ?_)
    · exact absurd (by decide) (b2i_z c2)
    · replace c2 := b2i_nn c2
      refine t_go (op := o_iload 26 2) (fe_X12_ember 25) (fun _ _ => rfl) ?_
      refine t_go (op := o_sw (swT 0 [56, 63, 72, 82] 92)) (fe_X12_ember 26) (fun _ _ => rfl) ?_
      rw [show swT 0 [56, 63, 72, 82] 92 (0 : Int32) = 56 by decide +kernel]
      refine t_go (op := o_aload 57 0) (fe_X12_ember 56) (fun _ _ => rfl) ?_
      refine t_go (op := o_iload 58 1) (fe_X12_ember 57) (fun _ _ => rfl) ?_
      refine t_go (op := o_ci 59 0) (fe_X12_ember 58) (fun _ _ => rfl) ?_
      refine t_call (op := o_callV 62 201 3 11) (fe_X12_ember 59) (g_callV hS (show (lay 183).1 = 11 by decide) (by decide) rfl rfl rfl (Nat.le_of_ble_eq_true rfl)) ?_
      refine M_eq (r_emberOf (by exact hS) (e := e) (w := 0) (by omega)) ?_
      rw [show (sI k 183 0 0).1 189 (4 + 4 * e + 0) = h.1 (g + 2) e from hP.1.2.2.2.1 e he]
      refine t_ret (op := o_iret) (fe_X12_ember 62) (fun _ _ => rfl) ?_
      exact ⟨rfl, rfl⟩
theorem r_ember1 {d : Nat} {k h : AHP} {m n g T u : Nat} {F : FS} {P : Nat → FS} (hP : CP k h g n m) (hW : FW m T F) (hB0 : RB (k.1 197) 0 F) (hT : T < 90000) (hu : k.1 183 23 = nI u) (h16 : u ≤ 16) (hPs : RP (k.1 197) u P) {e : Nat} (he : e < m) : MM (d + 5) 219 [.ref 183, .int (nI e), .int (1)] k (fun v h2 => v = some (.int (F.1 e)) ∧ h2 = sI k 183 0 0) := by
  refine ⟨Nat.le_of_ble_eq_true rfl, ?_⟩
  have hm := hP.1.2.2.1
  have hS := hP.1.1
  have hE := hP.1.2.1
  refine t_go (op := o_aload 1 0) (fe_X12_ember 0) (fun _ _ => rfl) ?_
  refine t_go (op := o_ci 2 0) (fe_X12_ember 1) (fun _ _ => rfl) ?_
  refine t_go (op := o_putI 5 11 0) (fe_X12_ember 2) (g_putI hS (show (lay 183).1 = 11 by decide) (by decide)) ?_
  have hB5 : RB ((sI k 183 0 0).1 197) 0 F := by rw [sI_ne (by decide)]; exact hB0
  have hP5 := hP.thr (v := 0)
  replace hS := hP5.1.1
  replace hE := hP5.1.2.1
  refine t_go (op := o_aload 6 0) (fe_X12_ember 5) (fun _ _ => rfl) ?_
  refine t_go (op := o_iload 7 1) (fe_X12_ember 6) (fun _ _ => rfl) ?_
  refine t_call (op := o_callV 10 202 2 11) (fe_X12_ember 7) (g_callV hS (show (lay 183).1 = 11 by decide) (by decide) rfl rfl rfl (Nat.le_of_ble_eq_true rfl)) ?_
  refine M_eq (r_isEmber (by exact hS) (by exact hE)) ?_
  refine t_ite (op := o_if 13 22 (fun x => x = 0) (fun _ => inferInstance)) (fe_X12_ember 10) g_if (fun c1 => ?_) (fun c1 => ?_)
  · exact absurd (isE he hm) (b2i_z c1)
  · replace c1 := b2i_nn c1
    refine t_go (op := o_iload 14 2) (fe_X12_ember 13) (fun _ _ => rfl) ?_
    refine t_go (op := o_ci 15 0) (fe_X12_ember 14) (fun _ _ => rfl) ?_
    refine t_go (op := o_ci 16 4) (fe_X12_ember 15) (fun _ _ => rfl) ?_
    refine t_call (op := o_callS 19 173 3) (fe_X12_ember 16) (g_callS rfl rfl rfl (Nat.le_of_ble_eq_true rfl)) ?_
    refine M_eq r_within ?_
    refine t_ite (op := o_if 25 22 (fun x => x = 0) (fun _ => inferInstance)) (fe_X12_ember 19) g_if (fun c2 => ?_) (fun c2 => ?_)
    · exact absurd (by decide) (b2i_z c2)
    · replace c2 := b2i_nn c2
      refine t_go (op := o_iload 26 2) (fe_X12_ember 25) (fun _ _ => rfl) ?_
      refine t_go (op := o_sw (swT 0 [56, 63, 72, 82] 92)) (fe_X12_ember 26) (fun _ _ => rfl) ?_
      rw [show swT 0 [56, 63, 72, 82] 92 (1 : Int32) = 63 by decide +kernel]
      refine t_go (op := o_aload 64 0) (fe_X12_ember 63) (fun _ _ => rfl) ?_
      refine t_go (op := o_getR 67 11 22) (fe_X12_ember 64) (g_getR hS (show (lay 183).1 = 11 by decide) (by decide) (fr_11_22 hS) (by decide)) ?_
      refine t_go (op := o_ci 68 2) (fe_X12_ember 67) (fun _ _ => rfl) ?_
      refine t_go (op := o_iload 69 1) (fe_X12_ember 68) (fun _ _ => rfl) ?_
      refine t_go (op := o_i2 70 (fun x y => x + y)) (fe_X12_ember 69) (fun _ _ => rfl) ?_
      refine t_go (op := o_iald 71) (fe_X12_ember 70) (g_ialdN hS (show lay 197 = (20, 966) by decide) (nIa (nIl 2) rfl) (by omega) (by decide)) ?_
      rw [show (sI k 183 0 0).1 197 (2 + e) = F.1 e from by have := (hB5.1 e (by omega)).1; rw [Nat.zero_add] at this; exact this]
      refine t_ret (op := o_iret) (fe_X12_ember 71) (fun _ _ => rfl) ?_
      exact ⟨rfl, rfl⟩
theorem r_ember2 {d : Nat} {k h : AHP} {m n g T u : Nat} {F : FS} {P : Nat → FS} (hP : CP k h g n m) (hW : FW m T F) (hB0 : RB (k.1 197) 0 F) (hT : T < 90000) (hu : k.1 183 23 = nI u) (h16 : u ≤ 16) (hPs : RP (k.1 197) u P) {e : Nat} (he : e < m) : MM (d + 5) 219 [.ref 183, .int (nI e), .int (2)] k (fun v h2 => v = some (.int (F.2.1 e)) ∧ h2 = sI k 183 0 0) := by
  refine ⟨Nat.le_of_ble_eq_true rfl, ?_⟩
  have hm := hP.1.2.2.1
  have hS := hP.1.1
  have hE := hP.1.2.1
  refine t_go (op := o_aload 1 0) (fe_X12_ember 0) (fun _ _ => rfl) ?_
  refine t_go (op := o_ci 2 0) (fe_X12_ember 1) (fun _ _ => rfl) ?_
  refine t_go (op := o_putI 5 11 0) (fe_X12_ember 2) (g_putI hS (show (lay 183).1 = 11 by decide) (by decide)) ?_
  have hB5 : RB ((sI k 183 0 0).1 197) 0 F := by rw [sI_ne (by decide)]; exact hB0
  have hP5 := hP.thr (v := 0)
  replace hS := hP5.1.1
  replace hE := hP5.1.2.1
  refine t_go (op := o_aload 6 0) (fe_X12_ember 5) (fun _ _ => rfl) ?_
  refine t_go (op := o_iload 7 1) (fe_X12_ember 6) (fun _ _ => rfl) ?_
  refine t_call (op := o_callV 10 202 2 11) (fe_X12_ember 7) (g_callV hS (show (lay 183).1 = 11 by decide) (by decide) rfl rfl rfl (Nat.le_of_ble_eq_true rfl)) ?_
  refine M_eq (r_isEmber (by exact hS) (by exact hE)) ?_
  refine t_ite (op := o_if 13 22 (fun x => x = 0) (fun _ => inferInstance)) (fe_X12_ember 10) g_if (fun c1 => ?_) (fun c1 => ?_)
  · exact absurd (isE he hm) (b2i_z c1)
  · replace c1 := b2i_nn c1
    refine t_go (op := o_iload 14 2) (fe_X12_ember 13) (fun _ _ => rfl) ?_
    refine t_go (op := o_ci 15 0) (fe_X12_ember 14) (fun _ _ => rfl) ?_
    refine t_go (op := o_ci 16 4) (fe_X12_ember 15) (fun _ _ => rfl) ?_
    refine t_call (op := o_callS 19 173 3) (fe_X12_ember 16) (g_callS rfl rfl rfl (Nat.le_of_ble_eq_true rfl)) ?_
    refine M_eq r_within ?_
    refine t_ite (op := o_if 25 22 (fun x => x = 0) (fun _ => inferInstance)) (fe_X12_ember 19) g_if (fun c2 => ?_) (fun c2 => ?_)
    · exact absurd (by decide) (b2i_z c2)
    · replace c2 := b2i_nn c2
      refine t_go (op := o_iload 26 2) (fe_X12_ember 25) (fun _ _ => rfl) ?_
      refine t_go (op := o_sw (swT 0 [56, 63, 72, 82] 92)) (fe_X12_ember 26) (fun _ _ => rfl) ?_
      rw [show swT 0 [56, 63, 72, 82] 92 (2 : Int32) = 72 by decide +kernel]
      refine t_go (op := o_aload 73 0) (fe_X12_ember 72) (fun _ _ => rfl) ?_
      refine t_go (op := o_getR 76 11 22) (fe_X12_ember 73) (g_getR hS (show (lay 183).1 = 11 by decide) (by decide) (fr_11_22 hS) (by decide)) ?_
      refine t_go (op := o_ci 78 9) (fe_X12_ember 76) (fun _ _ => rfl) ?_
      refine t_go (op := o_iload 79 1) (fe_X12_ember 78) (fun _ _ => rfl) ?_
      refine t_go (op := o_i2 80 (fun x y => x + y)) (fe_X12_ember 79) (fun _ _ => rfl) ?_
      refine t_go (op := o_iald 81) (fe_X12_ember 80) (g_ialdN hS (show lay 197 = (20, 966) by decide) (nIa (nIl 9) rfl) (by omega) (by decide)) ?_
      rw [show (sI k 183 0 0).1 197 (9 + e) = F.2.1 e from by have := (hB5.1 e (by omega)).2.1; rw [Nat.zero_add] at this; exact this]
      refine t_ret (op := o_iret) (fe_X12_ember 81) (fun _ _ => rfl) ?_
      exact ⟨rfl, rfl⟩
theorem r_ember3 {d : Nat} {k h : AHP} {m n g T u : Nat} {F : FS} {P : Nat → FS} (hP : CP k h g n m) (hW : FW m T F) (hB0 : RB (k.1 197) 0 F) (hT : T < 90000) (hu : k.1 183 23 = nI u) (h16 : u ≤ 16) (hPs : RP (k.1 197) u P) {e : Nat} (he : e < m) : MM (d + 5) 219 [.ref 183, .int (nI e), .int (3)] k (fun v h2 => v = some (.int (F.2.2.1 e)) ∧ h2 = sI k 183 0 0) := by
  refine ⟨Nat.le_of_ble_eq_true rfl, ?_⟩
  have hm := hP.1.2.2.1
  have hS := hP.1.1
  have hE := hP.1.2.1
  refine t_go (op := o_aload 1 0) (fe_X12_ember 0) (fun _ _ => rfl) ?_
  refine t_go (op := o_ci 2 0) (fe_X12_ember 1) (fun _ _ => rfl) ?_
  refine t_go (op := o_putI 5 11 0) (fe_X12_ember 2) (g_putI hS (show (lay 183).1 = 11 by decide) (by decide)) ?_
  have hB5 : RB ((sI k 183 0 0).1 197) 0 F := by rw [sI_ne (by decide)]; exact hB0
  have hP5 := hP.thr (v := 0)
  replace hS := hP5.1.1
  replace hE := hP5.1.2.1
  refine t_go (op := o_aload 6 0) (fe_X12_ember 5) (fun _ _ => rfl) ?_
  refine t_go (op := o_iload 7 1) (fe_X12_ember 6) (fun _ _ => rfl) ?_
  refine t_call (op := o_callV 10 202 2 11) (fe_X12_ember 7) (g_callV hS (show (lay 183).1 = 11 by decide) (by decide) rfl rfl rfl (Nat.le_of_ble_eq_true rfl)) ?_
  refine M_eq (r_isEmber (by exact hS) (by exact hE)) ?_
  refine t_ite (op := o_if 13 22 (fun x => x = 0) (fun _ => inferInstance)) (fe_X12_ember 10) g_if (fun c1 => ?_) (fun c1 => ?_)
  · exact absurd (isE he hm) (b2i_z c1)
  · replace c1 := b2i_nn c1
    refine t_go (op := o_iload 14 2) (fe_X12_ember 13) (fun _ _ => rfl) ?_
    refine t_go (op := o_ci 15 0) (fe_X12_ember 14) (fun _ _ => rfl) ?_
    refine t_go (op := o_ci 16 4) (fe_X12_ember 15) (fun _ _ => rfl) ?_
    refine t_call (op := o_callS 19 173 3) (fe_X12_ember 16) (g_callS rfl rfl rfl (Nat.le_of_ble_eq_true rfl)) ?_
    refine M_eq r_within ?_
    refine t_ite (op := o_if 25 22 (fun x => x = 0) (fun _ => inferInstance)) (fe_X12_ember 19) g_if (fun c2 => ?_) (fun c2 => ?_)
    · exact absurd (by decide) (b2i_z c2)
    · replace c2 := b2i_nn c2
      refine t_go (op := o_iload 26 2) (fe_X12_ember 25) (fun _ _ => rfl) ?_
      refine t_go (op := o_sw (swT 0 [56, 63, 72, 82] 92)) (fe_X12_ember 26) (fun _ _ => rfl) ?_
      rw [show swT 0 [56, 63, 72, 82] 92 (3 : Int32) = 82 by decide +kernel]
      refine t_go (op := o_aload 83 0) (fe_X12_ember 82) (fun _ _ => rfl) ?_
      refine t_go (op := o_getR 86 11 22) (fe_X12_ember 83) (g_getR hS (show (lay 183).1 = 11 by decide) (by decide) (fr_11_22 hS) (by decide)) ?_
      refine t_go (op := o_ci 88 16) (fe_X12_ember 86) (fun _ _ => rfl) ?_
      refine t_go (op := o_iload 89 1) (fe_X12_ember 88) (fun _ _ => rfl) ?_
      refine t_go (op := o_i2 90 (fun x y => x + y)) (fe_X12_ember 89) (fun _ _ => rfl) ?_
      refine t_go (op := o_iald 91) (fe_X12_ember 90) (g_ialdN hS (show lay 197 = (20, 966) by decide) (nIa (nIl 16) rfl) (by omega) (by decide)) ?_
      rw [show (sI k 183 0 0).1 197 (16 + e) = F.2.2.1 e from by have := (hB5.1 e (by omega)).2.2; rw [Nat.zero_add] at this; exact this]
      refine t_ret (op := o_iret) (fe_X12_ember 91) (fun _ _ => rfl) ?_
      exact ⟨rfl, rfl⟩
theorem r_ember4 {d : Nat} {k h : AHP} {m n g T u : Nat} {F : FS} {P : Nat → FS} (hP : CP k h g n m) (hW : FW m T F) (hB0 : RB (k.1 197) 0 F) (hT : T < 90000) (hu : k.1 183 23 = nI u) (h16 : u ≤ 16) (hPs : RP (k.1 197) u P) {e : Nat} (he : e < m) : MM (d + 5) 219 [.ref 183, .int (nI e), .int (4)] k (fun v h2 => v = some (.int (b2i (glP F (h.1 (g + 2)) (h.1 g 5) e))) ∧ h2 = sI k 183 0 0) := by
  refine ⟨Nat.le_of_ble_eq_true rfl, ?_⟩
  have hm := hP.1.2.2.1
  have hS := hP.1.1
  have hE := hP.1.2.1
  refine t_go (op := o_aload 1 0) (fe_X12_ember 0) (fun _ _ => rfl) ?_
  refine t_go (op := o_ci 2 0) (fe_X12_ember 1) (fun _ _ => rfl) ?_
  refine t_go (op := o_putI 5 11 0) (fe_X12_ember 2) (g_putI hS (show (lay 183).1 = 11 by decide) (by decide)) ?_
  have hB5 : RB ((sI k 183 0 0).1 197) 0 F := by rw [sI_ne (by decide)]; exact hB0
  have hP5 := hP.thr (v := 0)
  replace hS := hP5.1.1
  replace hE := hP5.1.2.1
  refine t_go (op := o_aload 6 0) (fe_X12_ember 5) (fun _ _ => rfl) ?_
  refine t_go (op := o_iload 7 1) (fe_X12_ember 6) (fun _ _ => rfl) ?_
  refine t_call (op := o_callV 10 202 2 11) (fe_X12_ember 7) (g_callV hS (show (lay 183).1 = 11 by decide) (by decide) rfl rfl rfl (Nat.le_of_ble_eq_true rfl)) ?_
  refine M_eq (r_isEmber (by exact hS) (by exact hE)) ?_
  refine t_ite (op := o_if 13 22 (fun x => x = 0) (fun _ => inferInstance)) (fe_X12_ember 10) g_if (fun c1 => ?_) (fun c1 => ?_)
  · exact absurd (isE he hm) (b2i_z c1)
  · replace c1 := b2i_nn c1
    refine t_go (op := o_iload 14 2) (fe_X12_ember 13) (fun _ _ => rfl) ?_
    refine t_go (op := o_ci 15 0) (fe_X12_ember 14) (fun _ _ => rfl) ?_
    refine t_go (op := o_ci 16 4) (fe_X12_ember 15) (fun _ _ => rfl) ?_
    refine t_call (op := o_callS 19 173 3) (fe_X12_ember 16) (g_callS rfl rfl rfl (Nat.le_of_ble_eq_true rfl)) ?_
    refine M_eq r_within ?_
    refine t_ite (op := o_if 25 22 (fun x => x = 0) (fun _ => inferInstance)) (fe_X12_ember 19) g_if (fun c2 => ?_) (fun c2 => ?_)
    · exact absurd (by decide) (b2i_z c2)
    · replace c2 := b2i_nn c2
      refine t_go (op := o_iload 26 2) (fe_X12_ember 25) (fun _ _ => rfl) ?_
      refine t_go (op := o_sw (swT 0 [56, 63, 72, 82] 92)) (fe_X12_ember 26) (fun _ _ => rfl) ?_
      rw [show swT 0 [56, 63, 72, 82] 92 (4 : Int32) = 92 by decide +kernel]
      refine t_go (op := o_aload 93 0) (fe_X12_ember 92) (fun _ _ => rfl) ?_
      refine t_go (op := o_ci 94 0) (fe_X12_ember 93) (fun _ _ => rfl) ?_
      refine t_go (op := o_iload 95 1) (fe_X12_ember 94) (fun _ _ => rfl) ?_
      refine t_call (op := o_callV 98 204 3 11) (fe_X12_ember 95) (g_callV hS (show (lay 183).1 = 11 by decide) (by decide) rfl rfl rfl (Nat.le_of_ble_eq_true rfl)) ?_
      refine M_eq (r_isAlight (b := 0) hS hW.1 hB5 (by decide) (e := e) (by omega) hm (hP5.1.2.2.2.1 _ (by omega)) hP5.1.2.2.2.2.1) ?_
      refine t_ite (op := o_if 101 105 (fun x => x = 0) (fun _ => inferInstance)) (fe_X12_ember 98) g_if (fun c3 => ?_) (fun c3 => ?_)
      · replace c3 := b2i_z c3
        refine t_go (op := o_ci 106 0) (fe_X12_ember 105) (fun _ _ => rfl) ?_
        refine t_ret (op := o_iret) (fe_X12_ember 106) (fun _ _ => rfl) ?_
        exact ⟨by first | rw [b2i_t ‹glP _ _ _ _›] | rw [b2i_f ‹¬ glP _ _ _ _›], rfl⟩
      · replace c3 := b2i_nn c3
        refine t_go (op := o_ci 102 1) (fe_X12_ember 101) (fun _ _ => rfl) ?_
        refine t_go (op := o_goto 106) (fe_X12_ember 102) (fun _ _ => rfl) ?_
        refine t_ret (op := o_iret) (fe_X12_ember 106) (fun _ _ => rfl) ?_
        exact ⟨by first | rw [b2i_t ‹glP _ _ _ _›] | rw [b2i_f ‹¬ glP _ _ _ _›], rfl⟩
theorem r_emberF {d : Nat} {k h : AHP} {m n g T u : Nat} {F : FS} {P : Nat → FS} (hP : CP k h g n m) (hW : FW m T F) (hB0 : RB (k.1 197) 0 F) (hT : T < 90000) (hu : k.1 183 23 = nI u) (h16 : u ≤ 16) (hPs : RP (k.1 197) u P) {x : Int32} (hn : ¬ (¬ x < 0 ∧ x < nI m)) {y : Int32} : MM (d + 5) 219 [.ref 183, .int x, .int y] k (fun v h2 => v = some (.int (-2)) ∧ h2 = sI k 183 0 0) := by
  refine ⟨Nat.le_of_ble_eq_true rfl, ?_⟩
  have hm := hP.1.2.2.1
  have hS := hP.1.1
  have hE := hP.1.2.1
  refine t_go (op := o_aload 1 0) (fe_X12_ember 0) (fun _ _ => rfl) ?_
  refine t_go (op := o_ci 2 0) (fe_X12_ember 1) (fun _ _ => rfl) ?_
  refine t_go (op := o_putI 5 11 0) (fe_X12_ember 2) (g_putI hS (show (lay 183).1 = 11 by decide) (by decide)) ?_
  have hB5 : RB ((sI k 183 0 0).1 197) 0 F := by rw [sI_ne (by decide)]; exact hB0
  have hP5 := hP.thr (v := 0)
  replace hS := hP5.1.1
  replace hE := hP5.1.2.1
  refine t_go (op := o_aload 6 0) (fe_X12_ember 5) (fun _ _ => rfl) ?_
  refine t_go (op := o_iload 7 1) (fe_X12_ember 6) (fun _ _ => rfl) ?_
  refine t_call (op := o_callV 10 202 2 11) (fe_X12_ember 7) (g_callV hS (show (lay 183).1 = 11 by decide) (by decide) rfl rfl rfl (Nat.le_of_ble_eq_true rfl)) ?_
  refine M_eq (r_isEmber (by exact hS) (by exact hE)) ?_
  refine t_ite (op := o_if 13 22 (fun x => x = 0) (fun _ => inferInstance)) (fe_X12_ember 10) g_if (fun c1 => ?_) (fun c1 => ?_)
  · replace c1 := b2i_z c1
    refine t_go (op := o_ci 24 (-2)) (fe_X12_ember 22) (fun _ _ => rfl) ?_
    refine t_ret (op := o_iret) (fe_X12_ember 24) (fun _ _ => rfl) ?_
    exact ⟨rfl, rfl⟩
  · exact absurd (b2i_nn c1) hn
theorem r_emberG {d : Nat} {k h : AHP} {m n g T u : Nat} {F : FS} {P : Nat → FS} (hP : CP k h g n m) (hW : FW m T F) (hB0 : RB (k.1 197) 0 F) (hT : T < 90000) (hu : k.1 183 23 = nI u) (h16 : u ≤ 16) (hPs : RP (k.1 197) u P) {e : Nat} (he : e < m) {y : Int32} (hn : ¬ (¬ y < 0 ∧ ¬ 4 < y)) : MM (d + 5) 219 [.ref 183, .int (nI e), .int y] k (fun v h2 => v = some (.int (-2)) ∧ h2 = sI k 183 0 0) := by
  refine ⟨Nat.le_of_ble_eq_true rfl, ?_⟩
  have hm := hP.1.2.2.1
  have hS := hP.1.1
  have hE := hP.1.2.1
  refine t_go (op := o_aload 1 0) (fe_X12_ember 0) (fun _ _ => rfl) ?_
  refine t_go (op := o_ci 2 0) (fe_X12_ember 1) (fun _ _ => rfl) ?_
  refine t_go (op := o_putI 5 11 0) (fe_X12_ember 2) (g_putI hS (show (lay 183).1 = 11 by decide) (by decide)) ?_
  have hB5 : RB ((sI k 183 0 0).1 197) 0 F := by rw [sI_ne (by decide)]; exact hB0
  have hP5 := hP.thr (v := 0)
  replace hS := hP5.1.1
  replace hE := hP5.1.2.1
  refine t_go (op := o_aload 6 0) (fe_X12_ember 5) (fun _ _ => rfl) ?_
  refine t_go (op := o_iload 7 1) (fe_X12_ember 6) (fun _ _ => rfl) ?_
  refine t_call (op := o_callV 10 202 2 11) (fe_X12_ember 7) (g_callV hS (show (lay 183).1 = 11 by decide) (by decide) rfl rfl rfl (Nat.le_of_ble_eq_true rfl)) ?_
  refine M_eq (r_isEmber (by exact hS) (by exact hE)) ?_
  refine t_ite (op := o_if 13 22 (fun x => x = 0) (fun _ => inferInstance)) (fe_X12_ember 10) g_if (fun c1 => ?_) (fun c1 => ?_)
  · exact absurd (isE he hm) (b2i_z c1)
  · replace c1 := b2i_nn c1
    refine t_go (op := o_iload 14 2) (fe_X12_ember 13) (fun _ _ => rfl) ?_
    refine t_go (op := o_ci 15 0) (fe_X12_ember 14) (fun _ _ => rfl) ?_
    refine t_go (op := o_ci 16 4) (fe_X12_ember 15) (fun _ _ => rfl) ?_
    refine t_call (op := o_callS 19 173 3) (fe_X12_ember 16) (g_callS rfl rfl rfl (Nat.le_of_ble_eq_true rfl)) ?_
    refine M_eq r_within ?_
    refine t_ite (op := o_if 25 22 (fun x => x = 0) (fun _ => inferInstance)) (fe_X12_ember 19) g_if (fun c2 => ?_) (fun c2 => ?_)
    · replace c2 := b2i_z c2
      refine t_go (op := o_ci 24 (-2)) (fe_X12_ember 22) (fun _ _ => rfl) ?_
      refine t_ret (op := o_iret) (fe_X12_ember 24) (fun _ _ => rfl) ?_
      exact ⟨rfl, rfl⟩
    · exact absurd (b2i_nn c2) hn
theorem r_cell {d : Nat} {k h : AHP} {m n g T u : Nat} {F : FS} {P : Nat → FS} (hP : CP k h g n m) (hW : FW m T F) (hB0 : RB (k.1 197) 0 F) (hT : T < 90000) (hu : k.1 183 23 = nI u) (h16 : u ≤ 16) (hPs : RP (k.1 197) u P) {c : Nat} (hc : c < 12) : MM (d + 5) 220 [.ref 183, .int (nI c)] k (fun v h2 => v = some (.int (F.2.2.2.1 c)) ∧ h2 = sI k 183 0 0) := by
  refine ⟨Nat.le_of_ble_eq_true rfl, ?_⟩
  have hm := hP.1.2.2.1
  have hS := hP.1.1
  have hE := hP.1.2.1
  refine t_go (op := o_aload 1 0) (fe_X12_cell 0) (fun _ _ => rfl) ?_
  refine t_go (op := o_ci 2 0) (fe_X12_cell 1) (fun _ _ => rfl) ?_
  refine t_go (op := o_putI 5 11 0) (fe_X12_cell 2) (g_putI hS (show (lay 183).1 = 11 by decide) (by decide)) ?_
  have hB5 : RB ((sI k 183 0 0).1 197) 0 F := by rw [sI_ne (by decide)]; exact hB0
  have hP5 := hP.thr (v := 0)
  replace hS := hP5.1.1
  replace hE := hP5.1.2.1
  refine t_go (op := o_iload 6 1) (fe_X12_cell 5) (fun _ _ => rfl) ?_
  refine t_go (op := o_ci 7 0) (fe_X12_cell 6) (fun _ _ => rfl) ?_
  refine t_go (op := o_ci 9 11) (fe_X12_cell 7) (fun _ _ => rfl) ?_
  refine t_call (op := o_callS 12 173 3) (fe_X12_cell 9) (g_callS rfl rfl rfl (Nat.le_of_ble_eq_true rfl)) ?_
  refine M_eq r_within ?_
  refine t_ite (op := o_if 15 24 (fun x => x = 0) (fun _ => inferInstance)) (fe_X12_cell 12) g_if (fun c1 => ?_) (fun c1 => ?_)
  · exact absurd (show ¬ nI c < 0 ∧ ¬ (11 : Int32) < nI c from ⟨nI_pos (by omega), nI_nlt (a := 11) (by omega) (by omega)⟩) (b2i_z c1)
  · replace c1 := b2i_nn c1
    refine t_go (op := o_aload 16 0) (fe_X12_cell 15) (fun _ _ => rfl) ?_
    refine t_go (op := o_ci 17 0) (fe_X12_cell 16) (fun _ _ => rfl) ?_
    refine t_go (op := o_iload 18 1) (fe_X12_cell 17) (fun _ _ => rfl) ?_
    refine t_call (op := o_callV 21 206 3 11) (fe_X12_cell 18) (g_callV hS (show (lay 183).1 = 11 by decide) (by decide) rfl rfl rfl (Nat.le_of_ble_eq_true rfl)) ?_
    refine M_eq (r_lyingIn (b := 0) hS hW.1 hB5 (by decide) hm hE (c := c) hc) ?_
    refine t_go (op := o_goto 25) (fe_X12_cell 21) (fun _ _ => rfl) ?_
    refine t_ret (op := o_iret) (fe_X12_cell 25) (fun _ _ => rfl) ?_
    exact ⟨rfl, rfl⟩
theorem r_cellF {d : Nat} {k h : AHP} {m n g T u : Nat} {F : FS} {P : Nat → FS} (hP : CP k h g n m) (hW : FW m T F) (hB0 : RB (k.1 197) 0 F) (hT : T < 90000) (hu : k.1 183 23 = nI u) (h16 : u ≤ 16) (hPs : RP (k.1 197) u P) {x : Int32} (hn : ¬ (¬ x < 0 ∧ ¬ 11 < x)) : MM (d + 5) 220 [.ref 183, .int x] k (fun v h2 => v = some (.int (-1)) ∧ h2 = sI k 183 0 0) := by
  refine ⟨Nat.le_of_ble_eq_true rfl, ?_⟩
  have hm := hP.1.2.2.1
  have hS := hP.1.1
  have hE := hP.1.2.1
  refine t_go (op := o_aload 1 0) (fe_X12_cell 0) (fun _ _ => rfl) ?_
  refine t_go (op := o_ci 2 0) (fe_X12_cell 1) (fun _ _ => rfl) ?_
  refine t_go (op := o_putI 5 11 0) (fe_X12_cell 2) (g_putI hS (show (lay 183).1 = 11 by decide) (by decide)) ?_
  have hB5 : RB ((sI k 183 0 0).1 197) 0 F := by rw [sI_ne (by decide)]; exact hB0
  have hP5 := hP.thr (v := 0)
  replace hS := hP5.1.1
  replace hE := hP5.1.2.1
  refine t_go (op := o_iload 6 1) (fe_X12_cell 5) (fun _ _ => rfl) ?_
  refine t_go (op := o_ci 7 0) (fe_X12_cell 6) (fun _ _ => rfl) ?_
  refine t_go (op := o_ci 9 11) (fe_X12_cell 7) (fun _ _ => rfl) ?_
  refine t_call (op := o_callS 12 173 3) (fe_X12_cell 9) (g_callS rfl rfl rfl (Nat.le_of_ble_eq_true rfl)) ?_
  refine M_eq r_within ?_
  refine t_ite (op := o_if 15 24 (fun x => x = 0) (fun _ => inferInstance)) (fe_X12_cell 12) g_if (fun c1 => ?_) (fun c1 => ?_)
  · replace c1 := b2i_z c1
    refine t_go (op := o_ci 25 (-1)) (fe_X12_cell 24) (fun _ _ => rfl) ?_
    refine t_ret (op := o_iret) (fe_X12_cell 25) (fun _ _ => rfl) ?_
    exact ⟨rfl, rfl⟩
  · exact absurd (b2i_nn c1) hn
