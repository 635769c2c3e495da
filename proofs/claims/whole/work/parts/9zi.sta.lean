/-! ===== the world at the law's entry ===== -/
def dK : String := "LEmberLand$Key;"
def nmK (i : Nat) : String := (statK.map (fun q => q.1)).getD i ""
def nmL : List String := statK.map (fun q => q.1)
def flW : List Cond := flatC (Jvm.Cond.and given_1 narrow_1)
theorem fl_ex : ∀ i, i < 25 → Cond.exactly (.static RX4 (nmL.getD i "") dK) RX4 ∈ flW := by decide +kernel
theorem fl_or : ∀ i, i < 25 → Cond.eq (.field (.static RX4 (nmL.getD i "") dK) "java/lang/Enum" "ordinal" "I") (.int (nI i)) ∈ flW := by decide +kernel
theorem fl_le : ∀ i, i < 25 → Cond.eq (.field (.static RX4 (nmL.getD i "") dK) RX4 "letters" "J") (.long (kLet i)) ∈ flW := by decide +kernel
theorem fl_ca : ∀ i, i < 25 → Cond.eq (.field (.static RX4 (nmL.getD i "") dK) RX4 "canName" "Z") (.int (kCan i)) ∈ flW := by decide +kernel
theorem fl_ki : ∀ i, i < 25 → Cond.eq (.field (.static RX4 (nmL.getD i "") dK) RX4 "kind" "I") (.int (kKind i)) ∈ flW := by decide +kernel
theorem fl_el : ∀ i, i < 25 → Cond.eq (.elem (.static RX4 "ALL" "[LEmberLand$Key;") (.int (Int32.ofNat i))) (.static RX4 (nmL.getD i "") dK) ∈ flW := by decide +kernel
theorem fl_al : Cond.arrayOf (.static RX4 "ALL" "[LEmberLand$Key;") (.object RX4) ∈ flW ∧ Cond.eq (.length (.static RX4 "ALL" "[LEmberLand$Key;")) (.int 25) ∈ flW := by decide +kernel
theorem fl_be : (∀ i, i < 12 → Cond.eq (.elem (.static RX11 "BESIDE" "[I") (.int (Int32.ofNat i))) (.int (bes i)) ∈ flW) ∧ Cond.arrayOf (.static RX11 "BESIDE" "[I") .int ∈ flW ∧ Cond.eq (.length (.static RX11 "BESIDE" "[I")) (.int 12) ∈ flW := by decide +kernel
theorem fl_th : Cond.isRef (.static Jvm.Bundle.tN "UNASSIGNED_STACK" Jvm.Bundle.steD) ∈ flW ∧ Cond.isRef (.static Jvm.Bundle.tN "SUPPRESSED_SENTINEL" Jvm.Bundle.listD) ∈ flW := by decide +kernel
theorem tb_ls : ∀ i, i < 25 → Cond.laysStatic RX4 (nmL.getD i "") dK ∈ tables_1 := by decide +kernel
theorem tb_mi : Cond.laysStatic RX4 "ALL" "[LEmberLand$Key;" ∈ tables_1 ∧ Cond.laysStatic RX11 "BESIDE" "[I" ∈ tables_1 ∧ Cond.initialized RX4 ∈ tables_1 ∧ Cond.initialized RX11 ∈ tables_1 ∧ Cond.initialized Jvm.Bundle.tN ∈ tables_1 ∧ Cond.laysStatic Jvm.Bundle.tN "UNASSIGNED_STACK" Jvm.Bundle.steD ∈ tables_1 ∧ Cond.laysStatic Jvm.Bundle.tN "SUPPRESSED_SENTINEL" Jvm.Bundle.listD ∈ tables_1 ∧ Cond.arrayOver (.object RX1) ∈ tables_1 ∧ Cond.arrayOver (.object RX10) ∈ tables_1 ∧ Cond.arrayClass .int ∈ tables_1 ∧ Cond.arrayClass .long ∈ tables_1 ∧ Cond.arrayClass .boolean ∈ tables_1 := by decide +kernel
theorem tb_ne : ∀ q ∈ nestM, Cond.methodLinkNest q.1 q.2.1 q.2.2.1 q.2.2.2 ∈ tables_1 := by decide +kernel
theorem tb_nf : nestF ∈ tables_1 := by decide +kernel
theorem tb_tw : ∀ x ∈ thW, x ∈ tables_1 := by decide +kernel
theorem arr_of {s : State} {args : Array Value} {ty : FieldType} (h : (Cond.arrayClass ty).before args s = true) (hty : ∀ C, ty ≠ .object C) : ∃ cA : ClassId, ArrOfT s cA ty ∧ va_RA s cA ty := by
  obtain ⟨cA, k, comp, h1, h2, h3⟩ := Cond.arrayClass_spec h
  refine ⟨cA, fun n z => ⟨(fun k h => by cases h), k, h2, comp, h3⟩, ?_⟩
  unfold va_RA
  split
  · rename_i C
    exact absurd rfl (hty C)
  · exact h1
theorem arr_ov {s : State} {args : Array Value} {C : String} (h : (Cond.arrayOver (.object C)).before args s = true) : ∃ cA : ClassId, ArrOfT s cA (.object C) ∧ va_RA s cA (.object C) := by
  obtain ⟨comp, cA, k, h0, -, h2, h3, h4⟩ := Cond.arrayOver_spec h
  exact ⟨cA, fun n z => ⟨(fun k h => by cases h), k, h2, comp, h3⟩, k, comp, h2, h3, h0, h4⟩
def wE (s : State) (b tA tB : Nat) (ad : Nat → Nat) (dC : Nat → ClassId) (dI : Nat → Nat → Nat) (c20 c21 c22 c23 c24 : ClassId) : WD := (s.heap.size, fun a => if a = 300000 then b else if a = 200100 then tA else if a = 200200 then tB else ad (a - 200000), dC, dI, fun t => if t = 20 then c20 else if t = 21 then c21 else if t = 22 then c22 else if t = 23 then c23 else c24, s.heap)
theorem sg_k {s : State} {b tA tB : Nat} {ad : Nat → Nat} {dC : Nat → ClassId} {dI : Nat → Nat → Nat} {c20 c21 c22 c23 c24 : ClassId} {j : Nat} (hj : j < 25) : sg (wE s b tA tB ad dC dI c20 c21 c22 c23 c24) (200000 + j) = ad j := by
  show (if 200000 + j < 100000 then _ else if 200000 + j = 300000 then b else if 200000 + j = 200100 then tA else if 200000 + j = 200200 then tB else ad (200000 + j - 200000)) = ad j
  rw [if_neg (by omega), if_neg (by omega), if_neg (by omega), if_neg (by omega), Nat.add_sub_cancel_left]
set_option maxRecDepth 8000 in
theorem StF_0 {s : State} {b L : Nat} {xs : Nat → Int32} (hts : ∀ x ∈ lw_tbl, x.before #[Value.ref b] s = true) (hX : va_X b L xs s s.heap) (hbl : b < s.heap.size) (hgv : (Jvm.Cond.and given_1 narrow_1).before #[Value.ref b] s = true) : ∃ w : WD, w.1 = s.heap.size ∧ w.2.2.2.2.2 = s.heap ∧ sg w 300000 = b ∧ StF w s := by
  have hs : ∀ x ∈ flW, x.before #[Value.ref b] s = true := flat_of_before _ hgv
  have ht : ∀ x ∈ tables_1, x.before #[Value.ref b] s = true := fun x hx => hts x (List.mem_append_right _ hx)
  have hg : ∀ x ∈ WSg, x.before #[Value.ref b] s = true := fun x hx => hts x (WSg_in hx)
  have hA : ∀ a : Nat, a < s.heap.size → ¬ (fun q : Nat => s.heap.size ≤ q) a := fun a h1 h2 => absurd h1 (Nat.not_lt.mpr h2)
  obtain ⟨u1, u2, u3, u4, u5, u6, u7, u8, u9, u10, u11, u12⟩ := tb_mi
  -- the keys
  have h0 : ∀ i : Nat, ∃ t : Nat, i < 25 → (Term.static RX4 (nmL.getD i "") dK).eval #[Value.ref b] s none [] s = some (.ref t) := by
    intro i
    by_cases hi : i < 25
    · obtain ⟨a, c, cell, k, q1, -⟩ := Cond.exactly_spec (hs _ (fl_ex i hi))
      exact ⟨a, fun _ => q1⟩
    · exact ⟨0, fun h => absurd h hi⟩
  obtain ⟨ad, had⟩ := Classical.axiomOfChoice h0
  have eo := va_Efof (N := 25) (E := RX4) (d0 := dK) (o := "java/lang/Enum") (n := "ordinal") (d := "I") (nm := nmL) (v := fun i => .int (nI i)) (tm := fun i => .int (nI i)) (ad := ad) had (fun i hi => hs _ (fl_or i hi)) (fun i _ => rfl) hA
  have el := va_Efof (N := 25) (E := RX4) (d0 := dK) (o := RX4) (n := "letters") (d := "J") (nm := nmL) (v := fun i => .long (kLet i)) (tm := fun i => .long (kLet i)) (ad := ad) had (fun i hi => hs _ (fl_le i hi)) (fun i _ => rfl) hA
  have ec := va_Efof (N := 25) (E := RX4) (d0 := dK) (o := RX4) (n := "canName") (d := "Z") (nm := nmL) (v := fun i => .int (kCan i)) (tm := fun i => .int (kCan i)) (ad := ad) had (fun i hi => hs _ (fl_ca i hi)) (fun i _ => rfl) hA
  have ek := va_Efof (N := 25) (E := RX4) (d0 := dK) (o := RX4) (n := "kind") (d := "I") (nm := nmL) (v := fun i => .int (kKind i)) (tm := fun i => .int (kKind i)) (ad := ad) had (fun i hi => hs _ (fl_ki i hi)) (fun i _ => rfl) hA
  have hinj : ∀ i j : Nat, i < 25 → j < 25 → ad i = ad j → i = j := by
    intro i j hi hj e
    obtain ⟨cf, k, x, f, cell, a1, -, a3, -, a5, -⟩ := eo i hi
    obtain ⟨cf', k', x', f', cell', b1, -, b3, -, b5, -⟩ := eo j hj
    rw [a1] at b1
    cases b1
    rw [← e, a3] at b3
    cases b3
    rw [a5] at b5
    have h9 : nI i = nI j := Value.int.inj (Option.some.inj b5)
    exact nI_inj (by omega) (by omega) h9
  obtain ⟨tA, eA, hTA⟩ := va_Tof (args := #[Value.ref b]) (s := s) (tm := .static RX4 "ALL" "[LEmberLand$Key;") (ty := .object RX4) (N := 25) (f := fun j => .ref (ad j)) (A := fun q : Nat => s.heap.size ≤ q) (by decide) (hs _ fl_al.1) (va_eqv (hs _ fl_al.2) rfl) (fun j hj => va_eqv (hs _ (fl_el j hj)) (had j hj)) hA
  obtain ⟨tB, eB, hTB⟩ := va_Tof (args := #[Value.ref b]) (s := s) (tm := .static RX11 "BESIDE" "[I") (ty := .int) (N := 12) (f := fun j => .int (bes j)) (A := fun q : Nat => s.heap.size ≤ q) (by decide) (hs _ fl_be.2.1) (va_eqv (hs _ fl_be.2.2) rfl) (fun j hj => va_eqv (hs _ (fl_be.1 j hj)) rfl) hA
  -- classes and arrays
  have hcl : ∀ k : Nat, ∃ y : ClassId × (Nat → Nat), ∀ q : vw_C, vwCl[k]? = some q → u_Kn s q.1 q.2.1 q.2.2 y.1 y.2 := by
    intro k
    match k with
    | 0 =>
      obtain ⟨cC, iS, hK⟩ := u_known (n := 4) hg ck_0.2.1 (ht (.instantiable RX0 4) (by decide +kernel))
      exact ⟨(cC, iS), fun q hq => by cases hq; exact hK⟩
    | 1 =>
      obtain ⟨cC, iS, hK⟩ := u_known (n := 6) hg ck_1.2.1 (ht (.instantiable RX1 6) (by decide +kernel))
      exact ⟨(cC, iS), fun q hq => by cases hq; exact hK⟩
    | 2 =>
      obtain ⟨cC, iS, hK⟩ := u_known (n := 3) hg ck_2.2.1 (ht (.instantiable RX2 3) (by decide +kernel))
      exact ⟨(cC, iS), fun q hq => by cases hq; exact hK⟩
    | 3 =>
      obtain ⟨cC, iS, hK⟩ := u_known (n := 9) hg ck_3.2.1 (ht (.instantiable RX3 9) (by decide +kernel))
      exact ⟨(cC, iS), fun q hq => by cases hq; exact hK⟩
    | 4 =>
      obtain ⟨cC, iS, hK⟩ := u_known (n := 4) hg ck_4.2.1 (ht (.instantiable RX5 4) (by decide +kernel))
      exact ⟨(cC, iS), fun q hq => by cases hq; exact hK⟩
    | 5 =>
      obtain ⟨cC, iS, hK⟩ := u_known (n := 6) hg ck_5.2.1 (ht (.instantiable RX6 6) (by decide +kernel))
      exact ⟨(cC, iS), fun q hq => by cases hq; exact hK⟩
    | 6 =>
      obtain ⟨cC, iS, hK⟩ := u_known (n := 2) hg ck_6.2.1 (ht (.instantiable RX7 2) (by decide +kernel))
      exact ⟨(cC, iS), fun q hq => by cases hq; exact hK⟩
    | 7 =>
      obtain ⟨cC, iS, hK⟩ := u_known (n := 2) hg ck_7.2.1 (ht (.instantiable RX8 2) (by decide +kernel))
      exact ⟨(cC, iS), fun q hq => by cases hq; exact hK⟩
    | 8 =>
      obtain ⟨cC, iS, hK⟩ := u_known (n := 8) hg ck_8.2.1 (ht (.instantiable RX9 8) (by decide +kernel))
      exact ⟨(cC, iS), fun q hq => by cases hq; exact hK⟩
    | 9 =>
      obtain ⟨cC, iS, hK⟩ := u_known (n := 4) hg ck_9.2.1 (ht (.instantiable RX10 4) (by decide +kernel))
      exact ⟨(cC, iS), fun q hq => by cases hq; exact hK⟩
    | 10 =>
      obtain ⟨cC, iS, hK⟩ := u_known (n := 11) hg ck_10.2.1 (ht (.instantiable RX11 11) (by decide +kernel))
      exact ⟨(cC, iS), fun q hq => by cases hq; exact hK⟩
    | 11 =>
      obtain ⟨cC, iS, hK⟩ := u_known (n := 28) hg ck_11.2.1 (ht (.instantiable RX12 28) (by decide +kernel))
      exact ⟨(cC, iS), fun q hq => by cases hq; exact hK⟩
    | k + 12 => exact ⟨(0, fun _ => 0), fun q hq => by
        have : vwCl.length = 12 := rfl
        rw [List.getElem?_eq_none (by omega)] at hq
        cases hq⟩
  obtain ⟨fC, hfC⟩ := Classical.axiomOfChoice hcl
  obtain ⟨c20, r20⟩ := arr_of (ht _ u10) (fun C h => by cases h)
  obtain ⟨c21, r21⟩ := arr_of (ht _ u11) (fun C h => by cases h)
  obtain ⟨c22, r22⟩ := arr_of (ht _ u12) (fun C h => by cases h)
  obtain ⟨c23, r23⟩ := arr_ov (ht _ u8)
  obtain ⟨c24, r24⟩ := arr_ov (ht _ u9)
  refine ⟨wE s b tA tB ad (fun k => (fC k).1) (fun k => (fC k).2) c20 c21 c22 c23 c24, rfl, rfl, rfl, ?_⟩
  refine ⟨⟨fun k q hq => hfC k q hq, fun k q hq => ?_⟩, fun q hq => va_Nw.of rfl (ht _ (tb_ne q hq)), va_Nw.of rfl (ht _ tb_nf), fun q hq => ?_, va_Zof (ht _ u1) (ht _ u3) eA hA, va_Zof (ht _ u2) (ht _ u4) eB hA, hTB, ?_, fun j hj => ?_, fun i j hi hj e => ?_, ⟨hbl, fun scr hsc => ?_⟩, Nat.le_refl _, va_AO.of (ht _ u8), va_AO.of (ht _ u9), vx_Zqof (ht _ u6) (ht _ u5) (hs _ fl_th.1) hA, vx_Zqof (ht _ u7) (ht _ u5) (hs _ fl_th.2) hA, fun x hx a => thW_moved (Vm.Alike.refl _) hx (ht _ (tb_tw x hx))⟩
  · match k, hq with
    | 0, hq => cases hq; exact r20
    | 1, hq => cases hq; exact r21
    | 2, hq => cases hq; exact r22
    | 3, hq => cases hq; exact r23
    | 4, hq => cases hq; exact r24
  · obtain ⟨j, hj, e1, e2⟩ : ∃ j, j < 25 ∧ q.1 = nmL.getD j "" ∧ q.2 = 200000 + j := (show ∀ q ∈ statK, ∃ j, j < 25 ∧ q.1 = nmL.getD j "" ∧ q.2 = 200000 + j by decide +kernel) q hq
    rw [e1, e2, sg_k hj]
    exact va_Zof (ht _ (tb_ls j hj)) (ht _ u3) (had j hj) hA
  · obtain ⟨cell, a1, a2, a3, a4, a5, a6, a7⟩ := hTA
    exact ⟨cell, a1, a2, a3, a4, a5, fun j hj => by
      have q := a6 j hj
      dsimp only at q ⊢
      rw [sg_k hj]
      exact q, a7⟩
  · rw [sg_k hj]
    exact ⟨el j hj, ec j hj, ek j hj⟩
  · rw [sg_k hi, sg_k hj] at e
    exact hinj i j hi hj e
  · obtain ⟨scr', x1, x2, -⟩ := hX
    have x3 : s.heap[b]? = some scr := hsc
    rw [x1] at x3
    cases x3
    exact x2
