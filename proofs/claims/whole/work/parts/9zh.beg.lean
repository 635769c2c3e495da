/-! ===== the beginning: the coupling stands ===== -/
theorem C0_er {f : Nat → Int32} {N : Nat} {h : AHP} (hc : C0 h) : C0 (er f N h) := by
  have e1 : ∀ a, a ≤ 201 → (er f N h).1 a = h.1 a := fun a ha => er_row ha
  have e2 : ∀ a k, a ≤ 201 → (er f N h).2.2.1 a k = h.2.2.1 a k := fun a k ha => er_R ha
  obtain ⟨a1, a2, a3, a4, a5, a6, a7, a8, a9, a10, a11⟩ := hc
  have hE : ∀ q, q ≤ 190 → EM h q → EM (er f N h) q := fun q hq hm => by
    unfold EM
    rw [e1 _ (by omega), e1 (q + 2) (by omega), e1 (q + 3) (by omega), e1 (q + 4) (by omega), e1 q (by omega)]
    exact hm
  refine ⟨a1, fun q hq => ?_, ?_, ?_, ?_, ?_, ?_, ?_, hE _ (by omega) a9, hE _ (by omega) a10, hE _ (by omega) a11⟩
  · rw [e2 _ _ (List.all_eq_true.mp (show finL.all (fun q => decide (q.1 ≤ 201)) = true by decide +kernel) q hq |> of_decide_eq_true)]
    exact a2 q hq
  · rw [e2 _ _ (by omega), e2 _ _ (by omega), e2 _ _ (by omega), e2 _ _ (by omega)]; exact a3
  · rw [e1 157 (by omega), e1 149 (by omega), e1 189 (by omega)]; exact a4
  · rw [e1 183 (by omega)]; exact a5
  · rw [e1 175 (by omega), e1 194 (by omega), e1 10 (by omega), e1 14 (by omega), e1 183 (by omega), e1 2 (by omega)]; exact a6
  · rw [e1 18 (by omega), e1 198 (by omega)]; exact a7
  · rw [e1 197 (by omega)]; exact a8
theorem EM_FV {h : AHP} {f m : Nat} (hm : EM h f) : FV m (fs h f) := by
  refine ⟨fun e he => Or.inl (hm.1 e he), fun c hc => Or.inl ⟨hm.2.1 c hc, fun e he q => ?_⟩, fun a b ha _ _ => Or.inl (hm.1 a ha).1, Or.inl hm.2.2.2⟩
  have q1 : h.1 (f + 1) e = nI c := q
  rw [(hm.1 e he).1] at q1
  exact nI_m1 (by omega) q1.symm
theorem CI_C0 {h : AHP} (hc : C0 h) (hz : NZ h) : CI 0 h := by
  obtain ⟨a1, a2, ⟨b1, b2, b3, b4⟩, ⟨c1, c2, c3, c4, c5, c6, c7, c8⟩, ⟨d1, d2⟩, ⟨e1, e2, e3, e4, e5, e6, e7, e8⟩, a7, ⟨f1, f2, f3, f4⟩, m1, m2, m3⟩ := hc
  have hS : Std h := ⟨by rw [a1]; exact Nat.le_refl _, a2⟩
  have hF0 : FW 0 0 (fs h 5) := ⟨EM_FV m3, 0, Nat.le_refl _, m3.2.2.1⟩
  refine ⟨hS, hz, 149, 0, 0, 175, 0, 0, 0, 0, 0, ?_, ?_, ?_, ?_, ?_, ?_, ?_⟩
  · refine ⟨by decide, b1, ⟨162, by decide, by decide, b2, EM_FV m2⟩, by decide, c1, c2, ⟨⟨hS, c4, by decide, fun e he => absurd he (by omega), c6, Or.inl ⟨rfl, c7⟩⟩, 1, by decide, by decide, c5, fun t _ => ?_⟩, EM_FV m1, ⟨fun e he => absurd he (by omega), fun e _ he => m1.1 e he, m1.2.2.1, m1.2.2.2⟩, d1, fun e he => absurd he (by omega), d2⟩
    rw [drV, if_pos (by rw [c3]; decide), Nat.mod_one]
    exact c8
  · exact ⟨by decide, b3, ⟨179, by decide, by decide, b4⟩, e1, ⟨by decide, fun i hi => absurd hi (by omega)⟩, e2, fun i hi => absurd hi (by omega)⟩
  · refine ⟨hF0, fun e he => ?_, ?_, ?_⟩
    · have q := f1 e he
      have q2 := m3.1 e he
      rw [show 0 + 2 + e = 2 + e by omega, show 0 + 9 + e = 9 + e by omega, show 0 + 16 + e = 16 + e by omega]
      exact ⟨q.1.trans q2.1.symm, q.2.1.trans q2.2.1.symm, q.2.2.trans q2.2.2.symm⟩
    · exact f2.trans m3.2.2.1.symm
    · exact f3.trans m3.2.2.2.symm
  · exact ⟨e3, ⟨by decide, fun k hk => absurd hk (by omega)⟩, f4, fun k hk => absurd hk (by omega)⟩
  · exact ⟨e4, e5, by decide, by decide, by decide, e6, fun a ha => absurd ha (by omega), fun a ha => absurd ha (by omega)⟩
  · exact fun q hq => Or.inl (a7 q hq)
  · exact ⟨by decide, e7, e8, fun i hi => absurd hi (by omega)⟩
theorem NZ_hE : NZ hE := ⟨fun _ _ _ _ _ => rfl, fun _ _ _ => Or.inl rfl⟩
theorem NZ_er {f : Nat → Int32} {N : Nat} {h : AHP} (hz : NZ h) : NZ (er f N h) := by
  refine ⟨fun a ha hn i hi => ?_, fun a ha hn => ?_⟩
  · rw [er_row (lay_lt ha (by decide)).2]; exact hz.1 a ha hn i hi
  · rw [er_row (lay_lt ha (by decide)).2]; exact hz.2 a ha hn
theorem SC_er {f : Nat → Int32} {N : Nat} : SC f N 201 (er f N hZ) := ⟨by funext j; show (if (300000 : Nat) = 300000 then f j else hZ.1 300000 j) = f j; exact if_pos rfl, (show (if (300000 : Nat) = 300000 then N else hZ.2.2.1 300000 0) = N from if_pos rfl), c0_Z.1, Nat.le_refl _⟩
theorem g_newo {h : AHP} {n c M a : Nat} {ls : ALS} {st : List Value} (hc : h.2.2.2 + 1 = a) (hl : lay a = (c, M)) (ha : a ≤ NT) : ∀ C G, o_new n c M C G ls st h = G n ls (.ref a :: st) (anw h) := by
  intro C G
  subst hc
  exact if_pos ⟨hl, ha⟩
theorem g_newao {h : AHP} {n c M a : Nat} {x : Int32} {ls : ALS} {st : List Value} (hx : x = nI M) (hM : M < 2 ^ 31) (hc : h.2.2.2 + 1 = a) (hl : lay a = (c, M)) (ha : a ≤ NT) : ∀ C G, o_newa n c C G ls (.int x :: st) h = G n ls (.ref a :: st) (anw h) := by
  intro C G
  subst hc hx
  exact if_pos ⟨nI_pos hM, by rw [nI_clamp hM]; exact hl, ha⟩
theorem g_callVo {h : AHP} {a c k n : Nat} {ls : ALS} {st : List Value} {j : Nat} {as rest : List Value} (ho : okc h a c) (ht : (st.take j).reverse = .ref a :: as) (hn : as.length + 1 = j) (hd : st.drop j = rest) (hr : (rest.map fun v => v.category).sum ≤ 8) : ∀ C G, o_callV n k j c C G ls st h = match C k (.ref a :: as) h with | some (v, h2) => G n ls (v.toList ++ rest) h2 | none => none := by
  intro C G
  subst hd
  unfold o_callV
  rw [ht]
  exact (if_pos ho).trans (if_pos ⟨hn, hr⟩)
theorem isN {v : Option Value} (h : v.isNone = true) : v = none := by
  cases v with
  | none => rfl
  | some x => cases h
theorem M_ov {n d k : Nat} {as : List Value} {h : AHP} {r : ARS} (f : Nat → Int32) (N : Nat) (hl : (en1 as).length ≤ (mt k).2.2.2.1) (hr : arun mt fe n d k 0 (en0 (mt k).2.2.2.1 as) [] h = some r) : MM d k as (er f N h) (fun v h2 => v = r.1 ∧ h2 = er f N r.2) := ⟨hl, n, (r.1, er f N r.2), arun_ov n d k 0 _ _ h r hr, rfl, rfl⟩
theorem hA1_run : arun mt fe 3000 50 108 0 (en0 (mt 108).2.2.2.1 [.ref 1]) [] (anw hE) = some rA1 := by
  have q := hA1_eq
  unfold hA1 at q
  exact q
theorem hA2_run : arun mt fe 3000 50 160 0 (en0 (mt 160).2.2.2.1 [.ref 183]) [] (anw rA1.2) = some rA2 := by
  have q := hA2_eq
  unfold hA2 at q
  exact q
theorem NZ_Z : NZ hZ := NZ_anw (arun_NZ _ _ _ _ _ _ _ _ (NZ_anw (arun_NZ _ _ _ _ _ _ _ _ (NZ_anw NZ_hE) hA1_run)) hA2_run)
theorem CI_er {f : Nat → Int32} {N : Nat} : CI 0 (er f N hZ) := CI_C0 (C0_er c0_Z) (NZ_er NZ_Z)
theorem M_ini1 {f : Nat → Int32} {N : Nat} : MM 50 108 [.ref 1] (er f N (anw hE)) (fun v h2 => v = none ∧ h2 = er f N rA1.2) := by
  have q := M_ov f N (Nat.le_of_ble_eq_true rfl) hA1_run
  rw [isN iniN.2.2.1] at q
  exact q
theorem M_ini2 {f : Nat → Int32} {N : Nat} : MM 50 160 [.ref 183] (er f N (anw rA1.2)) (fun v h2 => v = none ∧ h2 = er f N rA2.2) := by
  have q := M_ov f N (Nat.le_of_ble_eq_true rfl) hA2_run
  rw [isN iniN.2.2.2] at q
  exact q
set_option maxRecDepth 8000 in
theorem lw_all {f : Nat → Int32} {N : Nat} (hN : N ≤ 3584) : TL_ 50 0 [some (.ref 300000), none, none, none, none, none, none] [] (er f N hE) (fun v h2 => v = some (.int 1) ∧ ∃ c, SC f N c h2 ∧ c ≤ 801) := by
  have n1 : rA1.2.2.2.2 + 1 = 183 := by rw [iniN.1]
  have n2 : rA2.2.2.2.2 + 1 = 201 := by rw [iniN.2.1]
  refine l_go (op := o_new 3 10 11) rfl (g_newo (a := 1) rfl (by decide) (by decide)) ?_
  rw [er_anw (by decide)]
  refine l_go (op := o_dupA 4) rfl (fun _ _ => rfl) ?_
  refine l_call (op := o_callV 7 108 1 10) rfl (g_callVo (a := 1) ⟨by decide, by decide, Nat.le_refl 1, by decide⟩ rfl rfl rfl (Nat.le_of_ble_eq_true rfl)) ?_
  refine M_eq M_ini1 ?_
  refine l_go (op := o_astore 8 1) rfl (fun _ _ => rfl) ?_
  refine l_go (op := o_new 11 11 28) rfl (g_newo (a := 183) n1 (by decide) (by decide)) ?_
  rw [er_anw (by rw [n1]; decide)]
  refine l_go (op := o_dupA 12) rfl (fun _ _ => rfl) ?_
  refine l_call (op := o_callV 15 160 1 11) rfl (g_callVo (a := 183) ⟨by decide, by decide, (show 183 ≤ rA1.2.2.2.2 + 1 by rw [n1]; exact Nat.le_refl _), by decide⟩ rfl rfl rfl (Nat.le_of_ble_eq_true rfl)) ?_
  refine M_eq M_ini2 ?_
  refine l_go (op := o_astore 16 2) rfl (fun _ _ => rfl) ?_
  refine l_go (op := o_ci 17 1) rfl (fun _ _ => rfl) ?_
  refine l_go (op := o_newa 19 21) rfl (g_newao (a := 201) (M := 1) (nIl 1) (by decide) n2 (by decide) (by decide)) ?_
  rw [er_anw (by rw [n2]; decide)]
  refine l_go (op := o_astore 20 3) rfl (fun _ _ => rfl) ?_
  refine l_go (op := o_ci 21 0) rfl (fun _ _ => rfl) ?_
  refine l_go (op := o_istore 23 4) rfl (fun _ _ => rfl) ?_
  exact lw_loop hN N 0 _ 201 none none (by omega) (by decide) CI_er SC_er (by decide)
