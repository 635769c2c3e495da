/-! ===== deeds: both do alike ===== -/
theorem GrC_rows {h k : AHP} {g n m : Nat} (e2 : k.2 = h.2) (e1 : ∀ a, 149 ≤ a → a ≤ 174 → ¬ scrA a → k.1 a = h.1 a) (e3 : ∀ a, 189 ≤ a → a ≤ 191 → k.1 a = h.1 a) (e4 : k.1 183 16 = h.1 183 16) (hG : GrC h g n m) : GrC k g n m := by
  obtain ⟨hg, h7, ⟨g2, hg2, hne, h8, hV2⟩, hn, hl, hm, hP, hV, hR, hN1, hN2, hN3⟩ := hG
  have er : ∀ a, (a = g ∨ a = g + 2 ∨ a = g + 3 ∨ a = g + 4 ∨ a = g + 5 ∨ a = g + 6 ∨ a = g + 7 ∨ a = g + 8 ∨ a = g + 9 ∨ a = g + 12) → k.1 a = h.1 a := fun a ha => e1 a (by rcases grate_scr hg with q | q <;> subst q <;> omega) (by rcases grate_scr hg with q | q <;> subst q <;> omega) (by rcases grate_scr hg with q | q <;> subst q <;> omega)
  have ef : fs k (g + 3) = fs h (g + 3) := fs_rows fun a h1 h2 => er a (by omega)
  have ef2 : fs k (g2 + 3) = fs h (g2 + 3) := fs_rows fun a h1 h2 => e1 a (by rcases grate_scr hg2 with q | q <;> subst q <;> omega) (by rcases grate_scr hg2 with q | q <;> subst q <;> omega) (by rcases grate_scr hg2 with q | q <;> subst q <;> omega)
  have hS : Std k := by
    have := hP.1.1
    unfold Std at this ⊢
    rw [e2]
    exact this
  have hP2 : CP k h g n m := by
    unfold CP RH RD RLw at hP ⊢
    rw [e3 189 (by omega) (by omega), e3 190 (by omega) (by omega), e3 191 (by omega) (by omega)]
    exact ⟨⟨hS, hP.1.2⟩, hP.2⟩
  refine ⟨hg, by rw [e2]; exact h7, ⟨g2, hg2, hne, by rw [e2]; exact h8, by rw [ef2]; exact hV2⟩, hn, by rw [er (g + 8) (by omega)]; exact hl, by rw [er g (by omega)]; exact hm, CP_rows hg (fun a ha => er a (by omega)) hP2, by rw [ef]; exact hV, ?_, by rw [e4]; exact hN1, fun e he => ?_, fun j hj => by rw [e2]; exact hN3 j hj⟩
  · rw [ef]
    unfold RG
    rw [e3 189 (by omega) (by omega)]
    exact hR
  · obtain ⟨w, w1, w2, w3⟩ := hN2 e he
    exact ⟨w, w1, by rw [e2]; exact w2, by rw [e2]; exact w3⟩
theorem EvC_rows {h k : AHP} {v ln m : Nat} (e2 : k.2 = h.2) (e1 : ∀ a, 175 ≤ a → a ≤ 182 → k.1 a = h.1 a) (e3 : k.1 194 = h.1 194) (hE : EvC h v ln m) : EvC k v ln m := by
  obtain ⟨hv, h9, ⟨v2, hv2, hne, h10⟩, hl, hV, hL⟩ := hE
  have er : ∀ a, (a = v ∨ a = v + 1 ∨ a = v + 2 ∨ a = v + 3) → k.1 a = h.1 a := fun a ha => e1 a (by rcases even_id hv with q | q <;> subst q <;> omega) (by rcases even_id hv with q | q <;> subst q <;> omega)
  refine ⟨hv, by rw [e2]; exact h9, ⟨v2, hv2, hne, by rw [e2]; exact h10⟩, by rw [er v (by omega)]; exact hl, ?_, ?_⟩
  · rw [er (v + 1) (by omega), er (v + 2) (by omega), er (v + 3) (by omega)]; exact hV
  · rw [er (v + 1) (by omega), er (v + 2) (by omega), er (v + 3) (by omega)]
    unfold LN at hL ⊢
    rw [e3]
    exact hL
theorem RB_rows {s s2 : Nat → Int32} {b : Nat} {F : FS} (e : ∀ i, b ≤ i → i < b + 23 → s2 i = s i) (hB : RB s b F) : RB s2 b F := by
  refine ⟨fun a ha => ⟨?_, ?_, ?_⟩, ?_, ?_⟩
  · rw [e _ (by omega) (by omega)]; exact (hB.1 a ha).1
  · rw [e _ (by omega) (by omega)]; exact (hB.1 a ha).2.1
  · rw [e _ (by omega) (by omega)]; exact (hB.1 a ha).2.2
  · rw [e _ (by omega) (by omega)]; exact hB.2.1
  · rw [e _ (by omega) (by omega)]; exact hB.2.2
theorem RT_rows {s s2 : Nat → Int32} {b tn : Nat} {E H L : Nat → Int32} (ht : tn ≤ 6) (e : ∀ i, b + 23 ≤ i → i < b + 42 → s2 i = s i) (hB : RT s b tn E H L) : RT s2 b tn E H L := by
  refine ⟨by rw [e _ (by omega) (by omega)]; exact hB.1, fun j hj => ?_⟩
  rw [e _ (by omega) (by omega), e _ (by omega) (by omega), e _ (by omega) (by omega)]
  exact hB.2 j hj
theorem ToC_rows {h k : AHP} {m tn : Nat} (e1 : ∀ a, 10 ≤ a → a ≤ 13 → k.1 a = h.1 a) (e2 : ∀ i, 23 ≤ i → i < 42 → k.1 197 i = h.1 197 i) (hF : ToC h m tn) : ToC k m tn := by
  unfold ToC
  rw [e1 10 (by omega) (by omega), e1 11 (by omega) (by omega), e1 12 (by omega) (by omega), e1 13 (by omega) (by omega)]
  exact ⟨hF.1, hF.2.1, RT_rows hF.2.1.1 (fun i h1 h2 => e2 i (by omega) (by omega)) hF.2.2⟩
theorem PaC_rows {h k : AHP} {m T N u : Nat} (e1 : ∀ a, (a = 14 ∨ (19 ≤ a ∧ a ≤ 98)) → k.1 a = h.1 a) (e2 : k.1 183 23 = h.1 183 23) (e3 : ∀ i, 210 ≤ i → i < 882 → k.1 197 i = h.1 197 i) (hF : PaC h m T N u) : PaC k m T N u := by
  obtain ⟨a1, a2, a3, a4, a5, a6, a7, a8⟩ := hF
  have ek : kf k N u = kf h N u := funext fun a => kf_w (fun a h2 h3 => e1 a (by omega)) N u a
  unfold PaC
  rw [e1 14 (by omega), e2, ek]
  exact ⟨a1, a2, a3, a4, a5, a6, a7, fun a ha => RB_rows (fun i h1 h2 => e3 i (by omega) (by omega)) (a8 a ha)⟩
theorem MaC_rows {h k : AHP} {m T : Nat} (e1 : ∀ a, (a = 18 ∨ a = 198 ∨ (99 ≤ a ∧ a ≤ 134)) → k.1 a = h.1 a) (e2 : ∀ i, 42 ≤ i → i < 210 → k.1 197 i = h.1 197 i) (hF : MaC h m T) : MaC k m T := by
  intro q hq
  rw [e1 18 (by omega), e1 198 (by omega), show fs k (99 + 9 * q) = fs h (99 + 9 * q) from fs_rows fun a h1 h2 => e1 a (by omega), e1 (104 + 9 * q) (by omega), e1 (105 + 9 * q) (by omega), e1 (106 + 9 * q) (by omega), e1 (107 + 9 * q) (by omega)]
  rcases hF q hq with h2 | ⟨h2, h3, h4, h5, tq, h6, h7, h8⟩
  · exact Or.inl h2
  · exact Or.inr ⟨h2, h3, h4, RB_rows (fun i h1 h2 => e2 i (by omega) (by omega)) h5, tq, h6, h7, RT_rows h7.1 (fun i h1 h2 => e2 i (by omega) (by omega)) h8⟩
theorem TaC_rows {h k : AHP} {len : Nat} (e1 : ∀ a, (a = 2 ∨ a = 3 ∨ a = 184) → k.1 a = h.1 a) (e2 : k.1 183 2 = h.1 183 2) (hF : TaC h len) : TaC k len := by
  unfold TaC
  rw [e1 2 (by omega), e1 3 (by omega), e1 184 (by omega), e2]
  exact hF
theorem mod_ne {N u a : Nat} (h1 : u ≤ N) (h2 : a < u) (h3 : u ≤ 16) (h4 : u - a < 16) : ¬ (N - u + a) % 16 = N % 16 := by omega
theorem kp_kf {h h3 : AHP} {N u : Nat} (hN : u ≤ N) (h16 : u ≤ 16) (e0 : fs h3 (19 + 5 * (N % 16)) = fs h 5) (e1 : ∀ j, j < 16 → ¬ j = N % 16 → fs h3 (19 + 5 * j) = fs h (19 + 5 * j)) : ∀ a, a < kpU u → kf h3 (N + 1) (kpU u) a = kpP (kf h N u) (fs h 5) u a := by
  intro a ha
  unfold kf kpP kpU at *
  by_cases hu : u = 16
  · rw [if_pos hu] at ha ⊢
    rw [if_pos hu]
    by_cases h15 : a = 15
    · rw [if_pos h15, show (N + 1 - 16 + a) % 16 = N % 16 by omega]; exact e0
    · rw [if_neg h15, show (N + 1 - 16 + a) % 16 = (N - u + (a + 1)) % 16 by omega]
      exact e1 _ (Nat.mod_lt _ (by decide)) (by omega)
  · rw [if_neg hu] at ha ⊢
    rw [if_neg hu]
    by_cases h15 : a = u
    · rw [if_pos h15, show (N + 1 - (u + 1) + a) % 16 = N % 16 by omega]; exact e0
    · rw [if_neg h15, show (N + 1 - (u + 1) + a) % 16 = (N - u + a) % 16 by omega]
      exact e1 _ (Nat.mod_lt _ (by decide)) (by omega)
theorem kpP_FW {m T u : Nat} {P : Nat → FS} {F : FS} (h1 : ∀ a, a < u → FW m T (P a)) (h2 : FW m T F) : ∀ a, a < kpU u → FW m T (kpP P F u a) := by
  intro a ha
  unfold kpP kpU at *
  by_cases hu : u = 16
  · rw [if_pos hu] at ha ⊢
    split
    · exact h2
    · exact h1 _ (by omega)
  · rw [if_neg hu] at ha ⊢
    split
    · exact h2
    · exact h1 _ (by omega)
/-- a deed done by both -/
theorem CI_deed {T : Nat} {h h2 h3 : AHP} {g n m v ln tn N u len : Nat} {F2 : FS} (hS : Std h) (hz3 : NZ h3) (c1 : GrC h g n m) (c2 : EvC h v ln m) (c3 : FiC h m T) (c4 : ToC h m tn) (c5 : PaC h m T N u) (c6 : MaC h m T) (c7 : TaC h len) (hD : DD h h2 N u F2) (hz : Zf dz (sI h2 183 23 (nI (kpU u))) h3) (hB : RB (h3.1 197) 0 F2) (hK : RP (h3.1 197) (kpU u) (kpP (kf h N u) (fs h 5) u)) (hF : FW m (T + 1) F2) : CI (T + 1) h3 := by
  have h16 : N % 16 < 16 := Nat.mod_lt _ (by decide)
  obtain ⟨a1, a2, a3, a4, a5, a6, a7, a8⟩ := c5
  have e2 : h3.2 = h.2 := (Prod.ext (funext fun a => hz.g a) hz.1 : h3.2 = (sI h2 183 23 (nI (kpU u))).2).trans hD.1
  have er : ∀ a, ¬ (5 ≤ a ∧ a ≤ 9) → a ≠ 14 → ¬ (19 + 5 * (N % 16) ≤ a ∧ a < 24 + 5 * (N % 16)) → ¬ scrA a → zRow a → h3.1 a = h.1 a := fun a b1 b2 b3 b4 b5 => by
    rw [hz.row b5, sI_ne (by omega)]; exact hD.2.1 a b1 b2 b3 b4
  have e183 : ∀ i, i ≠ 0 → i ≠ 23 → h3.1 183 i = h.1 183 i := fun i i1 i2 => by
    rw [hz.2.2.2.1 i i1, sI_nr i2, hD.2.1 183 (by omega) (by omega) (by omega) (by omega)]
  have e197 : ∀ i, ¬ dz i → h3.1 197 i = h.1 197 i := fun i hi => by
    rw [hz.2.2.2.2 i hi, sI_ne (by decide), hD.2.1 197 (by omega) (by omega) (by omega) (by omega)]
  have ef : ∀ f, f + 5 ≤ 183 → fs h3 f = fs h2 f := fun f hf => fs_rows fun a h1 h2' => by rw [hz.row (by omega), sI_ne (by omega)]
  have ekf := kp_kf (h := h) (h3 := h3) a4 a3 (by rw [ef _ (by omega)]; exact hD.2.2.2.1) (fun j hj hne => by
    rw [ef _ (by omega)]
    exact fs_rows fun a b1 b2 => hD.2.1 a (by omega) (by omega) (by omega) (by omega))
  refine ⟨by unfold Std at hS ⊢; rw [e2]; exact hS, hz3, g, n, m, v, ln, tn, N + 1, kpU u, len, ?_, ?_, ⟨?_, ?_⟩, ?_, ?_, ?_, ?_⟩
  · exact GrC_rows e2 (fun a b1 b2 b3 => er a (by omega) (by omega) (by omega) b3 (by omega)) (fun a b1 b2 => er a (by omega) (by omega) (by omega) (by omega) (by omega)) (e183 16 (by decide) (by decide)) c1
  · exact EvC_rows e2 (fun a b1 b2 => er a (by omega) (by omega) (by omega) (by omega) (by omega)) (er 194 (by omega) (by omega) (by omega) (by omega) (by omega)) c2
  · rw [ef 5 (by omega), hD.2.2.1]; exact hF
  · rw [ef 5 (by omega), hD.2.2.1]; exact hB
  · exact ToC_rows (fun a b1 b2 => er a (by omega) (by omega) (by omega) (by omega) (by omega)) (fun i i1 i2 => e197 i (by omega)) c4
  · refine ⟨?_, ?_, ?_, ?_, by omega, ?_, fun a ha => ?_, fun a ha => ?_⟩
    · rw [hz.row (by omega), sI_ne (by decide)]; exact hD.2.2.2.2.1
    · rw [hz.row (by omega), sI_ne (by decide)]; exact hD.2.2.2.2.2
    · unfold kpU; split <;> omega
    · unfold kpU; split <;> omega
    · rw [hz.2.2.2.1 23 (by decide), sI_eq]
    · rw [ekf a ha]; exact FW_up (kpP_FW a7 c3.1 a ha)
    · rw [ekf a ha]; exact hK a ha
  · exact MaC_up (MaC_rows (fun a ha => er a (by omega) (by omega) (by omega) (by omega) (by omega)) (fun i i1 i2 => e197 i (by omega)) c6)
  · exact TaC_rows (fun a ha => er a (by omega) (by omega) (by omega) (by omega) (by omega)) (e183 2 (by decide) (by decide)) c7
theorem CPk_dd {h h2 : AHP} {g n m N u : Nat} {F2 : FS} (hD : DD h h2 N u F2) (hP : CP h h g n m) : CP h2 h g n m := by
  have h16 : N % 16 < 16 := Nat.mod_lt _ (by decide)
  have hS := hP.1.1
  unfold CP RH RD RLw at hP ⊢
  rw [hD.2.1 189 (by omega) (by omega) (by omega) (by omega), hD.2.1 190 (by omega) (by omega) (by omega) (by omega), hD.2.1 191 (by omega) (by omega) (by omega) (by omega)]
  exact ⟨⟨hD.std hS, hP.1.2⟩, hP.2⟩
theorem d197 {h h2 : AHP} {N u : Nat} {F2 : FS} (hD : DD h h2 N u F2) : h2.1 197 = h.1 197 ∧ h2.1 183 = h.1 183 := by
  have h16 : N % 16 < 16 := Nat.mod_lt _ (by decide)
  exact ⟨hD.2.1 197 (by omega) (by omega) (by omega) (by omega), hD.2.1 183 (by omega) (by omega) (by omega) (by omega)⟩
theorem d_pair {d kx km T : Nat} {as : List Value} {h : AHP} {a : Int32} {g n m v ln tn N u len : Nat} {F2 : FS} (hC : CI T h) (c1 : GrC h g n m) (c2 : EvC h v ln m) (c3 : FiC h m T) (c4 : ToC h m tn) (c5 : PaC h m T N u) (c6 : MaC h m T) (c7 : TaC h len) (hF : FW m (T + 1) F2)
    (hc : MM d kx (.ref 1 :: as) h (fun v h2 => v = some (.int a) ∧ DD h h2 N u F2))
    (hr : ∀ h2, CP h2 h g n m → RB (h2.1 197) 0 (fs h 5) → h2.1 183 23 = nI u → RP (h2.1 197) u (kf h N u) → MM d km (.ref 183 :: as) h2 (fun v h3 => v = some (.int a) ∧ Zf dz (sI h2 183 23 (nI (kpU u))) h3 ∧ RB (h3.1 197) 0 F2 ∧ RP (h3.1 197) (kpU u) (kpP (kf h N u) (fs h 5) u))) : PairI d kx km as h T := by
  refine M_mono ?_ (M_nz hC.2.1 hc)
  rintro _ h2 ⟨⟨rfl, hD⟩, hz⟩
  obtain ⟨e1, e2⟩ := d197 hD
  refine ⟨a, rfl, M_mono ?_ (M_nz hz (hr h2 (CPk_dd hD c1.2.2.2.2.2.2.1) (by rw [e1]; exact c3.2) (by rw [e2]; exact c5.2.2.2.2.2.1) (by rw [e1]; exact c5.2.2.2.2.2.2.2)))⟩
  rintro _ h3 ⟨⟨rfl, z1, z2, z3⟩, hz3⟩
  exact ⟨rfl, CI_deed hC.1 hz3 c1 c2 c3 c4 c5 c6 c7 hD z1 z2 z3 hF⟩
theorem p_hour {T d : Nat} {h : AHP} (hC : CI T h) (hT : T ≤ 600) : PairI (d + 20) 114 221 [] h T := by
  obtain ⟨hS, hz, g, n, m, v, ln, tn, N, u, len, c1, c2, c3, c4, c5, c6, c7⟩ := id hC
  have hL := GrC_law c1
  obtain ⟨hg, h7, _, _, _, hM, hP, hV0, hRG, _⟩ := id c1
  have hm := hP.1.2.2.1
  exact d_pair hC c1 c2 c3 c4 c5 c6 c7 (FW_HF hm c3.1) (c_hour hS hg h7 hL hM hm hz c5.1 (by have := c5.2.2.2.2.1; omega) c5.2.1 c5.2.2.1) (fun h2 k1 k2 k3 k4 => r_hourP k1 c3.1 k2 (by omega) k3 c5.2.2.1 k4)
theorem p_poke {T d : Nat} {h : AHP} (hC : CI T h) (hT : T ≤ 600) {x : Int32} : PairI (d + 20) 115 222 [.int x] h T := by
  obtain ⟨hS, hz, g, n, m, v, ln, tn, N, u, len, c1, c2, c3, c4, c5, c6, c7⟩ := id hC
  have hL := GrC_law c1
  obtain ⟨hg, h7, _, _, _, hM, hP, hV0, hRG, _⟩ := id c1
  have hm := hP.1.2.2.1
  by_cases hh : hasF (fs h 5) x
  · obtain ⟨e, he, he7, rfl⟩ := has_lt c3.1.1 hh
    exact d_pair hC c1 c2 c3 c4 c5 c6 c7 (FW_up (FW_stoke c3.1 he7)) (c_poke hS hg h7 hL hM hm hz c5.1 (by have := c5.2.2.2.2.1; omega) c5.2.1 c5.2.2.1 he7 hh) (fun h2 k1 k2 k3 k4 => r_pokeP k1 c3.1 k2 (by omega) k3 c5.2.2.1 k4 he hh)
  · by_cases hx : ¬ x < 0 ∧ x < nI m
    · obtain ⟨e, he, rfl⟩ := of_lt hx hm
      exact q_pair hC (M_we (c_pokeF hS hg h7 hL hM hm hz c5.1 (by have := c5.2.2.2.2.1; omega) c5.2.1 c5.2.2.1 hh)) (fun h2 hw => M_wt (r_pokeA (W_CPk hw hP) c3.1 (W_RB hw (by omega) c3.2) (by omega) ((hw.2.2.2.1 23 (by decide)).trans c5.2.2.2.2.2.1) c5.2.2.1 (W_RP hw c5.2.2.1 c5.2.2.2.2.2.2.2) he hh))
    · exact q_pair hC (M_we (c_pokeF hS hg h7 hL hM hm hz c5.1 (by have := c5.2.2.2.2.1; omega) c5.2.1 c5.2.2.1 hh)) (fun h2 hw => M_wt (r_pokeF (W_CPk hw hP) c3.1 (W_RB hw (by omega) c3.2) (by omega) ((hw.2.2.2.1 23 (by decide)).trans c5.2.2.2.2.2.1) c5.2.2.1 (W_RP hw c5.2.2.1 c5.2.2.2.2.2.2.2) hx))
theorem p_tongs {T d : Nat} {h : AHP} (hC : CI T h) (hT : T ≤ 600) {x y : Int32} : PairI (d + 20) 116 224 [.int x, .int y] h T := by
  obtain ⟨hS, hz, g, n, m, v, ln, tn, N, u, len, c1, c2, c3, c4, c5, c6, c7⟩ := id hC
  have hL := GrC_law c1
  obtain ⟨hg, h7, _, _, _, hM, hP, hV0, hRG, _⟩ := id c1
  have hm := hP.1.2.2.1
  by_cases hx : ¬ x < 0 ∧ x < nI m
  · obtain ⟨e, he, rfl⟩ := of_lt hx hm
    by_cases hy : ¬ y < 0 ∧ ¬ 11 < y
    · obtain ⟨c, _, hc, rfl⟩ := of_range hy (show (0 : Int32) = nI 0 from rfl) (show (11 : Int32) = nI 11 from rfl) (by decide) (by decide)
      by_cases hh : hasF (fs h 5) (nI e) ∧ freeF (fs h 5) (nI c)
      · exact d_pair hC c1 c2 c3 c4 c5 c6 c7 (FW_up (FW_carry c3.1 (by omega) (by omega))) (c_tongs hS hg h7 hL hM hm hz c5.1 (by have := c5.2.2.2.2.1; omega) c5.2.1 c5.2.2.1 hh) (fun h2 k1 k2 k3 k4 => r_tongs k1 c3.1 k2 (by omega) k3 c5.2.2.1 k4 he (by omega) hh)
      · exact q_pair hC (M_we (c_tongsF hS hg h7 hL hM hm hz c5.1 (by have := c5.2.2.2.2.1; omega) c5.2.1 c5.2.2.1 hh)) (fun h2 hw => M_wt (r_tongsA (W_CPk hw hP) c3.1 (W_RB hw (by omega) c3.2) (by omega) ((hw.2.2.2.1 23 (by decide)).trans c5.2.2.2.2.2.1) c5.2.2.1 (W_RP hw c5.2.2.1 c5.2.2.2.2.2.2.2) he (by omega) hh))
    · exact q_pair hC (M_we (c_tongsF hS hg h7 hL hM hm hz c5.1 (by have := c5.2.2.2.2.1; omega) c5.2.1 c5.2.2.1 (fun q => cell_F hy ⟨q.2.1, q.2.2.1⟩))) (fun h2 hw => M_wt (r_tongsG (W_CPk hw hP) c3.1 (W_RB hw (by omega) c3.2) (by omega) ((hw.2.2.2.1 23 (by decide)).trans c5.2.2.2.2.2.1) c5.2.2.1 (W_RP hw c5.2.2.1 c5.2.2.2.2.2.2.2) he hy))
  · exact q_pair hC (M_we (c_tongsF hS hg h7 hL hM hm hz c5.1 (by have := c5.2.2.2.2.1; omega) c5.2.1 c5.2.2.1 (fun q => hx (by obtain ⟨e, he, _, rfl⟩ := has_lt c3.1.1 q.1; exact isE he hm)))) (fun h2 hw => M_wt (r_tongsF (W_CPk hw hP) c3.1 (W_RB hw (by omega) c3.2) (by omega) ((hw.2.2.2.1 23 (by decide)).trans c5.2.2.2.2.2.1) c5.2.2.1 (W_RP hw c5.2.2.1 c5.2.2.2.2.2.2.2) hx))
theorem p_fuel {T d : Nat} {h : AHP} (hC : CI T h) (hT : T ≤ 600) {x y : Int32} : PairI (d + 20) 117 225 [.int x, .int y] h T := by
  obtain ⟨hS, hz, g, n, m, v, ln, tn, N, u, len, c1, c2, c3, c4, c5, c6, c7⟩ := id hC
  have hL := GrC_law c1
  obtain ⟨hg, h7, _, _, _, hM, hP, hV0, hRG, _⟩ := id c1
  have hm := hP.1.2.2.1
  by_cases hx : ¬ x < 0 ∧ x < nI m
  · obtain ⟨e, he, rfl⟩ := of_lt hx hm
    by_cases hy : ¬ y < 1 ∧ ¬ 9 < y
    · by_cases hh : hasF (fs h 5) (nI e)
      · obtain ⟨c, h1, hc, rfl⟩ := of_range hy (show (1 : Int32) = nI 1 from rfl) (show (9 : Int32) = nI 9 from rfl) (by decide) (by decide)
        exact d_pair hC c1 c2 c3 c4 c5 c6 c7 (FW_up (FW_fuel c3.1 (by omega) (by omega))) (c_fuel hS hg h7 hL hM hm hz c5.1 (by have := c5.2.2.2.2.1; omega) c5.2.1 c5.2.2.1 (by omega) hh hy) (fun h2 k1 k2 k3 k4 => r_fuelP k1 c3.1 k2 (by omega) k3 c5.2.2.1 k4 he h1 hc hh)
      · exact q_pair hC (M_we (c_fuelF hS hg h7 hL hM hm hz c5.1 (by have := c5.2.2.2.2.1; omega) c5.2.1 c5.2.2.1 (fun q => hh q.1))) (fun h2 hw => M_wt (r_fuelA (W_CPk hw hP) c3.1 (W_RB hw (by omega) c3.2) (by omega) ((hw.2.2.2.1 23 (by decide)).trans c5.2.2.2.2.2.1) c5.2.2.1 (W_RP hw c5.2.2.1 c5.2.2.2.2.2.2.2) he hy hh))
    · exact q_pair hC (M_we (c_fuelF hS hg h7 hL hM hm hz c5.1 (by have := c5.2.2.2.2.1; omega) c5.2.1 c5.2.2.1 (fun q => hy q.2))) (fun h2 hw => M_wt (r_fuelG (W_CPk hw hP) c3.1 (W_RB hw (by omega) c3.2) (by omega) ((hw.2.2.2.1 23 (by decide)).trans c5.2.2.2.2.2.1) c5.2.2.1 (W_RP hw c5.2.2.1 c5.2.2.2.2.2.2.2) he hy))
  · exact q_pair hC (M_we (c_fuelF hS hg h7 hL hM hm hz c5.1 (by have := c5.2.2.2.2.1; omega) c5.2.1 c5.2.2.1 (fun q => hx (by obtain ⟨e, he, _, rfl⟩ := has_lt c3.1.1 q.1; exact isE he hm)))) (fun h2 hw => M_wt (r_fuelF (W_CPk hw hP) c3.1 (W_RB hw (by omega) c3.2) (by omega) ((hw.2.2.2.1 23 (by decide)).trans c5.2.2.2.2.2.1) c5.2.2.1 (W_RP hw c5.2.2.1 c5.2.2.2.2.2.2.2) hx))
theorem p_bank {T d : Nat} {h : AHP} (hC : CI T h) (hT : T ≤ 600) : PairI (d + 20) 118 226 [] h T := by
  obtain ⟨hS, hz, g, n, m, v, ln, tn, N, u, len, c1, c2, c3, c4, c5, c6, c7⟩ := id hC
  have hL := GrC_law c1
  obtain ⟨hg, h7, _, _, _, hM, hP, hV0, hRG, _⟩ := id c1
  have hm := hP.1.2.2.1
  exact d_pair hC c1 c2 c3 c4 c5 c6 c7 (FW_up (FW_bank c3.1)) (c_bank hS hg h7 hL hM hm hz c5.1 (by have := c5.2.2.2.2.1; omega) c5.2.1 c5.2.2.1) (fun h2 k1 k2 k3 k4 => r_bankP k1 c3.1 k2 (by omega) k3 c5.2.2.1 k4)
