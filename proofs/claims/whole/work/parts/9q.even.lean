/-! ===== both read a grate alike ===== -/
theorem cI_lt {p : Prop} {a b N : Nat} (ha : a < N) (hb : b < N) : cI p a b < N := by
  by_cases q : p
  · rw [cI_t q]; exact ha
  · rw [cI_f q]; exact hb
theorem cI_fst {p : Prop} {α : Type} {x y : Nat × α} : (cI p x y).1 = cI p x.1 y.1 := by
  by_cases q : p
  · rw [cI_t q, cI_t q]
  · rw [cI_f q, cI_f q]
theorem sgF_b {TK : Nat → Tk} {p : Nat} (hB : ∀ j, TKb (TK j)) : sgF TK p < 100000 := cI_lt (by decide) (wr0_b hB (by decide))
theorem eF_b {TK : Nat → Tk} {i m : Nat} {a b : Prop} (hB : ∀ j, TKb (TK j)) : eF TK i m a b < 100000 := cI_lt (wr0_b hB (by decide)) (cI_lt (wr0_b hB (by decide)) (cI_lt (wr0_b hB (by decide)) (cI_lt (wr0_b hB (by decide)) (cI_lt (wr0_b hB (by decide)) (cI_lt (wr0_b hB nmF_5.2) (cI_lt (wr0_b hB (by decide)) (cI_lt (wr0_b hB (by decide)) (cI_lt (wr0_b hB nmF_5.2) (cI_lt (wr0_b hB (by decide)) (cI_lt (wr0_b hB nmF_5.2) (by decide)))))))))))
theorem dS_b {TK : Nat → Tk} (hB : ∀ j, TKb (TK j)) : ∀ (k p j : Nat), (dS TK k p j).1 < 100000 := by
  intro k
  induction k with
  | zero => intro p j; show 0 < 100000; decide
  | succ k ih =>
    intro p j
    rw [dS, cI_fst, cI_fst, cI_fst]
    exact cI_lt (show 0 < 100000 by decide) (cI_lt (wr0_b hB nmF_5.2) (cI_lt (wr0_b hB (by decide)) (ih (p + 1) (j + 1))))
theorem gL_b {TK : Nat → Tk} {n i : Nat} {G : GS} (hB : ∀ j, TKb (TK j)) (hE : (TK n).1 = 0) (hi1 : i + 1 ≤ n) : (gL TK n i G).1 < 100000 := by
  have w : ∀ {c : Nat}, c ≤ 5 → wrF TK c i 0 < 100000 := fun h => wr0_b hB h
  have hk9 : okR TK n (i + 1, 0, []) := ⟨hi1, show 0 < 100000 by decide, Nat.zero_le _⟩
  have hk3 := okR_go hk9 (pJ_go hB hE _ _ _ _ _ hk9.1 hk9.2.1 (lawS_eq hB hE hk9.1 hk9.2.1))
  unfold gL
  rw [cI_fst, cI_fst, cI_fst, cI_fst, cI_fst, cI_fst, cI_fst]
  refine cI_lt (cI_lt (sgF_b hB) (eF_b hB)) (cI_lt (cI_lt (w (by decide)) (cI_lt (sgF_b hB) (dS_b hB _ _ _))) (cI_lt (cI_lt (w (by decide)) (cI_lt (sgF_b hB) (wr0_b hB nmF_5.2))) (cI_lt (cI_lt (w (by decide)) (cI_lt (sgF_b hB) hk3.2.1)) (w (by decide)))))
theorem gRun_b {TK : Nat → Tk} {n : Nat} (hB : ∀ j, TKb (TK j)) (hE : (TK n).1 = 0) (hn : n ≤ 1000) : ∀ (k i : Nat) (G : GS), i ≤ n → gOK G → (gRun TK n k i G).1 < 100000 := by
  intro k
  induction k with
  | zero => intro i G _ _; show 0 < 100000; decide
  | succ k ih =>
    intro i G hi hG
    rw [gRun]
    by_cases c1 : (TK i).1 = 0
    · rw [cI_t c1]; show 0 < 100000; decide
    rw [cI_f c1]
    by_cases c2 : (gL TK n i G).1 = 0
    · rw [cI_t c2]
      have := gL_go hB hE hn hi c1 hG c2
      exact ih _ _ this.2.1 this.2.2
    · rw [cI_f c2]
      exact gL_b hB hE (lt_end hE hi c1)
/-- what the reference changes while it reads -/
def FR (k h : AHP) : Prop := h.2.2 = k.2.2 ∧ (∀ a, a ≠ 187 → a ≠ 193 → h.2.1 a = k.2.1 a) ∧ (∀ a, a ≠ 183 → a ≠ 185 → a ≠ 186 → a ≠ 189 → a ≠ 190 → a ≠ 191 → h.1 a = k.1 a) ∧ (∀ j, j ≠ 0 → j ≠ 2 → j ≠ 3 → j ≠ 7 → j ≠ 8 → j ≠ 13 → j ≠ 17 → j ≠ 18 → h.1 183 j = k.1 183 j) ∧ h.1 183 2 = 0 ∧ (∀ j, j < 50 → h.1 189 j = k.1 189 j) ∧ ∀ j, j < 1100 → h.1 190 j = k.1 190 j ∧ h.1 191 j = k.1 191 j
theorem FR_of {k k1 h : AHP} (hc : Cf (sI (sI k 183 0 0) 183 2 0) k1) (hg : GF k1 h) : FR k h := by
  obtain ⟨a1, a2, a3, a4⟩ := hc
  obtain ⟨b1, b2, b3, b4, b5, b6⟩ := hg
  have r : ∀ a, a ≠ 183 → a ≠ 185 → a ≠ 186 → k1.1 a = k.1 a := fun a q1 q2 q3 => by rw [a3 a q2 q3 q1, sI_ne q1, sI_ne q1]
  refine ⟨b1.trans a1, fun a q1 q2 => (b2 a q2).trans (a2 a q1), fun a q1 q2 q3 q4 q5 q6 => (b3 a q1 q4 q5 q6).trans (r a q1 q2 q3), fun j q0 q2 q3 q7 q8 q13 q17 q18 => ?_, ?_, fun j hj => by rw [b5 j hj, r 189 (by decide) (by decide) (by decide)], fun j hj => by rw [(b6 j hj).1, (b6 j hj).2, r 190 (by decide) (by decide) (by decide), r 191 (by decide) (by decide) (by decide)]; exact ⟨rfl, rfl⟩⟩
  · rw [b4 j q7 q8 q13 q17 q18, a4 j q3 q7 q8, sI_nr q2, sI_nr q0]
  · rw [b4 2 (by decide) (by decide) (by decide) (by decide) (by decide), a4 2 (by decide) (by decide) (by decide), sI_eq]
set_option maxRecDepth 8000 in
theorem r_gA {d : Nat} {k : AHP} {ch : Nat → Nat} {len : Nat} {Q : Option Value → AHP → Prop} (hS : Std k) (hC : CHr (k.1 184) ch len) (hlen : len ≤ 1000) (hl : k.1 183 2 = nI len) (hq : ∀ k1, CutQ (sI (sI k 183 0 0) 183 2 0) ch len none k1 → TT (d + 37) 182 9 [some (.ref 183), none] [] k1 Q) : MM (d + 37) 182 [.ref 183] k (fun v h2 => Q v h2) := by
  refine ⟨Nat.le_of_ble_eq_true rfl, ?_⟩
  refine t_go (op := o_aload 1 0) (fe_X12_grate 0) (fun _ _ => rfl) ?_
  refine t_go (op := o_ci 2 0) (fe_X12_grate 1) (fun _ _ => rfl) ?_
  refine t_go (op := o_putI 5 11 0) (fe_X12_grate 2) (g_putI hS (show (lay 183).1 = 11 by decide) (by decide)) ?_
  refine t_go (op := o_aload 6 0) (fe_X12_grate 5) (fun _ _ => rfl) ?_
  refine t_call (op := o_callV 9 165 1 11) (fe_X12_grate 6) (g_callV hS (show (lay 183).1 = 11 by decide) (by decide) rfl rfl rfl (Nat.le_of_ble_eq_true rfl)) ?_
  refine M_mono ?_ (r_cutAll (k := sI k 183 0 0) (ch := ch) (len := len) hS (by rw [sI_ne (by decide)]; exact hC) hlen (by rw [sI_nr (by decide)]; exact hl))
  intro v k1 hq1
  obtain rfl := hq1.1
  exact hq _ hq1
theorem r_grate {d : Nat} {k : AHP} {ch : Nat → Nat} {len n : Nat} {F : FS} {Q : Option Value → AHP → Prop} (hS : Std k) (hC : CHr (k.1 184) ch len) (hlen : len ≤ 1000) (hl : k.1 183 2 = nI len) (hW : WdR k) (hB : ∀ j, TKb (tkT ch len j)) (hN : endN ch len n) {R : Nat × GS} (hRR : R = gRun (tkT ch len) n (n + 1) 0 ([], [], 0, [])) (hBG : R.1 = 0 → BG R.2.1 F) (hq1 : ¬ R.1 = 0 → ∀ h3, FR k h3 → Q (some (.int (nI R.1))) h3) (hq0 : R.1 = 0 → gOK R.2 → ∀ h4 h3, FR k h4 → GR h4 R.2 → GQ h4 h3 R.2.1.length (cdl R.2) F → Q (some (.int 0)) h3) : MM (d + 37) 182 [.ref 183] k Q := by
  refine r_gA hS hC hlen hl (fun k1 hcq => ?_)
  obtain ⟨_, hcf, ⟨n1, cu1, cu2, cu3, cu4⟩, _, e7, e8⟩ := hcq
  have en : n1 = n := endN_one ⟨cu1, cu2, cu3⟩ hN
  subst en
  have hn : n1 ≤ 1000 := Nat.le_trans cu1 hlen
  have hS1 : Std k1 := hcf.std (k := sI (sI k 183 0 0) 183 2 0) hS
  have hR0 : RQ k1 (tkT ch len) n1 := ⟨hS1, cu4, hn, hB, fun j hj => by rw [hcf.2.1 188 (by decide)]; exact hW j hj⟩
  refine r_g9 hS1 (fun h2 eh2 => ?_)
  have hs0 : RGs k1 h2 0 ([], [], 0, []) := by rw [eh2]; exact RGs_0 e7 e8
  refine r_lines hR0 cu2 (n1 + 1) 0 ([], [], 0, []) h2 (by omega) (Nat.zero_le _) gOK_0 hs0 (fun hF h4 i2 hs hok => ?_) (fun hF h4 hs => ?_)
  · rw [← hRR] at hF hs hok
    have hm7 := hok.1
    have hcl : cdl R.2 ≤ 1001 := by
      unfold cdl
      by_cases q : R.2.2.2.2 = []
      · rw [if_pos q]; omega
      · rw [if_neg q]
        rcases hok.2.2.2.2.2 with w | w
        · exact absurd w q
        · have := w.1; omega
    exact r_gfin (hs.1.std hS1) hs.2.2.1 hs.2.2.2.1 hcl hs.2.2.2.2.1 hm7 hs.2.2.2.2.2.2.1.1 (fun k9 e9 => RG_of hm7 hs.2.2.2.2.2.2.1 (hBG hF) e9) (fun h3 hgq => hq0 hF hok h4 h3 (FR_of hcf hs.1) hs.2.2.2.2.2.2 hgq)
  · rw [← hRR] at hF hs
    obtain ⟨g0, hF5, i, hi, q7, q8⟩ := hs
    rw [← AT_id q7 q8]
    refine r_g77F (g0.rq hR0) hi hF5 hF ?_
    rw [AT_id q7 q8]
    exact hq1 hF h4 (FR_of hcf g0)
theorem p_grate {T d : Nat} {h : AHP} (hC : CI T h) : PairI (d + 50) 110 182 [] h T := by
  have hC0 := hC
  obtain ⟨hS, hz, g, nl, m, ev, ln, tn, N, u, len, c1, c2, c3, c4, c5, c6, c7⟩ := hC
  obtain ⟨hg, h7, ⟨g2, hg2, hne, h8, hV2⟩, hn, hl, hm, hP, hVg, hRg, hN1, hN2, hN3⟩ := c1
  obtain ⟨hv, h9, ⟨v2, hv2, hnv, h10⟩, hln, hLV, hLN⟩ := c2
  obtain ⟨t1, t2, t3, t4⟩ := c7
  have hm7 : m ≤ 7 := hP.1.2.2.1
  have gi := grate_scr hg
  have gi2 := grate_scr hg2
  have vi := even_id hv
  have vi2 := even_id hv2
  have hCH : CHr (h.1 3) (fun i => (h.1 3 i).toNatClampNeg) len := CHr_of (fun i hi => (t4 i hi).2)
  have hCH4 : CHr (h.1 184) (fun i => (h.1 3 i).toNatClampNeg) len := fun i hi => by rw [← (t4 i hi).1]; exact hCH i hi
  obtain ⟨ch, ech⟩ : ∃ c, c = (fun i => (h.1 3 i).toNatClampNeg) := ⟨_, rfl⟩
  rw [← ech] at hCH hCH4
  obtain ⟨n, hN⟩ := endN_ex (ch := ch) (len := len)
  have hnn : n ≤ 1000 := Nat.le_trans hN.1 t1
  have hB : ∀ j, TKb (tkT ch len j) := tk_b hCH t1
  obtain ⟨R, hRR⟩ : ∃ R, R = gRun (tkT ch len) n (n + 1) 0 ([], [], 0, []) := ⟨_, rfl⟩
  have hRb : R.1 < 100000 := by rw [hRR]; exact gRun_b hB hN.2.1 hnn (n + 1) 0 _ (Nat.zero_le _) gOK_0
  have kr : ∀ {h1 : AHP}, KGf h h1 g2 → (∀ a, a ≠ 2 → a ≠ 4 → (a < g2 ∨ g2 + 12 < a) → h1.1 a = h.1 a) := fun hf a q1 q2 q3 => hf.2.2.2.1 a q1 q2 q3
  by_cases hF : R.1 = 0
  · have hM0 : MM (d + 6 + 43) 69 [.ref 4, .ref g2] h (fun w h2 => w = some (.int 0) ∧ ∃ i2, KGs h h2 g2 ch len i2 R.2 ∧ gOK R.2) := k_readGrate (d := d + 6) hS hg2 (by omega) hV2 hCH t1 t2 hN.2.1 hB hnn (fun _ h2 i2 hs hok => ⟨rfl, i2, by rw [hRR]; exact hs, by rw [hRR]; exact hok⟩) (fun hF2 => absurd (by rw [← hRR]; exact hF) hF2)
    have hM := M_mono (Q' := fun w h2 => w = some (.int 0) ∧ Std h2 ∧ NZ h2 ∧ h2.2.2.1 1 7 = g ∧ h2.2.2.1 1 8 = g2 ∧ h2.2.2.1 1 9 = ev ∧ (∃ i2, KGs h h2 g2 ch len i2 R.2 ∧ gOK R.2)) (fun w h2 q => by
      obtain ⟨⟨q1, i2, q2, q3⟩, q4⟩ := q
      exact ⟨q1, q2.1.std hS, q4, (q2.1.2.1 1 7 (by decide)).trans h7, (q2.1.2.1 1 8 (by decide)).trans h8, (q2.1.2.1 1 9 (by decide)).trans h9, i2, q2, q3⟩) (M_nz hz hM0)
    refine M_mono ?_ (M_nz hz (c_grateY (d := d + 6) (e := ev) (F := 0) hS h8 hg2 hg hv hM))
    rintro _ h2 ⟨⟨rfl, h1, ⟨i2, hs, hok⟩, eh2⟩, hz2⟩
    refine ⟨0, rfl, ?_⟩
    have hbg := hs.2.2.1.2.2
    have k1 := kr hs.1
    have e22 : h2.2 = (sR (sR (sI h1 2 1 0) 1 8 g) 1 7 g2).2 := by rw [eh2, unl_2]; rfl
    have ra : ∀ a, a ≠ 18 → h2.1 a = (sI (sI (sI (setF (sR (sR (sI h1 2 1 0) 1 8 g) 1 7 g2) 5 (fs h1 (g2 + 3))) ev 3 0) 10 3 0) 14 5 0).1 a := fun a ha => by rw [eh2]; exact unl_r ha 4 0 _ rfl
    have r2 : ∀ a, a ≠ 18 → a ≠ 14 → a ≠ 10 → a ≠ ev → (a < 5 ∨ 5 + 5 ≤ a) → a ≠ 2 → h2.1 a = h1.1 a := fun a q1 q2 q3 q4 q5 q6 => by
      rw [ra a q1, sI_ne q2, sI_ne q3, sI_ne q4, setF_row q5]
      exact (show (sI h1 2 1 0).1 a = h1.1 a from sI_ne q6)
    have hJ : h2.2.1 = h1.2.1 := by rw [e22]; rfl
    have s7 : h2.2.2.1 1 7 = g2 := by rw [e22]; exact sR_eq
    have s8 : h2.2.2.1 1 8 = g := by rw [e22]; exact (sR_nr (by decide)).trans sR_eq
    have sr : ∀ a i, ¬ (a = 1 ∧ (i = 7 ∨ i = 8)) → h2.2.2.1 a i = h1.2.2.1 a i := fun a i q => by
      rw [e22]
      show up2 (up2 h1.2.2.1 1 8 g) 1 7 g2 a i = _
      unfold up2
      by_cases q1 : a = 1
      · rw [if_pos q1, if_neg (fun w => q ⟨q1, Or.inl w⟩), if_pos q1.symm.symm, if_neg (fun w => q ⟨q1, Or.inr w⟩)]
      · rw [if_neg q1, if_neg q1]
    have hS2 : Std h2 := by
      have := Std_sR7 (i := 7) (v := g2) (by decide) (Std_sR7 (h := sI h1 2 1 0) (i := 8) (v := g) (by decide) (hs.1.std hS))
      unfold Std at this ⊢
      rw [e22]
      exact this
    have hC2 : CHr (h2.1 184) ch len := by rw [r2 184 (by decide) (by decide) (by decide) (by omega) (by decide) (by decide), k1 184 (by decide) (by decide) (by omega)]; exact hCH4
    have hl2 : h2.1 183 2 = nI len := by rw [r2 183 (by decide) (by decide) (by decide) (by omega) (by decide) (by decide), k1 183 (by decide) (by decide) (by omega)]; exact t3
    have hW2 : WdR h2 := fun j hj => by rw [hJ, hs.1.2.2.1 188 (by decide) (by omega)]; exact hN3 j hj
    refine M_mono ?_ (M_nz hz2 (r_grate (d := d + 13) (k := h2) (F := fs h1 (g2 + 3)) (Q := fun w h3 => w = some (.int 0) ∧ ∃ h4, FR h2 h4 ∧ GR h4 R.2 ∧ GQ h4 h3 R.2.1.length (cdl R.2) (fs h1 (g2 + 3))) hS2 hC2 t1 hl2 hW2 hB hN hRR (fun _ => hbg) (fun q => absurd hF q) (fun _ _ h4 h3 fr gr gq => ⟨rfl, h4, fr, gr, gq⟩)))
    rintro _ h3 ⟨⟨rfl, h4, fr, gr, gq⟩, hz3⟩
    obtain ⟨q1, q2, q3, q4, q5, q6, q7, q8, q9, q10, q11, q12, q13⟩ := gq
    have r3 : ∀ a, a < 183 → h3.1 a = h2.1 a := fun a ha => by rw [q3 a (Or.inl ha) (by omega) (by omega) (by omega) (by omega) (by omega), fr.2.2.1 a (by omega) (by omega) (by omega) (by omega) (by omega) (by omega)]
    have e33 : h3.2.2 = h2.2.2 := q1.trans fr.1
    have hS3 : Std h3 := by
      have := hS2
      unfold Std at this ⊢
      rw [e33]
      exact this
    have r23 : ∀ a, a < 183 → a ≠ 18 → a ≠ 14 → a ≠ 10 → a ≠ ev → (a < 5 ∨ 5 + 5 ≤ a) → a ≠ 2 → h3.1 a = h1.1 a := fun a p0 p1 p2 p3 p4 p5 p6 => (r3 a p0).trans (r2 a p1 p2 p3 p4 p5 p6)
    have f5 : fs h2 5 = fs h1 (g2 + 3) := by
      have e1 : fs (setF (sR (sR (sI h1 2 1 0) 1 8 g) 1 7 g2) 5 (fs h1 (g2 + 3))) 5 = fs h1 (g2 + 3) := fs_setF
      rw [← e1]
      exact fs_rows fun a p1 p2 => by rw [ra a (by omega), sI_ne (by omega), sI_ne (by omega), sI_ne (by omega)]
    have f35 : fs h3 5 = fs h1 (g2 + 3) := (fs_rows fun a p1 p2 => r3 a (by omega)).trans f5
    have f3g : fs h3 (g2 + 3) = fs h1 (g2 + 3) := fs_rows fun a p1 p2 => r23 a (by omega) (by omega) (by omega) (by omega) (by omega) (by omega) (by omega)
    have n3 : N ≤ T := c5.2.2.2.2.1
    refine ⟨rfl, CI_new (h4 := h4) (g := g) (g2 := g2) (v := ev) (v2 := v2) (N := N) (G := R.2) hS3 hz3 hok hg2 (by rw [e33]; exact s7) hg (fun w => hne w.symm) (by rw [e33]; exact s8) ?_ ?_ gr q5 q6 q7 ?_ q8 hv ?_ hv2 hnv ?_ ?_ q11 (f35.trans f3g.symm) (by rw [f35]; exact q9) ⟨?_, q10⟩ ?_ n3 ⟨?_, q12⟩ (fun q hq => ⟨?_, q13 q hq⟩) ⟨?_, ?_⟩⟩
    · rw [show fs h3 (g + 3) = fs h (g + 3) from fs_rows fun a p1 p2 => (r23 a (by omega) (by omega) (by omega) (by omega) (by omega) (by omega) (by omega)).trans (k1 a (by omega) (by omega) (by omega))]
      exact FV_up hVg hm7
    · exact KG_rows (fun a p1 p2 => r23 a (by omega) (by omega) (by omega) (by omega) (by omega) (by omega) (by omega)) (by rw [q2 (g2 + 1) (by omega), fr.2.1 (g2 + 1) (by omega) (by omega), hJ]) hs.2.2
    · intro j hj
      rw [q2 188 (by decide), fr.2.1 188 (by decide) (by decide)]
      exact hW2 j hj
    · rw [e33, sr 1 9 (by decide)]; exact (hs.1.2.1 1 9 (by decide)).trans h9
    · rw [e33, sr 1 10 (by decide)]; exact (hs.1.2.1 1 10 (by decide)).trans h10
    · rw [r3 ev (by omega), ra ev (by omega), sI_ne (by omega), sI_ne (by omega), sI_eq]
    · rw [r3 10 (by decide), ra 10 (by decide), sI_ne (by decide), sI_eq]
    · rw [r3 14 (by decide), ra 14 (by decide), sI_nr (by decide), sI_ne (by decide), sI_ne (by omega), setF_row (by decide)]
      exact (show (sI h1 2 1 0).1 14 4 = nI N from by rw [sI_ne (by decide), k1 14 (by decide) (by decide) (by omega)]; exact c5.1)
    · rw [r3 14 (by decide), ra 14 (by decide), sI_eq]
    · rw [r3 18 (by decide), eh2]; exact unl_18 hq
    · rw [r3 2 (by decide), ra 2 (by decide), sI_ne (by decide), sI_ne (by decide), sI_ne (by omega), setF_row (by decide)]
      exact (show (sI h1 2 1 0).1 2 1 = 0 from sI_eq)
    · rw [q4 2 (by decide) (by decide) (by decide)]; exact fr.2.2.2.2.1
  · have hM0 : MM (d + 6 + 43) 69 [.ref 4, .ref g2] h (fun w h2 => w = some (.int (nI R.1)) ∧ Std h2 ∧ KGF h h2 g2 R.1) := k_readGrate (d := d + 6) hS hg2 (by omega) hV2 hCH t1 t2 hN.2.1 hB hnn (fun hF2 => absurd (by rw [hRR]; exact hF2) hF) (fun _ h2 q => by rw [← hRR] at q ⊢; exact ⟨rfl, q.1.std hS, q⟩)
    refine M_mono ?_ (M_nz hz (c_grateF (d := d + 6) (g := g) (e := ev) (F := R.1) hS h8 hg2 (fun q => hF ((nI_eq (b := 0) (by omega) (by decide)).mp q)) hM0))
    rintro _ h2 ⟨⟨rfl, h1, hq, eh2⟩, hz2⟩
    refine ⟨_, rfl, ?_⟩
    obtain ⟨hf, hq4, hV1⟩ := hq
    have k1 := kr hf
    have r2 : ∀ a, a ≠ 2 → h2.1 a = h1.1 a := fun a q => by rw [eh2]; exact sI_ne q
    have e22 : h2.2 = h1.2 := by rw [eh2]; rfl
    have hS2 : Std h2 := by rw [eh2]; exact hf.std hS
    have hC2 : CHr (h2.1 184) ch len := by rw [r2 184 (by decide), k1 184 (by decide) (by decide) (by omega)]; exact hCH4
    have hl2 : h2.1 183 2 = nI len := by rw [r2 183 (by decide), k1 183 (by decide) (by decide) (by omega)]; exact t3
    have hW2 : WdR h2 := fun j hj => by rw [e22, hf.2.2.1 188 (by decide) (by omega)]; exact hN3 j hj
    refine M_mono ?_ (M_nz hz2 (r_grate (d := d + 13) (k := h2) (F := fs h1 5) (Q := fun w h3 => w = some (.int (nI R.1)) ∧ FR h2 h3) hS2 hC2 t1 hl2 hW2 hB hN hRR (fun q => absurd q hF) (fun _ h3 fr => ⟨rfl, fr⟩) (fun q => absurd q hF)))
    rintro _ h3 ⟨⟨rfl, fr⟩, hz3⟩
    have hS3 : Std h3 := by
      have := hS2
      unfold Std at this ⊢
      rw [fr.1]
      exact this
    refine ⟨rfl, CI_old (g2 := g2) (v2 := v2) hC0 hS3 hz3 hg2 h8 hv2 h10 (fun a i q => by rw [fr.1, e22]; exact hf.2.1 a i q) (fun a p1 p2 p3 p4 => by rw [fr.2.1 a p2 p3, e22]; exact hf.2.2.1 a p1 p4) (fun a p1 p2 p3 p4 p5 p6 p7 p8 p9 p10 p11 => by rw [fr.2.2.1 a p3 p4 p5 p6 p7 p8, r2 a p1]; exact k1 a p1 p2 p10) ⟨?_, ?_⟩ (fun j hj => ?_) (fun j hj => ?_) (fun j hj => ?_) ⟨?_, fr.2.2.2.2.1⟩ ?_⟩
    · rw [fr.2.2.2.1 16 (by decide) (by decide) (by decide) (by decide) (by decide) (by decide) (by decide) (by decide), r2 183 (by decide), k1 183 (by decide) (by decide) (by omega)]
    · rw [fr.2.2.2.1 23 (by decide) (by decide) (by decide) (by decide) (by decide) (by decide) (by decide) (by decide), r2 183 (by decide), k1 183 (by decide) (by decide) (by omega)]
    · rw [fr.2.2.2.2.2.1 j hj, r2 189 (by decide), k1 189 (by decide) (by decide) (by omega)]
    · rw [(fr.2.2.2.2.2.2 j hj).1, (fr.2.2.2.2.2.2 j hj).2, r2 190 (by decide), r2 191 (by decide), k1 190 (by decide) (by decide) (by omega), k1 191 (by decide) (by decide) (by omega)]
      exact ⟨rfl, rfl⟩
    · rw [fr.2.2.1 194 (by decide) (by decide) (by decide) (by decide) (by decide) (by decide), r2 194 (by decide), k1 194 (by decide) (by decide) (by omega)]
    · rw [fr.2.2.1 2 (by decide) (by decide) (by decide) (by decide) (by decide) (by decide), eh2]; exact sI_eq
    · rw [show fs h3 (g2 + 3) = fs h1 (g2 + 3) from fs_rows fun a p1 p2 => (fr.2.2.1 a (by omega) (by omega) (by omega) (by omega) (by omega) (by omega)).trans (r2 a (by omega))]
      exact hV1
