/-! ===== the reference reads a grate: lines ===== -/
set_option maxRecDepth 8000 in
theorem r_g30E {d : Nat} {h : AHP} {TK : Nat → Tk} {n i : Nat} (hR : RQ h TK n) (hi : i ≤ n) {x1 : Option Value} (h0 : (TK i).1 = 0) {Q : Option Value → AHP → Prop} (hq : TT (d + 37) 182 77 [some (.ref 183), x1] [] (AT h i 0) Q) : TT (d + 37) 182 30 [some (.ref 183), x1] [] (AT h i 0) Q := by
  have hS := hR.1
  have hB := hR.2.2.2.1
  have hn := hR.2.2.1
  refine t_go (op := o_aload 31 0) (fe_X12_grate 30) (fun _ _ => rfl) ?_
  refine t_go (op := o_getI 34 11 8) (fe_X12_grate 31) (g_getI hS (show (lay 183).1 = 11 by decide) (by decide)) ?_
  rw [show (AT h i 0).1 183 8 = nI 0 from AT_8]
  refine t_ite (op := o_if 77 37 (fun x => x = 0) (fun _ => inferInstance)) (fe_X12_grate 34) g_if (fun c1 => ?_) (fun c1 => ?_)
  · refine t_go (op := o_aload 38 0) (fe_X12_grate 37) (fun _ _ => rfl) ?_
    refine t_go (op := o_getR 41 11 4) (fe_X12_grate 38) (g_getR hS (show (lay 183).1 = 11 by decide) (by decide) (fr_11_4 hS) (by decide)) ?_
    refine t_go (op := o_aload 42 0) (fe_X12_grate 41) (fun _ _ => rfl) ?_
    refine t_go (op := o_getI 45 11 7) (fe_X12_grate 42) (g_getI hS (show (lay 183).1 = 11 by decide) (by decide)) ?_
    rw [show (AT h i 0).1 183 7 = nI i from AT_7]
    refine t_go (op := o_iald 46) (fe_X12_grate 45) (g_ialdN hS (show lay 185 = (20, 1002) by decide) rfl (by omega) (by decide)) ?_
    rw [show (AT h i 0).1 185 i = nI (TK i).1 from (congrFun (AT_r (by decide)) i).trans (hR.2.1 i hi).1]
    refine t_ite (op := o_if 49 77 (fun x => x = 0) (fun _ => inferInstance)) (fe_X12_grate 46) g_if (fun c2 => ?_) (fun c2 => ?_)
    · exact hq
    · exact absurd (by rw [h0]; rfl) c2
  · exact absurd rfl c1
set_option maxRecDepth 8000 in
theorem r_g30N {d : Nat} {h : AHP} {TK : Nat → Tk} {n i : Nat} (hR : RQ h TK n) (hi : i ≤ n) {x1 : Option Value} (h0 : ¬ (TK i).1 = 0) {Q : Option Value → AHP → Prop} (hq : TT (d + 37) 182 49 [some (.ref 183), x1] [] (AT h i 0) Q) : TT (d + 37) 182 30 [some (.ref 183), x1] [] (AT h i 0) Q := by
  have hS := hR.1
  have hB := hR.2.2.2.1
  have hn := hR.2.2.1
  refine t_go (op := o_aload 31 0) (fe_X12_grate 30) (fun _ _ => rfl) ?_
  refine t_go (op := o_getI 34 11 8) (fe_X12_grate 31) (g_getI hS (show (lay 183).1 = 11 by decide) (by decide)) ?_
  rw [show (AT h i 0).1 183 8 = nI 0 from AT_8]
  refine t_ite (op := o_if 77 37 (fun x => x = 0) (fun _ => inferInstance)) (fe_X12_grate 34) g_if (fun c1 => ?_) (fun c1 => ?_)
  · refine t_go (op := o_aload 38 0) (fe_X12_grate 37) (fun _ _ => rfl) ?_
    refine t_go (op := o_getR 41 11 4) (fe_X12_grate 38) (g_getR hS (show (lay 183).1 = 11 by decide) (by decide) (fr_11_4 hS) (by decide)) ?_
    refine t_go (op := o_aload 42 0) (fe_X12_grate 41) (fun _ _ => rfl) ?_
    refine t_go (op := o_getI 45 11 7) (fe_X12_grate 42) (g_getI hS (show (lay 183).1 = 11 by decide) (by decide)) ?_
    rw [show (AT h i 0).1 183 7 = nI i from AT_7]
    refine t_go (op := o_iald 46) (fe_X12_grate 45) (g_ialdN hS (show lay 185 = (20, 1002) by decide) rfl (by omega) (by decide)) ?_
    rw [show (AT h i 0).1 185 i = nI (TK i).1 from (congrFun (AT_r (by decide)) i).trans (hR.2.1 i hi).1]
    refine t_ite (op := o_if 49 77 (fun x => x = 0) (fun _ => inferInstance)) (fe_X12_grate 46) g_if (fun c2 => ?_) (fun c2 => ?_)
    · exact absurd ((nI_eq (b := 0) (by have := (hB i).1; omega) (by decide)).mp c2) h0
    · exact hq
  · exact absurd rfl c1
set_option maxRecDepth 8000 in
theorem r_g30F {d : Nat} {h : AHP} {TK : Nat → Tk} {n i f : Nat} (hR : RQ h TK n) (hi : i ≤ n) (hf : f < 100000) (h0 : ¬ f = 0) {x1 : Option Value} {Q : Option Value → AHP → Prop} (hq : TT (d + 37) 182 77 [some (.ref 183), x1] [] (AT h i f) Q) : TT (d + 37) 182 30 [some (.ref 183), x1] [] (AT h i f) Q := by
  have hS := hR.1
  have hB := hR.2.2.2.1
  have hn := hR.2.2.1
  refine t_go (op := o_aload 31 0) (fe_X12_grate 30) (fun _ _ => rfl) ?_
  refine t_go (op := o_getI 34 11 8) (fe_X12_grate 31) (g_getI hS (show (lay 183).1 = 11 by decide) (by decide)) ?_
  rw [show (AT h i f).1 183 8 = nI f from AT_8]
  refine t_ite (op := o_if 77 37 (fun x => x = 0) (fun _ => inferInstance)) (fe_X12_grate 34) g_if (fun c1 => ?_) (fun c1 => ?_)
  · exact absurd ((f_0 hf).mp c1) h0
  · exact hq
set_option maxRecDepth 8000 in
theorem r_g49Y {d : Nat} {h : AHP} {TK : Nat → Tk} {n i : Nat} (hR : RQ h TK n) (hi : i ≤ n) {x1 : Option Value} (hw : isWd TK 0 i 0) {Q : Option Value → AHP → Prop} (hq : TT (d + 37) 182 57 [some (.ref 183), x1] [] (AT h i 0) Q) : TT (d + 37) 182 49 [some (.ref 183), x1] [] (AT h i 0) Q := by
  have hS := hR.1
  have hB := hR.2.2.2.1
  have hn := hR.2.2.1
  refine t_go (op := o_aload 50 0) (fe_X12_grate 49) (fun _ _ => rfl) ?_
  refine t_go (op := o_ci 51 0) (fe_X12_grate 50) (fun _ _ => rfl) ?_
  refine t_call (op := o_callV 54 168 2 11) (fe_X12_grate 51) (g_callV hS (show (lay 183).1 = 11 by decide) (by decide) rfl rfl rfl (Nat.le_of_ble_eq_true rfl)) ?_
  refine M_eq (r_isWord (c := 0) (f := 0) hR hi (by decide) (by decide)) ?_
  refine t_ite (op := o_if 57 64 (fun x => x = 0) (fun _ => inferInstance)) (fe_X12_grate 54) g_if (fun c1 => ?_) (fun c1 => ?_)
  · exact absurd hw (b2i_z c1)
  · replace c1 := b2i_nn c1
    exact hq
set_option maxRecDepth 8000 in
theorem r_g49N {d : Nat} {h : AHP} {TK : Nat → Tk} {n i : Nat} (hR : RQ h TK n) (hi : i ≤ n) {x1 : Option Value} (hw : ¬ isWd TK 0 i 0) {Q : Option Value → AHP → Prop} (hq : TT (d + 37) 182 64 [some (.ref 183), x1] [] (AT h i 0) Q) : TT (d + 37) 182 49 [some (.ref 183), x1] [] (AT h i 0) Q := by
  have hS := hR.1
  have hB := hR.2.2.2.1
  have hn := hR.2.2.1
  refine t_go (op := o_aload 50 0) (fe_X12_grate 49) (fun _ _ => rfl) ?_
  refine t_go (op := o_ci 51 0) (fe_X12_grate 50) (fun _ _ => rfl) ?_
  refine t_call (op := o_callV 54 168 2 11) (fe_X12_grate 51) (g_callV hS (show (lay 183).1 = 11 by decide) (by decide) rfl rfl rfl (Nat.le_of_ble_eq_true rfl)) ?_
  refine M_eq (r_isWord (c := 0) (f := 0) hR hi (by decide) (by decide)) ?_
  refine t_ite (op := o_if 57 64 (fun x => x = 0) (fun _ => inferInstance)) (fe_X12_grate 54) g_if (fun c1 => ?_) (fun c1 => ?_)
  · replace c1 := b2i_z c1
    exact hq
  · exact absurd (b2i_nn c1) hw
set_option maxRecDepth 8000 in
theorem r_g57 {d : Nat} {h : AHP} {x1 : Option Value} {P : AHP → Prop} (hS : Std h) (hM : MM (d + 36) 184 [.ref 183] h (fun v h2 => v = none ∧ P h2)) {Q : Option Value → AHP → Prop} (hq : ∀ h2, P h2 → TT (d + 37) 182 68 [some (.ref 183), x1] [] h2 Q) : TT (d + 37) 182 57 [some (.ref 183), x1] [] h Q := by
  refine t_go (op := o_aload 58 0) (fe_X12_grate 57) (fun _ _ => rfl) ?_
  refine t_call (op := o_callV 61 184 1 11) (fe_X12_grate 58) (g_callV hS (show (lay 183).1 = 11 by decide) (by decide) rfl rfl rfl (Nat.le_of_ble_eq_true rfl)) ?_
  refine M_mono ?_ hM
  rintro _ h2 ⟨rfl, hP⟩
  refine t_go (op := o_goto 68) (fe_X12_grate 61) (fun _ _ => rfl) ?_
  exact hq _ hP
set_option maxRecDepth 8000 in
theorem r_g64 {d : Nat} {h : AHP} {x1 : Option Value} {P : AHP → Prop} (hS : Std h) (hM : MM (d + 36) 185 [.ref 183] h (fun v h2 => v = none ∧ P h2)) {Q : Option Value → AHP → Prop} (hq : ∀ h2, P h2 → TT (d + 37) 182 68 [some (.ref 183), x1] [] h2 Q) : TT (d + 37) 182 64 [some (.ref 183), x1] [] h Q := by
  refine t_go (op := o_aload 65 0) (fe_X12_grate 64) (fun _ _ => rfl) ?_
  refine t_call (op := o_callV 68 185 1 11) (fe_X12_grate 65) (g_callV hS (show (lay 183).1 = 11 by decide) (by decide) rfl rfl rfl (Nat.le_of_ble_eq_true rfl)) ?_
  refine M_mono ?_ hM
  rintro _ h2 ⟨rfl, hP⟩
  exact hq _ hP
set_option maxRecDepth 8000 in
theorem r_g68Y {d : Nat} {h : AHP} {TK : Nat → Tk} {n i : Nat} (hR : RQ h TK n) (hi : i ≤ n) {x1 : Option Value} (hw : isS TK 59 i 0) {Q : Option Value → AHP → Prop} (hq : TT (d + 37) 182 30 [some (.ref 183), x1] [] (AT h (i + 1) 0) Q) : TT (d + 37) 182 68 [some (.ref 183), x1] [] (AT h i 0) Q := by
  have hS := hR.1
  have hB := hR.2.2.2.1
  have hn := hR.2.2.1
  refine t_go (op := o_aload 69 0) (fe_X12_grate 68) (fun _ _ => rfl) ?_
  refine t_go (op := o_ci 71 59) (fe_X12_grate 69) (fun _ _ => rfl) ?_
  refine t_call (op := o_callV 74 169 2 11) (fe_X12_grate 71) (g_callV hS (show (lay 183).1 = 11 by decide) (by decide) rfl rfl rfl (Nat.le_of_ble_eq_true rfl)) ?_
  refine M_eq (r_takeSignY (c := 59) hR hi (by decide) hw) ?_
  refine t_go (op := o_goto 30) (fe_X12_grate 74) (fun _ _ => rfl) ?_
  exact hq
set_option maxRecDepth 8000 in
theorem r_g68N {d : Nat} {h : AHP} {TK : Nat → Tk} {n i : Nat} (hR : RQ h TK n) (hi : i ≤ n) {x1 : Option Value} (hw : ¬ isS TK 59 i 0) {Q : Option Value → AHP → Prop} (hq : TT (d + 37) 182 30 [some (.ref 183), x1] [] (AT h i (wrF TK 1 i 0)) Q) : TT (d + 37) 182 68 [some (.ref 183), x1] [] (AT h i 0) Q := by
  have hS := hR.1
  have hB := hR.2.2.2.1
  have hn := hR.2.2.1
  refine t_go (op := o_aload 69 0) (fe_X12_grate 68) (fun _ _ => rfl) ?_
  refine t_go (op := o_ci 71 59) (fe_X12_grate 69) (fun _ _ => rfl) ?_
  refine t_call (op := o_callV 74 169 2 11) (fe_X12_grate 71) (g_callV hS (show (lay 183).1 = 11 by decide) (by decide) rfl rfl rfl (Nat.le_of_ble_eq_true rfl)) ?_
  refine M_eq (r_takeSignN (c := 59) hR hi (by decide) hw) ?_
  refine t_go (op := o_goto 30) (fe_X12_grate 74) (fun _ _ => rfl) ?_
  exact hq
set_option maxRecDepth 8000 in
theorem r_g68F {d : Nat} {h : AHP} {TK : Nat → Tk} {n i f : Nat} (hR : RQ h TK n) (hi : i ≤ n) (hf : f < 100000) (h0 : ¬ f = 0) {x1 : Option Value} {Q : Option Value → AHP → Prop} (hq : TT (d + 37) 182 30 [some (.ref 183), x1] [] (AT h i f) Q) : TT (d + 37) 182 68 [some (.ref 183), x1] [] (AT h i f) Q := by
  have hS := hR.1
  have hB := hR.2.2.2.1
  have hn := hR.2.2.1
  refine t_go (op := o_aload 69 0) (fe_X12_grate 68) (fun _ _ => rfl) ?_
  refine t_go (op := o_ci 71 59) (fe_X12_grate 69) (fun _ _ => rfl) ?_
  refine t_call (op := o_callV 74 169 2 11) (fe_X12_grate 71) (g_callV hS (show (lay 183).1 = 11 by decide) (by decide) rfl rfl rfl (Nat.le_of_ble_eq_true rfl)) ?_
  refine M_eq (r_takeSignF (c := 59) hR hi hf h0 (by decide)) ?_
  refine t_go (op := o_goto 30) (fe_X12_grate 74) (fun _ _ => rfl) ?_
  exact hq
section RGL
variable {d : Nat} {h0 h : AHP} {TK : Nat → Tk} {n : Nat} {x1 : Option Value} {Q : Option Value → AHP → Prop}
theorem r_sg {p : Nat} {G : GS} (hR0 : RQ h0 TK n) (hs : RGs h0 h p G) (hp : p ≤ n) (hq0 : sgF TK p = 0 → ∀ h2, RGs h0 h2 (p + 1) G → TT (d + 37) 182 30 [some (.ref 183), x1] [] h2 Q) (hq1 : ¬ sgF TK p = 0 → ∀ h2, RFs h0 h2 n (sgF TK p) → TT (d + 37) 182 30 [some (.ref 183), x1] [] h2 Q) : TT (d + 37) 182 68 [some (.ref 183), x1] [] h Q := by
  have hR := hs.1.rq hR0
  rw [← hs.id]
  unfold sgF at hq0 hq1
  by_cases hw : isS TK 59 p 0
  · rw [cI_t hw] at hq0
    exact r_g68Y hR hp hw (hq0 rfl _ (RGs_at hs))
  · rw [cI_f hw] at hq1
    exact r_g68N hR hp hw (hq1 (wrF_p (by decide)) _ (RFs_at hs.1 hp (wr0_b hR.2.2.2.1 (by decide))))
theorem r_sf {F : Nat} (hR0 : RQ h0 TK n) (hs : RFs h0 h n F) (hF : ¬ F = 0) (hq : ∀ h2, RFs h0 h2 n F → TT (d + 37) 182 30 [some (.ref 183), x1] [] h2 Q) : TT (d + 37) 182 68 [some (.ref 183), x1] [] h Q := by
  obtain ⟨g0, hF5, i, hi, h7, h8⟩ := hs
  have hR := g0.rq hR0
  rw [← AT_id h7 h8]
  exact r_g68F hR hi hF5 hF (hq _ (RFs_at g0 hi hF5))
theorem r_line {i : Nat} {G : GS} (hR0 : RQ h0 TK n) (hE : (TK n).1 = 0) (hs : RGs h0 h i G) (hG : gOK G) (hi : i ≤ n) (hn0 : ¬ (TK i).1 = 0) (hq0 : (gL TK n i G).1 = 0 → ∀ h2, RGs h0 h2 (gL TK n i G).2.1 (gL TK n i G).2.2 → TT (d + 37) 182 30 [some (.ref 183), x1] [] h2 Q) (hq1 : ¬ (gL TK n i G).1 = 0 → ∀ h2, RFs h0 h2 n (gL TK n i G).1 → TT (d + 37) 182 30 [some (.ref 183), x1] [] h2 Q) : TT (d + 37) 182 49 [some (.ref 183), x1] [] h Q := by
  have hR := hs.1.rq hR0
  have hB := hR.2.2.2.1
  have hi1 : i + 1 ≤ n := lt_end hE hi hn0
  obtain ⟨o1, o2, o3, o4, o5, o6⟩ := hG
  have hgF := hs.1
  have hob := onc_b (G := G)
  rw [← hs.id]
  unfold gL at hq0 hq1
  by_cases c1 : isWd TK 0 i 0
  · rw [cI_t c1] at hq0 hq1
    refine r_g49Y hR hi c1 (r_g57 (h := AT h i 0) hR.1 (r_readEmber (d := d + 31) hR hE hi hn0 hs.2.2.2.2.1 o1) (fun h2 hP => ?_))
    have eq : eF1 TK i G.1 = eF TK i G.1.length (∃ k, k < G.1.length ∧ h.2.1 193 k = h.2.1 187 (i + 1)) (∃ k, k < G.1.length ∧ h.1 189 (55 + 4 * k) = nI (TK (i + 4)).2.2.1) := by
      unfold eF1
      refine eF_congr (fun hN => ?_) (fun hN => ?_)
      · have hw := (hR.2.1 (i + 1) hi1).2.2.1 hN.1
        have hok := ((hB (i + 1)).2.2.2 hN.1).1
        constructor
        · rintro ⟨k, k1, k2⟩
          exact ⟨k, k1, by rw [hw, (hs.2.2.2.2.2.2.1.2 k k1).1, k2]⟩
        · rintro ⟨k, k1, k2⟩
          rw [hw, (hs.2.2.2.2.2.2.1.2 k k1).1] at k2
          exact ⟨k, k1, (n37_eq (o2 k k1).1 hok).mp k2⟩
      · have hb4 := (hB (i + 4)).2.2.1
        constructor
        · rintro ⟨k, k1, k2⟩
          exact ⟨k, k1, by rw [show 55 + 4 * k = 54 + 4 * k + 1 by omega, (hs.2.2.2.2.2.2.1.2 k k1).2.2.1, k2]⟩
        · rintro ⟨k, k1, k2⟩
          rw [show 55 + 4 * k = 54 + 4 * k + 1 by omega, (hs.2.2.2.2.2.2.1.2 k k1).2.2.1] at k2
          exact ⟨k, k1, (nI_eq (by have := (o2 k k1).2.2.1; omega) (by omega)).mp k2⟩
    obtain ⟨p1, p2⟩ := hP (eF1 TK i G.1) eq
    by_cases hF : eF1 TK i G.1 = 0
    · obtain ⟨p3, p4⟩ := p1 hF
      have e0 := eF_0 hF
      have hw := (hR.2.1 (i + 1) hi1).2.2.1 e0.2.1.1
      rw [hw] at p3
      have hs2 := RGs_em (i2 := i + 9) (w := (TK (i + 1)).2.2.2.1) (a := (TK (i + 2)).2.2.1 - 12) (b := (TK (i + 4)).2.2.1) (c := (TK (i + 6)).2.2.1) (e := (TK (i + 8)).2.2.1) hs (by have := e0.1; omega)
      rw [← p3] at hs2
      have eg : (gE TK i G).1 = sgF TK (i + 9) := cI_t hF
      rw [eg] at hq0 hq1
      exact r_sg hR0 hs2 p4 hq0 hq1
    · obtain ⟨p3, i2, p4, p5⟩ := p2 hF
      have eg : (gE TK i G).1 = eF1 TK i G.1 := cI_f hF
      rw [eg] at hq1
      rw [p5]
      exact r_sf hR0 (RFs_at hgF p4 p3) hF (hq1 hF)
  rw [cI_f c1] at hq0 hq1
  refine r_g49N hR hi c1 ?_
  by_cases c2 : isWd TK 4 i 0
  · rw [cI_t c2] at hq0 hq1
    by_cases d1 : ¬ G.2.1 = []
    · rw [cI_t d1] at hq1
      refine r_g64 (h := AT h i 0) hR.1 (r_oT0 (d := d) hR hi hs.2.2.2.2.2.1 c2 ((bit_0 _ hob.1 0 (by decide)).mpr (hob.2.1.mpr d1))) (fun h2 hP => ?_)
      rw [hP]
      exact r_sf hR0 (RFs_at hgF hi (wr0_b hB (by decide))) (wrF_p (by decide)) (hq1 (wrF_p (by decide)))
    rw [cI_f d1] at hq0 hq1
    have d1' := Classical.not_not.mp d1
    have hbit : ¬ onc G / 2 ^ 0 % 2 = 1 := fun q => d1 (hob.2.1.mp q)
    refine r_g64 (h := AT h i 0) hR.1 (r_oD (d := d) (o2 := onc G + 2 ^ 0) hR hi hs.2.2.2.2.2.1 c2 (fun q => hbit ((bit_0 _ hob.1 0 (by decide)).mp q)) (bor_0 _ hob.1 0 (by decide) (by omega)) hi1 hE) (fun h2 hP => ?_)
    obtain ⟨e1, e2, e3⟩ := hP
    by_cases hF : (dS TK 13 (i + 1) 0).1 = 0
    · have hne := (dS_go hE 13 (i + 1) 0 rfl (by decide) hi1).2.2 rfl hF
      have hs2 := RGs_dr (i2 := (dS TK 13 (i + 1) 0).2.1) (o2 := onc G + 2 ^ 0) (ds := (dS TK 13 (i + 1) 0).2.2) hs o1 d1' hne rfl
      rw [hF] at e1
      rw [← e1] at hs2
      have eg : (gD TK i G).1 = sgF TK (dS TK 13 (i + 1) 0).2.1 := cI_t hF
      rw [eg] at hq0 hq1
      exact r_sg hR0 hs2 e2 hq0 hq1
    · have eg : (gD TK i G).1 = (dS TK 13 (i + 1) 0).1 := cI_f hF
      rw [eg] at hq1
      rw [e1]
      refine r_sf hR0 (RFs_at ((hgF.s3 (by decide)).row (fun j hj => ?_)) e2 e3) hF (hq1 hF)
      rw [sI_ne (by decide)]
      exact (if_neg (by omega)).trans (drW_lo 82 j (by omega))
  rw [cI_f c2] at hq0 hq1
  by_cases c3 : isWd TK 5 i 0
  · rw [cI_t c3] at hq0 hq1
    by_cases d1 : ¬ G.2.2.1 = 0
    · rw [cI_t d1] at hq1
      refine r_g64 (h := AT h i 0) hR.1 (r_oT1 (d := d) hR hi hs.2.2.2.2.2.1 c3 ((bit_0 _ hob.1 1 (by decide)).mpr (hob.2.2.1.mpr d1))) (fun h2 hP => ?_)
      rw [hP]
      exact r_sf hR0 (RFs_at hgF hi (wr0_b hB (by decide))) (wrF_p (by decide)) (hq1 (wrF_p (by decide)))
    rw [cI_f d1] at hq0 hq1
    have d1' := Classical.not_not.mp d1
    have hbit : ¬ onc G / 2 ^ 1 % 2 = 1 := fun q => d1 (hob.2.2.1.mp q)
    by_cases hN : nuP TK 1 20 (i + 1) 0
    · refine r_g64 (h := AT h i 0) hR.1 (r_oCY (d := d) (o2 := onc G + 2 ^ 1) hR hi hs.2.2.2.2.2.1 c3 (fun q => hbit ((bit_0 _ hob.1 1 (by decide)).mp q)) (bor_0 _ hob.1 1 (by decide) (by omega)) hi1 hN) (fun h2 hP => ?_)
      have hs2 := RGs_ca (i2 := i + 2) (o2 := onc G + 2 ^ 1) (c := (TK (i + 1)).2.2.1) hs o1 d1' (by have := hN.2.2.1; omega) rfl
      rw [← hP] at hs2
      have eg : (gC TK i G).1 = sgF TK (i + 2) := cI_t hN
      rw [eg] at hq0 hq1
      exact r_sg hR0 hs2 (lt_end hE hi1 (by rw [hN.2.1]; decide)) hq0 hq1
    · refine r_g64 (h := AT h i 0) hR.1 (r_oCN (d := d) (o2 := onc G + 2 ^ 1) hR hi hs.2.2.2.2.2.1 c3 (fun q => hbit ((bit_0 _ hob.1 1 (by decide)).mp q)) (bor_0 _ hob.1 1 (by decide) (by omega)) hi1 hN) (fun h2 hP => ?_)
      have eg : (gC TK i G).1 = wrF TK (nmF TK (i + 1)) (i + 1) 0 := cI_f hN
      rw [eg] at hq1
      rw [hP]
      exact r_sf hR0 (RFs_at ((hgF.s3 (by decide)).s9 (by decide)) hi1 (wr0_b hB nmF_5.2)) (wrF_p nmF_5.1) (hq1 (wrF_p nmF_5.1))
  rw [cI_f c3] at hq0 hq1
  by_cases c4 : isWd TK 6 i 0
  · rw [cI_t c4] at hq0 hq1
    by_cases d1 : ¬ G.2.2.2 = []
    · rw [cI_t d1] at hq1
      refine r_g64 (h := AT h i 0) hR.1 (r_oT2 (d := d) hR hi hs.2.2.2.2.2.1 c4 ((bit_0 _ hob.1 2 (by decide)).mpr (hob.2.2.2.mpr d1))) (fun h2 hP => ?_)
      rw [hP]
      exact r_sf hR0 (RFs_at hgF hi (wr0_b hB (by decide))) (wrF_p (by decide)) (hq1 (wrF_p (by decide)))
    rw [cI_f d1] at hq0 hq1
    have d1' := Classical.not_not.mp d1
    have hbit : ¬ onc G / 2 ^ 2 % 2 = 1 := fun q => d1 (hob.2.2.2.mp q)
    have h13 : h.1 183 13 = nI 0 := by rw [hs.2.2.2.1]; unfold cdl; rw [if_pos d1']
    refine r_g64 (h := AT h i 0) hR.1 (r_oW (d := d) (o2 := onc G + 2 ^ 2) hR hi hs.2.2.2.2.2.1 c4 (fun q => hbit ((bit_0 _ hob.1 2 (by decide)).mp q)) (bor_0 _ hob.1 2 (by decide) (by omega)) hi1 hE h13) (fun h2 hP => ?_)
    obtain ⟨e1, e2⟩ := hP
    by_cases hF : (lawS TK n (i + 1, 0, [])).2.1 = 0
    · have hne : ¬ (lawS TK n (i + 1, 0, [])).2.2 = [] := fun q => by
        have := law_ne (law_wf hB hE hi1 hF).2.2
        rw [q] at this
        exact absurd this (Nat.lt_irrefl _)
      have hs2 := RGs_lw hs d1' hne hF rfl e1
      have eg : (gW TK n i G).1 = sgF TK (lawS TK n (i + 1, 0, [])).1 := cI_t hF
      rw [eg] at hq0 hq1
      exact r_sg hR0 hs2 e2.1 hq0 hq1
    · have eg : (gW TK n i G).1 = (lawS TK n (i + 1, 0, [])).2.1 := cI_f hF
      rw [eg] at hq1
      refine r_sf hR0 ⟨GF.rs (((hgF.s3 (by decide)).s9 (by decide)).at) e1, e2.2.1, (lawS TK n (i + 1, 0, [])).1, e2.1, e1.2.1, e1.2.2.1⟩ hF (hq1 hF)
  rw [cI_f c4] at hq1
  have hno : ¬ whP TK 4 i 0 3 := fun q => by
    have q3 := q.2.2
    rcases (show (TK i).2.2.1 = 4 ∨ (TK i).2.2.1 = 5 ∨ (TK i).2.2.1 = 6 by omega) with w | w | w
    · exact c2 ⟨rfl, q.2.1, w⟩
    · exact c3 ⟨rfl, q.2.1, w⟩
    · exact c4 ⟨rfl, q.2.1, w⟩
  refine r_g64 (h := AT h i 0) hR.1 (r_o1 (d := d) hR hi hno) (fun h2 hP => ?_)
  rw [hP]
  exact r_sf hR0 (RFs_at hgF hi (wr0_b hB (by decide))) (wrF_p (by decide)) (hq1 (wrF_p (by decide)))
end RGL
theorem r_lines {d : Nat} {h0 : AHP} {TK : Nat → Tk} {n : Nat} {Q : Option Value → AHP → Prop} (hR0 : RQ h0 TK n) (hE : (TK n).1 = 0) {x1 : Option Value} : ∀ (k i : Nat) (G : GS) (h : AHP), n - i < k → i ≤ n → gOK G → RGs h0 h i G → ((gRun TK n k i G).1 = 0 → ∀ h2 i2, RGs h0 h2 i2 (gRun TK n k i G).2 → gOK (gRun TK n k i G).2 → TT (d + 37) 182 77 [some (.ref 183), x1] [] h2 Q) → (¬ (gRun TK n k i G).1 = 0 → ∀ h2, RFs h0 h2 n (gRun TK n k i G).1 → TT (d + 37) 182 77 [some (.ref 183), x1] [] h2 Q) → TT (d + 37) 182 30 [some (.ref 183), x1] [] h Q := by
  intro k
  have hB := hR0.2.2.2.1
  induction k with
  | zero => intro i G h h1; omega
  | succ k ih =>
    intro i G h hk hi hG hs hq0 hq1
    have hR := hs.1.rq hR0
    rw [gRun] at hq0 hq1
    rw [← hs.id]
    by_cases c1 : (TK i).1 = 0
    · rw [cI_t c1] at hq0
      refine r_g30E hR hi c1 ?_
      rw [hs.id]
      exact hq0 rfl h i hs hG
    rw [cI_f c1] at hq0 hq1
    refine r_g30N hR hi c1 ?_
    rw [hs.id]
    refine r_line hR0 hE hs hG hi c1 (fun hF h2 hs2 => ?_) (fun hF h2 hs2 => ?_)
    · rw [cI_t hF] at hq0 hq1
      have g1 := gL_go hB hE hR0.2.2.1 hi c1 hG hF
      exact ih _ _ h2 (by omega) g1.2.1 g1.2.2 hs2 hq0 hq1
    · rw [cI_f hF] at hq1
      have hq2 := hq1 hF _ hs2
      obtain ⟨g0, hF5, i2, hi2, h7, h8⟩ := hs2
      rw [← AT_id h7 h8] at hq2 ⊢
      exact r_g30F (g0.rq hR0) hi2 hF5 hF hq2
