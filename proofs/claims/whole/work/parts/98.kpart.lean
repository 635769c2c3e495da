/-! ===== the class reads a law: a part ===== -/
theorem ofF_n : ∀ c, c < 25 → (ofF c = 0 ↔ ¬ (19 ≤ c ∧ c < 23)) := by decide +kernel
theorem ofF_w {TK : Nat → Tk} {i : Nat} (hb : TKb (TK i)) : ofF (kyN (TK i)) = 0 ↔ ¬ whP TK 19 i 0 4 := by
  rw [ofF_n _ (by have := ky_le hb; omega)]
  unfold kyN whP
  by_cases h1 : (TK i).1 = 1
  · rw [if_pos h1]
    exact ⟨fun q w => q ⟨w.2.2.1, w.2.2.2⟩, fun q w => q ⟨rfl, h1, w.1, w.2⟩⟩
  · rw [if_neg h1]
    exact ⟨fun _ w => h1 w.2.1, fun _ w => by omega⟩
theorem c_ofFact2 {d : Nat} {h : AHP} {c K : Nat} (e : K = 200000 + c) (hc : c < 25) : MM d 58 [.ref K] h (fun v h2 => v = some (.int (ofF c)) ∧ h2 = h) := by rw [e]; exact c_ofFact hc
theorem KQ_f {h0 h2 : AHP} {l : Nat} {ch : Nat → Nat} {len : Nat} {s1 s2 : St} (e : s2.2.1 = s1.2.1) (hf : ¬ s1.2.1 = 0) (h1 : Kf h0 h2 l) (h3 : h2.1 4 1 = nI s1.2.1) : KQ h0 l ch len s2 (some (.int 0)) h2 := by
  have h4 : ¬ s2.2.1 = 0 := by rw [e]; exact hf
  exact ⟨by rw [b2i_f h4], fun q => absurd q h4, fun _ => ⟨h1, by rw [e]; exact h3⟩⟩
theorem KQ_t {h0 h2 : AHP} {l : Nat} {ch : Nat → Nat} {len : Nat} {s2 : St} (hf : s2.2.1 = 0) (hs : KS h0 h2 l ch len s2) : KQ h0 l ch len s2 (some (.int 1)) h2 := ⟨by rw [b2i_t hf], fun _ => hs, fun q => absurd hf q⟩
theorem tSS_f {TK : Nat → Tk} {c : Nat} {s : St} (h : ¬ s.2.1 = 0) : (tSS TK c s).2.1 = s.2.1 := by
  unfold tSS
  rw [cI_f (fun q => h q.1)]
  show wrF TK 1 s.1 s.2.1 = _
  unfold wrF
  rw [if_neg h]
theorem k_pA {d : Nat} {h0 h : AHP} {l dep : Nat} {ch : Nat → Nat} {len : Nat} {s : St} (hS0 : Std h0) (hl : (lay l).1 = 4) (hl5 : 5 ≤ l) (hs : KS h0 h l ch len s) {Q : Option Value → AHP → Prop} (hq : ∀ x3 x4 x5 x6 : Int32, x3 = b2i (isWd (tkT ch len) 16 s.1 0) → x4 = b2i (isS (tkT ch len) 40 s.1 0) → x5 = b2i ((tkT ch len s.1).1 = 2) → x6 = ofF (kyN (tkT ch len s.1)) → TT (d + 4) 82 60 [some (.ref 4), some (.ref l), some (.int (nI dep)), some (.int x3), some (.int x4), some (.int x5), some (.int x6), none] [] h Q) : MM (d + 4) 82 [.ref 4, .ref l, .int (nI dep)] h (fun v h2 => Q v h2) := by
  refine ⟨Nat.le_of_ble_eq_true rfl, ?_⟩
  have hS := hs.1.std hS0
  have hC := hs.2.1
  have hB := hC.b s.1
  obtain ⟨K6, hK6, eK⟩ : ∃ x, h.2.2.1 2 6 = x ∧ x = 200000 + kyN (tkT ch len s.1) := ⟨_, hC.key, rfl⟩
  have bK := ky_b hB (c := 16) (by decide)
  have wK : K6 = 200016 ↔ isWd (tkT ch len) 16 s.1 0 := by rw [eK]; exact ky_w (c := 16) (by decide)
  rw [← eK] at bK
  refine t_go (op := o_aload 1 0) (fe_X7_part 0) (fun _ _ => rfl) ?_
  refine t_go (op := o_getR 4 6 0) (fe_X7_part 1) (g_getR hS (show (lay 4).1 = 6 by decide) (by decide) (fr_6_0 hS) (by decide)) ?_
  refine t_go (op := o_getR 7 8 6) (fe_X7_part 4) (g_getR hS (by decide) (by decide) hK6 (by omega)) ?_
  refine t_go (op := o_gets 10 200016) (fe_X7_part 7) (fun _ _ => rfl) ?_
  refine t_ite (op := o_acmpNe 13 17) (fe_X7_part 10) (g_acmpNe bK) (fun c1 => ?_) (fun c1 => ?_)
  · refine t_go (op := o_ci 14 1) (fe_X7_part 13) (fun _ _ => rfl) ?_
    refine t_go (op := o_goto 18) (fe_X7_part 14) (fun _ _ => rfl) ?_
    refine t_go (op := o_istore 19 3) (fe_X7_part 18) (fun _ _ => rfl) ?_
    refine t_go (op := o_aload 20 0) (fe_X7_part 19) (fun _ _ => rfl) ?_
    refine t_go (op := o_getR 23 6 0) (fe_X7_part 20) (g_getR hS (show (lay 4).1 = 6 by decide) (by decide) (fr_6_0 hS) (by decide)) ?_
    refine t_go (op := o_ci 25 40) (fe_X7_part 23) (fun _ _ => rfl) ?_
    refine t_call (op := o_callV 28 98 2 8) (fe_X7_part 25) (g_callV hS (by decide) (by decide) rfl rfl rfl (Nat.le_of_ble_eq_true rfl)) ?_
    refine M_eq (c_isSign (c := 40) hS hC (by decide)) ?_
    obtain ⟨X4, e4⟩ : ∃ x, b2i (isS (tkT ch len) 40 s.1 0) = x := ⟨_, rfl⟩
    rw [e4]
    refine t_go (op := o_istore 30 4) (fe_X7_part 28) (fun _ _ => rfl) ?_
    refine t_go (op := o_aload 31 0) (fe_X7_part 30) (fun _ _ => rfl) ?_
    refine t_go (op := o_getR 34 6 0) (fe_X7_part 31) (g_getR hS (show (lay 4).1 = 6 by decide) (by decide) (fr_6_0 hS) (by decide)) ?_
    refine t_go (op := o_getI 37 8 2) (fe_X7_part 34) (g_getI hS (by decide) (by decide)) ?_
    rw [show h.1 2 2 = nI (cSo (tkT ch len s.1).1) from hC.2.2.2.1]
    refine t_go (op := o_ci 38 3) (fe_X7_part 37) (fun _ _ => rfl) ?_
    refine t_ite (op := o_icmp 45 41 (fun x y => x = y) (fun _ _ => inferInstance)) (fe_X7_part 38) g_icmp (fun c2 => ?_) (fun c2 => ?_)
    · refine t_go (op := o_ci 42 1) (fe_X7_part 41) (fun _ _ => rfl) ?_
      refine t_go (op := o_goto 46) (fe_X7_part 42) (fun _ _ => rfl) ?_
      refine t_go (op := o_istore 48 5) (fe_X7_part 46) (fun _ _ => rfl) ?_
      refine t_go (op := o_aload 49 0) (fe_X7_part 48) (fun _ _ => rfl) ?_
      refine t_go (op := o_getR 52 6 0) (fe_X7_part 49) (g_getR hS (show (lay 4).1 = 6 by decide) (by decide) (fr_6_0 hS) (by decide)) ?_
      refine t_go (op := o_getR 55 8 6) (fe_X7_part 52) (g_getR hS (by decide) (by decide) hK6 (by omega)) ?_
      refine t_call (op := o_callS 58 58 1) (fe_X7_part 55) (g_callS rfl rfl rfl (Nat.le_of_ble_eq_true rfl)) ?_
      refine M_eq (c_ofFact2 eK (by have := ky_le hB; omega)) ?_
      obtain ⟨F6, e6⟩ : ∃ x, ofF (kyN (tkT ch len s.1)) = x := ⟨_, rfl⟩
      rw [e6]
      refine t_go (op := o_istore 60 6) (fe_X7_part 58) (fun _ _ => rfl) ?_
      exact hq _ _ _ _ (b2i_t (wK.mp c1)).symm e4.symm (b2i_t ((cSo_3 _ hB.1).mp c2)).symm e6.symm
    · refine t_go (op := o_ci 46 0) (fe_X7_part 45) (fun _ _ => rfl) ?_
      refine t_go (op := o_istore 48 5) (fe_X7_part 46) (fun _ _ => rfl) ?_
      refine t_go (op := o_aload 49 0) (fe_X7_part 48) (fun _ _ => rfl) ?_
      refine t_go (op := o_getR 52 6 0) (fe_X7_part 49) (g_getR hS (show (lay 4).1 = 6 by decide) (by decide) (fr_6_0 hS) (by decide)) ?_
      refine t_go (op := o_getR 55 8 6) (fe_X7_part 52) (g_getR hS (by decide) (by decide) hK6 (by omega)) ?_
      refine t_call (op := o_callS 58 58 1) (fe_X7_part 55) (g_callS rfl rfl rfl (Nat.le_of_ble_eq_true rfl)) ?_
      refine M_eq (c_ofFact2 eK (by have := ky_le hB; omega)) ?_
      obtain ⟨F6, e6⟩ : ∃ x, ofF (kyN (tkT ch len s.1)) = x := ⟨_, rfl⟩
      rw [e6]
      refine t_go (op := o_istore 60 6) (fe_X7_part 58) (fun _ _ => rfl) ?_
      exact hq _ _ _ _ (b2i_t (wK.mp c1)).symm e4.symm (b2i_f (fun q => c2 ((cSo_3 _ hB.1).mpr q))).symm e6.symm
  · refine t_go (op := o_ci 18 0) (fe_X7_part 17) (fun _ _ => rfl) ?_
    refine t_go (op := o_istore 19 3) (fe_X7_part 18) (fun _ _ => rfl) ?_
    refine t_go (op := o_aload 20 0) (fe_X7_part 19) (fun _ _ => rfl) ?_
    refine t_go (op := o_getR 23 6 0) (fe_X7_part 20) (g_getR hS (show (lay 4).1 = 6 by decide) (by decide) (fr_6_0 hS) (by decide)) ?_
    refine t_go (op := o_ci 25 40) (fe_X7_part 23) (fun _ _ => rfl) ?_
    refine t_call (op := o_callV 28 98 2 8) (fe_X7_part 25) (g_callV hS (by decide) (by decide) rfl rfl rfl (Nat.le_of_ble_eq_true rfl)) ?_
    refine M_eq (c_isSign (c := 40) hS hC (by decide)) ?_
    obtain ⟨X4, e4⟩ : ∃ x, b2i (isS (tkT ch len) 40 s.1 0) = x := ⟨_, rfl⟩
    rw [e4]
    refine t_go (op := o_istore 30 4) (fe_X7_part 28) (fun _ _ => rfl) ?_
    refine t_go (op := o_aload 31 0) (fe_X7_part 30) (fun _ _ => rfl) ?_
    refine t_go (op := o_getR 34 6 0) (fe_X7_part 31) (g_getR hS (show (lay 4).1 = 6 by decide) (by decide) (fr_6_0 hS) (by decide)) ?_
    refine t_go (op := o_getI 37 8 2) (fe_X7_part 34) (g_getI hS (by decide) (by decide)) ?_
    rw [show h.1 2 2 = nI (cSo (tkT ch len s.1).1) from hC.2.2.2.1]
    refine t_go (op := o_ci 38 3) (fe_X7_part 37) (fun _ _ => rfl) ?_
    refine t_ite (op := o_icmp 45 41 (fun x y => x = y) (fun _ _ => inferInstance)) (fe_X7_part 38) g_icmp (fun c3 => ?_) (fun c3 => ?_)
    · refine t_go (op := o_ci 42 1) (fe_X7_part 41) (fun _ _ => rfl) ?_
      refine t_go (op := o_goto 46) (fe_X7_part 42) (fun _ _ => rfl) ?_
      refine t_go (op := o_istore 48 5) (fe_X7_part 46) (fun _ _ => rfl) ?_
      refine t_go (op := o_aload 49 0) (fe_X7_part 48) (fun _ _ => rfl) ?_
      refine t_go (op := o_getR 52 6 0) (fe_X7_part 49) (g_getR hS (show (lay 4).1 = 6 by decide) (by decide) (fr_6_0 hS) (by decide)) ?_
      refine t_go (op := o_getR 55 8 6) (fe_X7_part 52) (g_getR hS (by decide) (by decide) hK6 (by omega)) ?_
      refine t_call (op := o_callS 58 58 1) (fe_X7_part 55) (g_callS rfl rfl rfl (Nat.le_of_ble_eq_true rfl)) ?_
      refine M_eq (c_ofFact2 eK (by have := ky_le hB; omega)) ?_
      obtain ⟨F6, e6⟩ : ∃ x, ofF (kyN (tkT ch len s.1)) = x := ⟨_, rfl⟩
      rw [e6]
      refine t_go (op := o_istore 60 6) (fe_X7_part 58) (fun _ _ => rfl) ?_
      exact hq _ _ _ _ (b2i_f (fun q => c1 (wK.mpr q))).symm e4.symm (b2i_t ((cSo_3 _ hB.1).mp c3)).symm e6.symm
    · refine t_go (op := o_ci 46 0) (fe_X7_part 45) (fun _ _ => rfl) ?_
      refine t_go (op := o_istore 48 5) (fe_X7_part 46) (fun _ _ => rfl) ?_
      refine t_go (op := o_aload 49 0) (fe_X7_part 48) (fun _ _ => rfl) ?_
      refine t_go (op := o_getR 52 6 0) (fe_X7_part 49) (g_getR hS (show (lay 4).1 = 6 by decide) (by decide) (fr_6_0 hS) (by decide)) ?_
      refine t_go (op := o_getR 55 8 6) (fe_X7_part 52) (g_getR hS (by decide) (by decide) hK6 (by omega)) ?_
      refine t_call (op := o_callS 58 58 1) (fe_X7_part 55) (g_callS rfl rfl rfl (Nat.le_of_ble_eq_true rfl)) ?_
      refine M_eq (c_ofFact2 eK (by have := ky_le hB; omega)) ?_
      obtain ⟨F6, e6⟩ : ∃ x, ofF (kyN (tkT ch len s.1)) = x := ⟨_, rfl⟩
      rw [e6]
      refine t_go (op := o_istore 60 6) (fe_X7_part 58) (fun _ _ => rfl) ?_
      exact hq _ _ _ _ (b2i_f (fun q => c1 (wK.mpr q))).symm e4.symm (b2i_f (fun q => c3 ((cSo_3 _ hB.1).mpr q))).symm e6.symm
theorem k_pB1 {d : Nat} {h0 h : AHP} {l dep : Nat} {ch : Nat → Nat} {len : Nat} {s : St} (hS0 : Std h0) (hl : (lay l).1 = 4) (hl5 : 5 ≤ l) (hs : KS h0 h l ch len s) {x3 x4 x5 x6 : Int32} (z3 : x3 = 0) (z4 : x4 = 0) (z5 : x5 = 0) (z6 : x6 = 0) {Q : Option Value → AHP → Prop} (hq : Q (some (.int 0)) (sI h 4 1 (nI (wrF (tkT ch len) 1 s.1 0)))) : TT (d + 4) 82 60 [some (.ref 4), some (.ref l), some (.int (nI dep)), some (.int x3), some (.int x4), some (.int x5), some (.int x6), none] [] h Q := by
  have hS := hs.1.std hS0
  have hC := hs.2.1
  have hB := hC.b s.1
  refine t_go (op := o_iload 61 3) (fe_X7_part 60) (fun _ _ => rfl) ?_
  refine t_ite (op := o_if 85 64 (fun x => x = 0) (fun _ => inferInstance)) (fe_X7_part 61) g_if (fun c1 => ?_) (fun c1 => ?_)
  · refine t_go (op := o_iload 66 4) (fe_X7_part 64) (fun _ _ => rfl) ?_
    refine t_ite (op := o_if 85 69 (fun x => x = 0) (fun _ => inferInstance)) (fe_X7_part 66) g_if (fun c2 => ?_) (fun c2 => ?_)
    · refine t_go (op := o_iload 71 5) (fe_X7_part 69) (fun _ _ => rfl) ?_
      refine t_ite (op := o_if 85 74 (fun x => x = 0) (fun _ => inferInstance)) (fe_X7_part 71) g_if (fun c3 => ?_) (fun c3 => ?_)
      · refine t_go (op := o_iload 76 6) (fe_X7_part 74) (fun _ _ => rfl) ?_
        refine t_ite (op := o_if 85 79 (fun x => x = 0) (fun _ => inferInstance)) (fe_X7_part 76) g_if (fun c4 => ?_) (fun c4 => ?_)
        · refine t_go (op := o_aload 80 0) (fe_X7_part 79) (fun _ _ => rfl) ?_
          refine t_go (op := o_ci 81 1) (fe_X7_part 80) (fun _ _ => rfl) ?_
          refine t_call (op := o_callV 84 71 2 6) (fe_X7_part 81) (g_callV hS (show (lay 4).1 = 6 by decide) (by decide) rfl rfl rfl (Nat.le_of_ble_eq_true rfl)) ?_
          refine M_eq (c_wrong (c := 1) hS hC) ?_
          refine t_ret (op := o_zret) (fe_X7_part 84) (g_zret (Or.inl rfl)) ?_
          exact hq
        · exact absurd z6 c4
      · exact absurd z5 c3
    · exact absurd z4 c2
  · exact absurd z3 c1
theorem k_pB2 {d : Nat} {h0 h : AHP} {l dep : Nat} {ch : Nat → Nat} {len : Nat} {s : St} (hS0 : Std h0) (hl : (lay l).1 = 4) (hl5 : 5 ≤ l) (hs : KS h0 h l ch len s) {x3 x4 x5 x6 : Int32} (hg : ¬ x3 = 0 ∨ ¬ x4 = 0 ∨ ¬ x5 = 0 ∨ ¬ x6 = 0) {Q : Option Value → AHP → Prop} (hq : TT (d + 4) 82 85 [some (.ref 4), some (.ref l), some (.int (nI dep)), some (.int x3), some (.int x4), some (.int x5), some (.int x6), none] [] h Q) : TT (d + 4) 82 60 [some (.ref 4), some (.ref l), some (.int (nI dep)), some (.int x3), some (.int x4), some (.int x5), some (.int x6), none] [] h Q := by
  have hS := hs.1.std hS0
  have hC := hs.2.1
  have hB := hC.b s.1
  refine t_go (op := o_iload 61 3) (fe_X7_part 60) (fun _ _ => rfl) ?_
  refine t_ite (op := o_if 85 64 (fun x => x = 0) (fun _ => inferInstance)) (fe_X7_part 61) g_if (fun c1 => ?_) (fun c1 => ?_)
  · refine t_go (op := o_iload 66 4) (fe_X7_part 64) (fun _ _ => rfl) ?_
    refine t_ite (op := o_if 85 69 (fun x => x = 0) (fun _ => inferInstance)) (fe_X7_part 66) g_if (fun c2 => ?_) (fun c2 => ?_)
    · refine t_go (op := o_iload 71 5) (fe_X7_part 69) (fun _ _ => rfl) ?_
      refine t_ite (op := o_if 85 74 (fun x => x = 0) (fun _ => inferInstance)) (fe_X7_part 71) g_if (fun c3 => ?_) (fun c3 => ?_)
      · refine t_go (op := o_iload 76 6) (fe_X7_part 74) (fun _ _ => rfl) ?_
        refine t_ite (op := o_if 85 79 (fun x => x = 0) (fun _ => inferInstance)) (fe_X7_part 76) g_if (fun c4 => ?_) (fun c4 => ?_)
        · exact (hg.elim (fun q => q c1) (fun q => q.elim (fun q => q c2) (fun q => q.elim (fun q => q c3) (fun q => q c4)))).elim
        · exact hq
      · exact hq
    · exact hq
  · exact hq
theorem k_pC1 {d : Nat} {h0 h : AHP} {l dep : Nat} {ch : Nat → Nat} {len : Nat} {s : St} (hS0 : Std h0) (hl : (lay l).1 = 4) (hl5 : 5 ≤ l) (hs : KS h0 h l ch len s) {x3 x4 x5 x6 : Int32} (hd : dep = 5) {Q : Option Value → AHP → Prop} (hq : Q (some (.int 0)) (sI h 4 1 (nI (wrF (tkT ch len) 5 s.1 0)))) : TT (d + 4) 82 85 [some (.ref 4), some (.ref l), some (.int (nI dep)), some (.int x3), some (.int x4), some (.int x5), some (.int x6), none] [] h Q := by
  have hS := hs.1.std hS0
  have hC := hs.2.1
  have hB := hC.b s.1
  refine t_go (op := o_iload 86 2) (fe_X7_part 85) (fun _ _ => rfl) ?_
  refine t_go (op := o_ci 87 5) (fe_X7_part 86) (fun _ _ => rfl) ?_
  refine t_ite (op := o_icmp 90 96 (fun x y => x < y) (fun _ _ => inferInstance)) (fe_X7_part 87) g_icmp (fun c1 => ?_) (fun c1 => ?_)
  · exact absurd (show nI dep < 5 from c1) (by rw [hd]; decide)
  · refine t_go (op := o_aload 91 0) (fe_X7_part 90) (fun _ _ => rfl) ?_
    refine t_go (op := o_ci 92 5) (fe_X7_part 91) (fun _ _ => rfl) ?_
    refine t_call (op := o_callV 95 71 2 6) (fe_X7_part 92) (g_callV hS (show (lay 4).1 = 6 by decide) (by decide) rfl rfl rfl (Nat.le_of_ble_eq_true rfl)) ?_
    refine M_eq (c_wrong (c := 5) hS hC) ?_
    refine t_ret (op := o_zret) (fe_X7_part 95) (g_zret (Or.inl rfl)) ?_
    exact hq
theorem k_pC2 {d : Nat} {h0 h : AHP} {l dep : Nat} {ch : Nat → Nat} {len : Nat} {s : St} (hS0 : Std h0) (hl : (lay l).1 = 4) (hl5 : 5 ≤ l) (hs : KS h0 h l ch len s) {x3 x4 x5 x6 : Int32} (hd : dep < 5) {Q : Option Value → AHP → Prop} (hq : ∀ (x7 : Int32) (h2 : AHP), (x5 = 0 → x7 = x6) → (¬ x5 = 0 → (tkT ch len s.1).1 = 2 → x7 = nI (tkT ch len s.1).2.2.1) → KS h0 h2 l ch len (nx1 s) → TT (d + 4) 82 122 [some (.ref 4), some (.ref l), some (.int (nI dep)), some (.int x3), some (.int x4), some (.int x5), some (.int x6), some (.int x7)] [] h2 Q) : TT (d + 4) 82 85 [some (.ref 4), some (.ref l), some (.int (nI dep)), some (.int x3), some (.int x4), some (.int x5), some (.int x6), none] [] h Q := by
  have hS := hs.1.std hS0
  have hC := hs.2.1
  have hB := hC.b s.1
  refine t_go (op := o_iload 86 2) (fe_X7_part 85) (fun _ _ => rfl) ?_
  refine t_go (op := o_ci 87 5) (fe_X7_part 86) (fun _ _ => rfl) ?_
  refine t_ite (op := o_icmp 90 96 (fun x y => x < y) (fun _ _ => inferInstance)) (fe_X7_part 87) g_icmp (fun c1 => ?_) (fun c1 => ?_)
  · refine t_go (op := o_iload 98 5) (fe_X7_part 96) (fun _ _ => rfl) ?_
    refine t_ite (op := o_if 101 111 (fun x => x = 0) (fun _ => inferInstance)) (fe_X7_part 98) g_if (fun c2 => ?_) (fun c2 => ?_)
    · refine t_go (op := o_iload 113 6) (fe_X7_part 111) (fun _ _ => rfl) ?_
      refine t_go (op := o_istore 115 7) (fe_X7_part 113) (fun _ _ => rfl) ?_
      refine t_go (op := o_aload 116 0) (fe_X7_part 115) (fun _ _ => rfl) ?_
      refine t_go (op := o_getR 119 6 0) (fe_X7_part 116) (g_getR hS (show (lay 4).1 = 6 by decide) (by decide) (fr_6_0 hS) (by decide)) ?_
      refine t_call (op := o_callV 122 97 1 8) (fe_X7_part 119) (g_callV hS (by decide) (by decide) rfl rfl rfl (Nat.le_of_ble_eq_true rfl)) ?_
      refine M_mono ?_ (c_toNext hS hC)
      rintro _ k2 ⟨rfl, hT, hC2⟩
      exact hq _ _ (fun _ => rfl) (fun q _ => absurd c2 q) (KS_nx hl5 hs hT hC2)
    · refine t_go (op := o_aload 102 0) (fe_X7_part 101) (fun _ _ => rfl) ?_
      refine t_go (op := o_getR 105 6 0) (fe_X7_part 102) (g_getR hS (show (lay 4).1 = 6 by decide) (by decide) (fr_6_0 hS) (by decide)) ?_
      refine t_go (op := o_getI 108 8 4) (fe_X7_part 105) (g_getI hS (by decide) (by decide)) ?_
      refine t_go (op := o_goto 113) (fe_X7_part 108) (fun _ _ => rfl) ?_
      refine t_go (op := o_istore 115 7) (fe_X7_part 113) (fun _ _ => rfl) ?_
      refine t_go (op := o_aload 116 0) (fe_X7_part 115) (fun _ _ => rfl) ?_
      refine t_go (op := o_getR 119 6 0) (fe_X7_part 116) (g_getR hS (show (lay 4).1 = 6 by decide) (by decide) (fr_6_0 hS) (by decide)) ?_
      refine t_call (op := o_callV 122 97 1 8) (fe_X7_part 119) (g_callV hS (by decide) (by decide) rfl rfl rfl (Nat.le_of_ble_eq_true rfl)) ?_
      refine M_mono ?_ (c_toNext hS hC)
      rintro _ k2 ⟨rfl, hT, hC2⟩
      exact hq _ _ (fun q => absurd q c2) (fun _ q => hC.2.2.2.2.2.1 (Or.inl q)) (KS_nx hl5 hs hT hC2)
  · exact absurd (nI_lt (b := 5) hd (by decide)) c1
theorem k_pE3 {d : Nat} {h0 h : AHP} {l dep : Nat} {ch : Nat → Nat} {len : Nat} {s : St} (hS0 : Std h0) (hl : (lay l).1 = 4) (hl5 : 5 ≤ l) (hs : KS h0 h l ch len s) {x3 x4 x5 x6 : Int32} {x7 : Int32} (n3 : ¬ x3 = 0) {s1 : St} (hJ : MM (d + 3) 82 [.ref 4, .ref l, .int (nI (dep + 1))] h (KQ h0 l ch len s1)) (hq1 : s1.2.2.length < 1000) {Q : Option Value → AHP → Prop} (hq : ∀ v h2, KQ h0 l ch len (emS 3 0 s1) v h2 → Q v h2) : TT (d + 4) 82 122 [some (.ref 4), some (.ref l), some (.int (nI dep)), some (.int x3), some (.int x4), some (.int x5), some (.int x6), some (.int x7)] [] h Q := by
  have hS := hs.1.std hS0
  refine t_go (op := o_iload 123 3) (fe_X7_part 122) (fun _ _ => rfl) ?_
  refine t_ite (op := o_if 126 147 (fun x => x = 0) (fun _ => inferInstance)) (fe_X7_part 123) g_if (fun c1 => ?_) (fun c1 => ?_)
  · exact absurd c1 n3
  · refine t_go (op := o_aload 127 0) (fe_X7_part 126) (fun _ _ => rfl) ?_
    refine t_go (op := o_aload 128 1) (fe_X7_part 127) (fun _ _ => rfl) ?_
    refine t_go (op := o_iload 129 2) (fe_X7_part 128) (fun _ _ => rfl) ?_
    refine t_go (op := o_ci 130 1) (fe_X7_part 129) (fun _ _ => rfl) ?_
    refine t_go (op := o_i2 131 (fun x y => x + y)) (fe_X7_part 130) (fun _ _ => rfl) ?_
    rw [show (fun x y : Int32 => x + y) (nI dep) 1 = nI (dep + 1) from nI_1 dep]
    refine t_call (op := o_callV 134 82 3 6) (fe_X7_part 131) (g_callV hS (show (lay 4).1 = 6 by decide) (by decide) rfl rfl rfl (Nat.le_of_ble_eq_true rfl)) ?_
    refine M_mono ?_ hJ
    rintro _ k3 ⟨rfl, hy, hno⟩
    refine t_ite (op := o_if 139 137 (fun x => x = 0) (fun _ => inferInstance)) (fe_X7_part 134) g_if (fun c2 => ?_) (fun c2 => ?_)
    · replace c2 := b2i_z c2
      have hz := hno c2
      refine t_go (op := o_ci 138 0) (fe_X7_part 137) (fun _ _ => rfl) ?_
      refine t_ret (op := o_zret) (fe_X7_part 138) (g_zret (Or.inl rfl)) ?_
      exact hq _ _ (KQ_f (s1 := s1) rfl c2 hz.1 hz.2)
    · replace c2 := b2i_nn c2
      have hs3 := hy c2
      replace hS := hs3.1.std hS0
      refine t_go (op := o_aload 140 1) (fe_X7_part 139) (fun _ _ => rfl) ?_
      refine t_go (op := o_ci 142 (-5)) (fe_X7_part 140) (fun _ _ => rfl) ?_
      refine t_call (op := o_callV 145 59 2 4) (fe_X7_part 142) (g_callV hS hl (by decide) rfl rfl rfl (Nat.le_of_ble_eq_true rfl)) ?_
      refine M_eq (c_add (q := s1.2.2.length) hS hl hs3.2.2.1 hq1) ?_
      refine t_go (op := o_ci 146 1) (fe_X7_part 145) (fun _ _ => rfl) ?_
      refine t_ret (op := o_zret) (fe_X7_part 146) (g_zret (Or.inr rfl)) ?_
      exact hq _ _ (KQ_t (show (emS 3 0 s1).2.1 = 0 from c2) (KS_add (a := 3) (b := 0) hl5 hs3))
theorem k_pE4 {d : Nat} {h0 h : AHP} {l dep : Nat} {ch : Nat → Nat} {len : Nat} {s : St} (hS0 : Std h0) (hl : (lay l).1 = 4) (hl5 : 5 ≤ l) (hs : KS h0 h l ch len s) {x3 x4 x5 x6 : Int32} {x7 : Int32} (z3 : x3 = 0) (n4 : ¬ x4 = 0) {s1 : St} (hJ : MM (d + 3) 79 [.ref 4, .ref l, .int 0, .int (nI (dep + 1))] h (KQ h0 l ch len s1)) {Q : Option Value → AHP → Prop} (hq : ∀ v h2, KQ h0 l ch len (tSS (tkT ch len) 41 s1) v h2 → Q v h2) : TT (d + 4) 82 122 [some (.ref 4), some (.ref l), some (.int (nI dep)), some (.int x3), some (.int x4), some (.int x5), some (.int x6), some (.int x7)] [] h Q := by
  have hS := hs.1.std hS0
  refine t_go (op := o_iload 123 3) (fe_X7_part 122) (fun _ _ => rfl) ?_
  refine t_ite (op := o_if 126 147 (fun x => x = 0) (fun _ => inferInstance)) (fe_X7_part 123) g_if (fun c1 => ?_) (fun c1 => ?_)
  · refine t_go (op := o_iload 149 4) (fe_X7_part 147) (fun _ _ => rfl) ?_
    refine t_ite (op := o_if 152 179 (fun x => x = 0) (fun _ => inferInstance)) (fe_X7_part 149) g_if (fun c2 => ?_) (fun c2 => ?_)
    · exact absurd c2 n4
    · refine t_go (op := o_aload 153 0) (fe_X7_part 152) (fun _ _ => rfl) ?_
      refine t_go (op := o_aload 154 1) (fe_X7_part 153) (fun _ _ => rfl) ?_
      refine t_go (op := o_ci 155 0) (fe_X7_part 154) (fun _ _ => rfl) ?_
      refine t_go (op := o_iload 156 2) (fe_X7_part 155) (fun _ _ => rfl) ?_
      refine t_go (op := o_ci 157 1) (fe_X7_part 156) (fun _ _ => rfl) ?_
      refine t_go (op := o_i2 158 (fun x y => x + y)) (fe_X7_part 157) (fun _ _ => rfl) ?_
      rw [show (fun x y : Int32 => x + y) (nI dep) 1 = nI (dep + 1) from nI_1 dep]
      refine t_call (op := o_callV 161 79 4 6) (fe_X7_part 158) (g_callV hS (show (lay 4).1 = 6 by decide) (by decide) rfl rfl rfl (Nat.le_of_ble_eq_true rfl)) ?_
      refine M_mono ?_ hJ
      rintro _ k3 ⟨rfl, hy, hno⟩
      refine t_ite (op := o_if 164 177 (fun x => x = 0) (fun _ => inferInstance)) (fe_X7_part 161) g_if (fun c3 => ?_) (fun c3 => ?_)
      · replace c3 := b2i_z c3
        have hz := hno c3
        refine t_go (op := o_ci 178 0) (fe_X7_part 177) (fun _ _ => rfl) ?_
        refine t_ret (op := o_zret) (fe_X7_part 178) (g_zret (Or.inl rfl)) ?_
        exact hq _ _ (KQ_f (tSS_f c3) c3 hz.1 hz.2)
      · replace c3 := b2i_nn c3
        have hs3 := hy c3
        replace hS := hs3.1.std hS0
        refine t_go (op := o_aload 165 0) (fe_X7_part 164) (fun _ _ => rfl) ?_
        refine t_go (op := o_ci 167 41) (fe_X7_part 165) (fun _ _ => rfl) ?_
        refine t_call (op := o_callV 170 73 2 6) (fe_X7_part 167) (g_callV hS (show (lay 4).1 = 6 by decide) (by decide) rfl rfl rfl (Nat.le_of_ble_eq_true rfl)) ?_
        refine M_mono ?_ (k_takeSign (c := 41) hS0 hl5 hs3 c3 (by decide))
        rintro _ k4 ⟨rfl, hy4, hno4⟩
        refine t_ite (op := o_if 173 177 (fun x => x = 0) (fun _ => inferInstance)) (fe_X7_part 170) g_if (fun c4 => ?_) (fun c4 => ?_)
        · replace c4 := b2i_z c4
          have hz := hno4 c4
          refine t_go (op := o_ci 178 0) (fe_X7_part 177) (fun _ _ => rfl) ?_
          refine t_ret (op := o_zret) (fe_X7_part 178) (g_zret (Or.inl rfl)) ?_
          exact hq _ _ (KQ_f rfl c4 hz.1 hz.2)
        · replace c4 := b2i_nn c4
          have hs4 := hy4 c4
          refine t_go (op := o_ci 174 1) (fe_X7_part 173) (fun _ _ => rfl) ?_
          refine t_go (op := o_goto 178) (fe_X7_part 174) (fun _ _ => rfl) ?_
          refine t_ret (op := o_zret) (fe_X7_part 178) (g_zret (Or.inr rfl)) ?_
          exact hq _ _ (KQ_t c4 hs4)
  · exact absurd z3 c1
theorem k_pE5 {d : Nat} {h0 h : AHP} {l dep : Nat} {ch : Nat → Nat} {len : Nat} {s : St} (hS0 : Std h0) (hl : (lay l).1 = 4) (hl5 : 5 ≤ l) (hs : KS h0 h l ch len s) {x3 x4 x5 x6 : Int32} {x7 : Int32} {q a b : Nat} (z3 : x3 = 0) (z4 : x4 = 0) (hx : x7 = stp (a, b)) (hq1 : s.2.2.length < 1000) {Q : Option Value → AHP → Prop} (hq : KS h0 (sI (sI h (l + 1) s.2.2.length x7) l 3 (nI (s.2.2.length + 1))) l ch len (emS a b s) → Q (some (.int 1)) (sI (sI h (l + 1) s.2.2.length x7) l 3 (nI (s.2.2.length + 1)))) : TT (d + 4) 82 122 [some (.ref 4), some (.ref l), some (.int (nI dep)), some (.int x3), some (.int x4), some (.int x5), some (.int x6), some (.int x7)] [] h Q := by
  have hS := hs.1.std hS0
  refine t_go (op := o_iload 123 3) (fe_X7_part 122) (fun _ _ => rfl) ?_
  refine t_ite (op := o_if 126 147 (fun x => x = 0) (fun _ => inferInstance)) (fe_X7_part 123) g_if (fun c1 => ?_) (fun c1 => ?_)
  · refine t_go (op := o_iload 149 4) (fe_X7_part 147) (fun _ _ => rfl) ?_
    refine t_ite (op := o_if 152 179 (fun x => x = 0) (fun _ => inferInstance)) (fe_X7_part 149) g_if (fun c2 => ?_) (fun c2 => ?_)
    · refine t_go (op := o_aload 180 1) (fe_X7_part 179) (fun _ _ => rfl) ?_
      refine t_go (op := o_iload 182 7) (fe_X7_part 180) (fun _ _ => rfl) ?_
      refine t_call (op := o_callV 185 59 2 4) (fe_X7_part 182) (g_callV hS hl (by decide) rfl rfl rfl (Nat.le_of_ble_eq_true rfl)) ?_
      refine M_eq (c_add (q := s.2.2.length) hS hl hs.2.2.1 hq1) ?_
      refine t_go (op := o_ci 186 1) (fe_X7_part 185) (fun _ _ => rfl) ?_
      refine t_ret (op := o_zret) (fe_X7_part 186) (g_zret (Or.inr rfl)) ?_
      exact hq (by rw [hx]; exact KS_add hl5 hs)
    · exact absurd z4 c2
  · exact absurd z3 c1
