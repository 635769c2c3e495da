/-! ===== the class reads a grate: lines ===== -/
def KL (h0 : AHP) (g : Nat) (ch : Nat → Nat) (len : Nat) (r : Nat × Nat × GS) (v : Option Value) (h2 : AHP) : Prop := v = some (.int (b2i (r.1 = 0))) ∧ (r.1 = 0 → KGs h0 h2 g ch len r.2.1 r.2.2) ∧ (¬ r.1 = 0 → KGF h0 h2 g r.1)
theorem KL_f {h0 h2 : AHP} {g F : Nat} {ch : Nat → Nat} {len : Nat} {r : Nat × Nat × GS} (e : r.1 = F) (hF : ¬ F = 0) (h : KGF h0 h2 g F) : KL h0 g ch len r (some (.int 0)) h2 := by
  subst e
  exact ⟨by rw [b2i_f hF], fun q => absurd q hF, fun _ => h⟩
theorem KL_t {h0 h2 : AHP} {g : Nat} {ch : Nat → Nat} {len : Nat} {r : Nat × Nat × GS} (e : r.1 = 0) (h : KGs h0 h2 g ch len r.2.1 r.2.2) : KL h0 g ch len r (some (.int 1)) h2 := ⟨by rw [b2i_t e], fun _ => h, fun q => absurd e q⟩
theorem KL_of {h0 h2 : AHP} {g : Nat} {ch : Nat → Nat} {len : Nat} {r : Nat × Nat × GS} {v : Option Value} (h : KL h0 g ch len r v h2) {r2 : Nat × Nat × GS} (e : r = r2) : KL h0 g ch len r2 v h2 := by rw [← e]; exact h
theorem KGs_em {h0 h : AHP} {g : Nat} {ch : Nat → Nat} {len p : Nat} {G : GS} {w : List Nat} {k c x y : Nat} (hg5 : 5 ≤ g) (hs : KGs h0 h g ch len p G) (hl : G.1.length < 7) (hc : c < 12) (hu : ¬ uC G.1 c) : KGs h0 (setF (sI (sI (sJ h (g + 1) G.1.length (lN (n32 w))) (g + 2) G.1.length (nI k)) g 4 (nI (G.1.length + 1))) (g + 3) (layF (fs h (g + 3)) (nI G.1.length) (nI c) (nI x) (nI y))) g ch len p (G.1 ++ [(w, k, c, x, y)], G.2) := by
  obtain ⟨⟨f1, f2, f3, f4, f5⟩, ⟨c1, c2, c3, c4⟩, ⟨e1, e2, e3⟩, kd, kc, kl⟩ := hs
  have rw1 : ∀ a, (a < g + 3 ∨ g + 3 + 5 ≤ a) → a ≠ g → a ≠ g + 2 → (setF (sI (sI (sJ h (g + 1) G.1.length (lN (n32 w))) (g + 2) G.1.length (nI k)) g 4 (nI (G.1.length + 1))) (g + 3) (layF (fs h (g + 3)) (nI G.1.length) (nI c) (nI x) (nI y))).1 a = h.1 a := fun a q1 q2 q3 => by rw [setF_row q1, sI_ne q2, sI_ne q3]; rfl
  have rwg : ∀ j, j ≠ 4 → (setF (sI (sI (sJ h (g + 1) G.1.length (lN (n32 w))) (g + 2) G.1.length (nI k)) g 4 (nI (G.1.length + 1))) (g + 3) (layF (fs h (g + 3)) (nI G.1.length) (nI c) (nI x) (nI y))).1 g j = h.1 g j := fun j q => by rw [setF_row (by omega), sI_nr q, sI_ne (by omega)]; rfl
  have rwj : ∀ a j, (setF (sI (sI (sJ h (g + 1) G.1.length (lN (n32 w))) (g + 2) G.1.length (nI k)) g 4 (nI (G.1.length + 1))) (g + 3) (layF (fs h (g + 3)) (nI G.1.length) (nI c) (nI x) (nI y))).2.1 a j = if a = g + 1 ∧ j = G.1.length then lN (n32 w) else h.2.1 a j := fun a j => by
    show (sJ h (g + 1) G.1.length (lN (n32 w))).2.1 a j = _
    simp only [sJ, up2]
    by_cases q : a = g + 1
    · by_cases q2 : j = G.1.length
      · simp [q, q2]
      · simp [q, q2]
    · simp [q]
  refine ⟨⟨f1, f2, fun a q1 q2 => ?_, fun a q1 q2 q3 => ?_, ?_⟩, ⟨?_, c2, ?_, ?_⟩, ⟨?_, fun e he => ?_, ?_⟩, ⟨?_, fun j hj => ?_⟩, ⟨?_, ?_⟩, ⟨?_, fun j hj => ?_⟩⟩
  · rw [← f3 a q1 q2]; funext j; rw [rwj, if_neg (by omega)]
  · rw [rw1 a (by omega) (by omega) (by omega)]; exact f4 a q1 q2 q3
  · rw [rw1 2 (by omega) (by omega) (by omega)]; exact f5
  · rw [rw1 3 (by omega) (by omega) (by omega)]; exact c1
  · rw [rw1 2 (by omega) (by omega) (by omega)]; exact c3
  · unfold TKp at c4 ⊢
    rw [rw1 2 (by omega) (by omega) (by omega), rwj, if_neg (by omega)]
    exact c4
  · rw [setF_row (by omega), sI_eq]; exact congrArg nI len_sn.symm
  · have he' : e < G.1.length + 1 := by rw [← len_sn]; exact he
    show _ = lN (n32 ((G.1 ++ [(w, k, c, x, y)]).getD e em0).1) ∧ _ = nI ((G.1 ++ [(w, k, c, x, y)]).getD e em0).2.1
    rw [getD_sn he', rwj, setF_row (by omega), sI_ne (by omega)]
    by_cases q : e = G.1.length
    · rw [if_pos q, if_pos ⟨rfl, q⟩, q, sI_eq]
      exact ⟨rfl, rfl⟩
    · rw [if_neg q, if_neg (fun w => q w.2), sI_nr q]
      exact e2 e (by omega)
  · rw [fs_setF]; exact BG_lay hl hc hu e3
  · rw [rwg 7 (by decide)]; exact kd.1
  · rw [rw1 (g + 12) (by omega) (by omega) (by omega)]; exact kd.2 j hj
  · rw [rwg 5 (by decide)]; exact kc.1
  · rw [rwg 6 (by decide)]; exact kc.2
  · rw [rw1 (g + 8) (by omega) (by omega) (by omega)]; exact kl.1
  · rw [rw1 (g + 9) (by omega) (by omega) (by omega)]; exact kl.2 j hj
theorem KGs_dr {h0 h : AHP} {g : Nat} {ch : Nat → Nat} {len p : Nat} {G : GS} {x : Nat} (hg5 : 5 ≤ g) (hs : KGs h0 h g ch len p G) : KGs h0 (sI (sI h (g + 12) G.2.1.length (nI x)) g 7 (nI (G.2.1.length + 1))) g ch len p (G.1, G.2.1 ++ [x], G.2.2) := by
  obtain ⟨⟨f1, f2, f3, f4, f5⟩, ⟨c1, c2, c3, c4⟩, ⟨e1, e2, e3⟩, kd, kc, kl⟩ := hs
  have rw1 : ∀ a, a ≠ g → a ≠ g + 12 → (sI (sI h (g + 12) G.2.1.length (nI x)) g 7 (nI (G.2.1.length + 1))).1 a = h.1 a := fun a q1 q2 => by rw [sI_ne q1, sI_ne q2]
  have rwg : ∀ j, j ≠ 7 → (sI (sI h (g + 12) G.2.1.length (nI x)) g 7 (nI (G.2.1.length + 1))).1 g j = h.1 g j := fun j q => by rw [sI_nr q, sI_ne (by omega)]
  refine ⟨⟨f1, f2, f3, fun a q1 q2 q3 => ?_, ?_⟩, ⟨?_, c2, ?_, ?_⟩, ⟨?_, fun e he => ?_, ?_⟩, ⟨?_, fun j hj => ?_⟩, ⟨?_, ?_⟩, ⟨?_, fun j hj => ?_⟩⟩
  · rw [rw1 a (by omega) (by omega)]; exact f4 a q1 q2 q3
  · rw [rw1 2 (by omega) (by omega)]; exact f5
  · rw [rw1 3 (by omega) (by omega)]; exact c1
  · rw [rw1 2 (by omega) (by omega)]; exact c3
  · unfold TKp at c4 ⊢
    rw [rw1 2 (by omega) (by omega)]
    exact c4
  · rw [rwg 4 (by decide)]; exact e1
  · rw [rw1 (g + 2) (by omega) (by omega)]; exact e2 e he
  · rw [show fs (sI (sI h (g + 12) G.2.1.length (nI x)) g 7 (nI (G.2.1.length + 1))) (g + 3) = fs h (g + 3) from fs_rows fun a q1 q2 => rw1 a (by omega) (by omega)]; exact e3
  · rw [sI_eq]; exact congrArg nI len_sn.symm
  · have hj' : j < G.2.1.length + 1 := by rw [← len_sn]; exact hj
    show _ = nI ((G.2.1 ++ [x]).getD j 0)
    rw [getD_sn hj', sI_ne (by omega)]
    by_cases q : j = G.2.1.length
    · rw [if_pos q, q, sI_eq]
    · rw [if_neg q, sI_nr q]; exact kd.2 j (by omega)
  · rw [rwg 5 (by decide)]; exact kc.1
  · rw [rwg 6 (by decide)]; exact kc.2
  · rw [rw1 (g + 8) (by omega) (by omega)]; exact kl.1
  · rw [rw1 (g + 9) (by omega) (by omega)]; exact kl.2 j hj
theorem KGs_ca {h0 h : AHP} {g : Nat} {ch : Nat → Nat} {len p : Nat} {G : GS} {x : Nat} (hg5 : 5 ≤ g) (hs : KGs h0 h g ch len p G) (hx : ¬ x = 0) : KGs h0 (sI (sI h g 5 (nI x)) g 6 1) g ch len p (G.1, G.2.1, x, G.2.2.2) := by
  obtain ⟨⟨f1, f2, f3, f4, f5⟩, ⟨c1, c2, c3, c4⟩, ⟨e1, e2, e3⟩, kd, kc, kl⟩ := hs
  have rw1 : ∀ a, a ≠ g → (sI (sI h g 5 (nI x)) g 6 1).1 a = h.1 a := fun a q1 => by rw [sI_ne q1, sI_ne q1]
  have rwg : ∀ j, j ≠ 5 → j ≠ 6 → (sI (sI h g 5 (nI x)) g 6 1).1 g j = h.1 g j := fun j q q2 => by rw [sI_nr q2, sI_nr q]
  refine ⟨⟨f1, f2, f3, fun a q1 q2 q3 => ?_, ?_⟩, ⟨?_, c2, ?_, ?_⟩, ⟨?_, fun e he => ?_, ?_⟩, ⟨?_, fun j hj => ?_⟩, ⟨?_, ?_⟩, ⟨?_, fun j hj => ?_⟩⟩
  · rw [rw1 a (by omega)]; exact f4 a q1 q2 q3
  · rw [rw1 2 (by omega)]; exact f5
  · rw [rw1 3 (by omega)]; exact c1
  · rw [rw1 2 (by omega)]; exact c3
  · unfold TKp at c4 ⊢
    rw [rw1 2 (by omega)]
    exact c4
  · rw [rwg 4 (by decide) (by decide)]; exact e1
  · rw [rw1 (g + 2) (by omega)]; exact e2 e he
  · rw [show fs (sI (sI h g 5 (nI x)) g 6 1) (g + 3) = fs h (g + 3) from fs_rows fun a q1 q2 => rw1 a (by omega)]; exact e3
  · rw [rwg 7 (by decide) (by decide)]; exact kd.1
  · rw [rw1 (g + 12) (by omega)]; exact kd.2 j hj
  · rw [sI_nr (by decide), sI_eq]
    show _ = nI (if x = 0 then 5 else x)
    rw [if_neg hx]
  · rw [sI_eq]
    show _ = nI (if x = 0 then 0 else 1)
    rw [if_neg hx]; rfl
  · rw [rw1 (g + 8) (by omega)]; exact kl.1
  · rw [rw1 (g + 9) (by omega)]; exact kl.2 j hj
theorem KGs_lw {h0 h h2 : AHP} {g : Nat} {ch : Nat → Nat} {len p : Nat} {G : GS} {s : St} (hg5 : 5 ≤ g) (hs : KGs h0 h g ch len p G) (hk : KS h h2 (g + 8) ch len s) : KGs h0 h2 g ch len s.1 (G.1, G.2.1, G.2.2.1, s.2.2) := by
  obtain ⟨hf, hc, ⟨e1, e2, e3⟩, kd, kc, kl⟩ := hs
  obtain ⟨k1, k2, k3, k4⟩ := hk
  have rw1 : ∀ a, g ≤ a → a ≠ g + 8 → a ≠ g + 9 → h2.1 a = h.1 a := fun a q1 q2 q3 => k1.2.2.2.1 a (by omega) (by omega) q2 (by omega)
  refine ⟨hf.K k1, k2, ⟨?_, fun e he => ?_, ?_⟩, ⟨?_, fun j hj => ?_⟩, ⟨?_, ?_⟩, ⟨k3, k4⟩⟩
  · rw [rw1 g (by omega) (by omega) (by omega)]; exact e1
  · rw [rw1 (g + 2) (by omega) (by omega) (by omega), k1.2.2.1 (g + 1) (by omega)]; exact e2 e he
  · rw [show fs h2 (g + 3) = fs h (g + 3) from fs_rows fun a q1 q2 => rw1 a (by omega) (by omega) (by omega)]; exact e3
  · rw [rw1 g (by omega) (by omega) (by omega)]; exact kd.1
  · rw [rw1 (g + 12) (by omega) (by omega) (by omega)]; exact kd.2 j hj
  · rw [rw1 g (by omega) (by omega) (by omega)]; exact kc.1
  · rw [rw1 g (by omega) (by omega) (by omega)]; exact kc.2
theorem KGF_lw {h0 h h2 : AHP} {g F : Nat} {ch : Nat → Nat} {len p : Nat} {G : GS} (hg5 : 5 ≤ g) (hs : KGs h0 h g ch len p G) (ho : gOK G) (hk : Kf h h2 (g + 8)) (h4 : h2.1 4 1 = nI F) : KGF h0 h2 g F := by
  refine ⟨hs.1.K hk, h4, ?_⟩
  rw [show fs h2 (g + 3) = fs h (g + 3) from fs_rows fun a q1 q2 => hk.2.2.2.1 a (by omega) (by omega) (by omega) (by omega)]
  exact FV_up (BG_FV ⟨ho.1, ho.2.1, ho.2.2.1⟩ hs.2.2.1.2.2) ho.1
theorem gOK_ca {G : GS} {c : Nat} (h : gOK G) (hc : c ≤ 20) : gOK (G.1, G.2.1, c, G.2.2.2) := ⟨h.1, h.2.1, h.2.2.1, h.2.2.2.1, hc, h.2.2.2.2.2⟩
theorem gOK_dr {G : GS} {ds : List Nat} (h : gOK G) (hc : ds.length ≤ 12) : gOK (G.1, ds, G.2.2) := ⟨h.1, h.2.1, h.2.2.1, hc, h.2.2.2.2⟩
theorem k_emberLine {d : Nat} {h0 h : AHP} {g : Nat} {ch : Nat → Nat} {len i : Nat} {G : GS} (hS0 : Std h0) (hg : (lay g).1 = 3) (hg5 : 5 ≤ g) (hs : KGs h0 h g ch len i G) (hG : gOK G) (h7 : ¬ G.1.length = 7) : MM (d + 5) 76 [.ref 4, .ref g] h (KL h0 g ch len (gE (tkT ch len) i G)) := by
  obtain ⟨TK, eTK⟩ : ∃ T, T = tkT ch len := ⟨_, rfl⟩
  by_cases c2 : ¬ nmP TK (i + 1)
  · have eF_ : eF1 TK i G.1 = wrF TK 1 (i + 1) 0 := by unfold eF1 eF; rw [cI_f h7, cI_t c2]
    subst eTK
    exact k_eA1 hS0 hg hg5 hs hG c2 (fun h2 q => KL_f ((cI_f (by rw [eF_]; exact wrF_p (by decide))).trans eF_) (wrF_p (by decide)) q)
  have c2' := Classical.not_not.mp c2
  by_cases c3 : uN G.1 (TK (i + 1)).2.2.2.1
  · have eF_ : eF1 TK i G.1 = wrF TK 3 (i + 1) 0 := by unfold eF1 eF; rw [cI_f h7, cI_f c2, cI_t c3]
    subst eTK
    exact k_eA3 hS0 hg hg5 hs hG c2' c3 (fun h2 q => KL_f ((cI_f (by rw [eF_]; exact wrF_p (by decide))).trans eF_) (wrF_p (by decide)) q)
  refine k_eA (i := i) hS0 hg hg5 hs hG (by subst eTK; exact c2') (by subst eTK; exact c3) (fun h1 nm hnm hs1 => ?_)
  by_cases c4 : ¬ whP TK 12 (i + 2) 0 4
  · have eF_ : eF1 TK i G.1 = wrF TK 1 (i + 2) 0 := by unfold eF1 eF; rw [cI_f h7, cI_f c2, cI_f c3, cI_t c4]
    subst eTK
    exact k_eB1 (i := i + 1) hS0 hg hg5 hs1 hG c4 (fun h2 q => KL_f ((cI_f (by rw [eF_]; exact wrF_p (by decide))).trans eF_) (wrF_p (by decide)) q)
  have c4' := Classical.not_not.mp c4
  refine k_eB (i := i + 1) hS0 hg hg5 hs1 hG (by subst eTK; exact c4') (fun h2 hs2 => ?_)
  by_cases c5 : ¬ isWd TK 1 (i + 3) 0
  · have eF_ : eF1 TK i G.1 = wrF TK 1 (i + 3) 0 := by unfold eF1 eF; rw [cI_f h7, cI_f c2, cI_f c3, cI_f c4, cI_t c5]
    subst eTK
    exact k_eC1 (i := i + 2) hS0 hg hg5 hs2 hG c5 (fun h2 q => KL_f ((cI_f (by rw [eF_]; exact wrF_p (by decide))).trans eF_) (wrF_p (by decide)) q)
  have c5' := Classical.not_not.mp c5
  refine k_eC (i := i + 2) hS0 hg hg5 hs2 hG (by subst eTK; exact c5') (fun h3 hs3 => ?_)
  by_cases c6 : ¬ nuP TK 0 11 (i + 4) 0
  · have eF_ : eF1 TK i G.1 = wrF TK (nmF TK (i + 4)) (i + 4) 0 := by unfold eF1 eF; rw [cI_f h7, cI_f c2, cI_f c3, cI_f c4, cI_f c5, cI_t c6]
    subst eTK
    exact k_eD2 (i := i + 4) hS0 hg hg5 hs3 hG c6 (fun h2 q => KL_f ((cI_f (by rw [eF_]; exact wrF_p nmF_5.1)).trans eF_) (wrF_p nmF_5.1) q)
  have c6' := Classical.not_not.mp c6
  by_cases c7 : uC G.1 (TK (i + 4)).2.2.1
  · have eF_ : eF1 TK i G.1 = wrF TK 3 (i + 4) 0 := by unfold eF1 eF; rw [cI_f h7, cI_f c2, cI_f c3, cI_f c4, cI_f c5, cI_f c6, cI_t c7]
    subst eTK
    exact k_eD3 (i := i + 4) hS0 hg hg5 hs3 hG c6' c7 (fun h2 q => KL_f ((cI_f (by rw [eF_]; exact wrF_p (by decide))).trans eF_) (wrF_p (by decide)) q)
  refine k_eD (i := i + 4) hS0 hg hg5 hs3 hG (by subst eTK; exact c6') (by subst eTK; exact c7) (fun h4 hs4 => ?_)
  by_cases c8 : ¬ isWd TK 2 (i + 5) 0
  · have eF_ : eF1 TK i G.1 = wrF TK 1 (i + 5) 0 := by unfold eF1 eF; rw [cI_f h7, cI_f c2, cI_f c3, cI_f c4, cI_f c5, cI_f c6, cI_f c7, cI_t c8]
    subst eTK
    exact k_eE1 (i := i + 5) hS0 hg hg5 hs4 hG c8 (fun h2 q => KL_f ((cI_f (by rw [eF_]; exact wrF_p (by decide))).trans eF_) (wrF_p (by decide)) q)
  have c8' := Classical.not_not.mp c8
  by_cases c9 : ¬ nuP TK 0 20 (i + 6) 0
  · have eF_ : eF1 TK i G.1 = wrF TK (nmF TK (i + 6)) (i + 6) 0 := by unfold eF1 eF; rw [cI_f h7, cI_f c2, cI_f c3, cI_f c4, cI_f c5, cI_f c6, cI_f c7, cI_f c8, cI_t c9]
    subst eTK
    exact k_eE2 (i := i + 5) hS0 hg hg5 hs4 hG c8' c9 (fun h2 q => KL_f ((cI_f (by rw [eF_]; exact wrF_p nmF_5.1)).trans eF_) (wrF_p nmF_5.1) q)
  have c9' := Classical.not_not.mp c9
  refine k_eE (i := i + 5) hS0 hg hg5 hs4 hG (by subst eTK; exact c8') (by subst eTK; exact c9') (fun h5 hs5 => ?_)
  by_cases c10 : ¬ isWd TK 3 (i + 7) 0
  · have eF_ : eF1 TK i G.1 = wrF TK 1 (i + 7) 0 := by unfold eF1 eF; rw [cI_f h7, cI_f c2, cI_f c3, cI_f c4, cI_f c5, cI_f c6, cI_f c7, cI_f c8, cI_f c9, cI_t c10]
    subst eTK
    exact k_eF1 (i := i + 7) hS0 hg hg5 hs5 hG c10 (fun h2 q => KL_f ((cI_f (by rw [eF_]; exact wrF_p (by decide))).trans eF_) (wrF_p (by decide)) q)
  have c10' := Classical.not_not.mp c10
  by_cases c11 : ¬ nuP TK 1 20 (i + 8) 0
  · have eF_ : eF1 TK i G.1 = wrF TK (nmF TK (i + 8)) (i + 8) 0 := by unfold eF1 eF; rw [cI_f h7, cI_f c2, cI_f c3, cI_f c4, cI_f c5, cI_f c6, cI_f c7, cI_f c8, cI_f c9, cI_f c10, cI_t c11]
    subst eTK
    exact k_eF2 (i := i + 7) hS0 hg hg5 hs5 hG c10' c11 (fun h2 q => KL_f ((cI_f (by rw [eF_]; exact wrF_p nmF_5.1)).trans eF_) (wrF_p nmF_5.1) q)
  have c11' := Classical.not_not.mp c11
  refine k_eF (i := i + 7) hS0 hg hg5 hs5 hG (by subst eTK; exact c10') (by subst eTK; exact c11') (fun h6 hs6 => ?_)
  have eF_ : eF1 TK i G.1 = 0 := by unfold eF1 eF; rw [cI_f h7, cI_f c2, cI_f c3, cI_f c4, cI_f c5, cI_f c6, cI_f c7, cI_f c8, cI_f c9, cI_f c10, cI_f c11]
  have eg : (gE TK i G).1 = sgF TK (i + 9) := cI_t eF_
  by_cases c12 : isS TK 59 (i + 9) 0
  · have e0 : (gE TK i G).1 = 0 := eg.trans (cI_t c12)
    subst eTK
    refine k_eG (i := i + 9) hS0 hg hg5 hs6 hG c12 (by have := hG.1; omega) (fun k3 hs7 => KL_t e0 ?_)
    rw [hnm]
    exact KGs_em hg5 hs7 (by have := hG.1; omega) (by have := c6'.2.2.2; omega) c7
  · have e0 : (gE TK i G).1 = wrF TK 1 (i + 9) 0 := eg.trans (cI_f c12)
    subst eTK
    exact k_eG1 (i := i + 9) hS0 hg hg5 hs6 hG c12 (fun h2 q => KL_f e0 (wrF_p (by decide)) q)
theorem k_cN {d : Nat} {h0 h : AHP} {g : Nat} {ch : Nat → Nat} {len i : Nat} {G : GS} (hS0 : Std h0) (hg : (lay g).1 = 3) (hg5 : 5 ≤ g) (hs : KGs h0 h g ch len i G) (hG : gOK G) (hN : ¬ nuP (tkT ch len) 1 20 (i + 1) 0) : MM (d + 5) 78 [.ref 4, .ref g] h (fun v h2 => KL h0 g ch len (gC (tkT ch len) i G) v h2) := by
  refine ⟨Nat.le_of_ble_eq_true rfl, ?_⟩
  have hS := hs.1.std hS0
  have hC := hs.2.1
  refine t_go (op := o_aload 1 0) (fe_X7_catchesLine 0) (fun _ _ => rfl) ?_
  refine t_go (op := o_getR 4 6 0) (fe_X7_catchesLine 1) (g_getR hS (show (lay 4).1 = 6 by decide) (by decide) (fr_6_0 hS) (by decide)) ?_
  refine t_call (op := o_callV 7 97 1 8) (fe_X7_catchesLine 4) (g_callV hS (by decide) (by decide) rfl rfl rfl (Nat.le_of_ble_eq_true rfl)) ?_
  refine M_mono ?_ (c_toNext hS hC)
  rintro _ k2 ⟨rfl, hT, hC2⟩
  have hs1 := KGs_T hg5 hs hT hC2
  replace hS := hs1.1.std hS0
  refine t_go (op := o_aload 8 0) (fe_X7_catchesLine 7) (fun _ _ => rfl) ?_
  refine t_go (op := o_ci 9 1) (fe_X7_catchesLine 8) (fun _ _ => rfl) ?_
  refine t_go (op := o_ci 11 20) (fe_X7_catchesLine 9) (fun _ _ => rfl) ?_
  refine t_call (op := o_callV 14 74 3 6) (fe_X7_catchesLine 11) (g_callV hS (show (lay 4).1 = 6 by decide) (by decide) rfl rfl rfl (Nat.le_of_ble_eq_true rfl)) ?_
  refine M_mono ?_ (c_takeNumber (lo := 1) (hi2 := 20) hS hC2 (by decide) (by decide))
  rintro v3 k3 ⟨_, hn3⟩
  obtain ⟨rfl, rfl⟩ := hn3 hN
  refine t_go (op := o_istore 15 2) (fe_X7_catchesLine 14) (fun _ _ => rfl) ?_
  refine t_go (op := o_iload 16 2) (fe_X7_catchesLine 15) (fun _ _ => rfl) ?_
  refine t_go (op := o_ci 17 (-1)) (fe_X7_catchesLine 16) (fun _ _ => rfl) ?_
  refine t_ite (op := o_icmp 22 20 (fun x y => x = y) (fun _ _ => inferInstance)) (fe_X7_catchesLine 17) g_icmp (fun c1 => ?_) (fun c1 => ?_)
  · clear c1
    refine t_go (op := o_ci 21 0) (fe_X7_catchesLine 20) (fun _ _ => rfl) ?_
    refine t_ret (op := o_zret) (fe_X7_catchesLine 21) (g_zret (Or.inl rfl)) ?_
    exact KL_f (cI_f hN) (wrF_p nmF_5.1) (KGF_w hg5 hs1 hG)
  · exact absurd (by decide) c1
theorem k_cY {d : Nat} {h0 h : AHP} {g : Nat} {ch : Nat → Nat} {len i : Nat} {G : GS} (hS0 : Std h0) (hg : (lay g).1 = 3) (hg5 : 5 ≤ g) (hs : KGs h0 h g ch len i G) (hG : gOK G) (hN : nuP (tkT ch len) 1 20 (i + 1) 0) (hw : isS (tkT ch len) 59 (i + 2) 0) : MM (d + 5) 78 [.ref 4, .ref g] h (fun v h2 => KL h0 g ch len (gC (tkT ch len) i G) v h2) := by
  refine ⟨Nat.le_of_ble_eq_true rfl, ?_⟩
  have hS := hs.1.std hS0
  have hC := hs.2.1
  refine t_go (op := o_aload 1 0) (fe_X7_catchesLine 0) (fun _ _ => rfl) ?_
  refine t_go (op := o_getR 4 6 0) (fe_X7_catchesLine 1) (g_getR hS (show (lay 4).1 = 6 by decide) (by decide) (fr_6_0 hS) (by decide)) ?_
  refine t_call (op := o_callV 7 97 1 8) (fe_X7_catchesLine 4) (g_callV hS (by decide) (by decide) rfl rfl rfl (Nat.le_of_ble_eq_true rfl)) ?_
  refine M_mono ?_ (c_toNext hS hC)
  rintro _ k2 ⟨rfl, hT, hC2⟩
  have hs1 := KGs_T hg5 hs hT hC2
  replace hS := hs1.1.std hS0
  refine t_go (op := o_aload 8 0) (fe_X7_catchesLine 7) (fun _ _ => rfl) ?_
  refine t_go (op := o_ci 9 1) (fe_X7_catchesLine 8) (fun _ _ => rfl) ?_
  refine t_go (op := o_ci 11 20) (fe_X7_catchesLine 9) (fun _ _ => rfl) ?_
  refine t_call (op := o_callV 14 74 3 6) (fe_X7_catchesLine 11) (g_callV hS (show (lay 4).1 = 6 by decide) (by decide) rfl rfl rfl (Nat.le_of_ble_eq_true rfl)) ?_
  refine M_mono ?_ (c_takeNumber (lo := 1) (hi2 := 20) hS hC2 (by decide) (by decide))
  rintro v3 k3 ⟨hy3, _⟩
  obtain ⟨rfl, hT3, hC3⟩ := hy3 hN
  have hs2 := KGs_T hg5 hs1 hT3 hC3
  replace hS := hs2.1.std hS0
  refine t_go (op := o_istore 15 2) (fe_X7_catchesLine 14) (fun _ _ => rfl) ?_
  refine t_go (op := o_iload 16 2) (fe_X7_catchesLine 15) (fun _ _ => rfl) ?_
  refine t_go (op := o_ci 17 (-1)) (fe_X7_catchesLine 16) (fun _ _ => rfl) ?_
  refine t_ite (op := o_icmp 22 20 (fun x y => x = y) (fun _ _ => inferInstance)) (fe_X7_catchesLine 17) g_icmp (fun c1 => ?_) (fun c1 => ?_)
  · exact absurd c1 (nI_m1 (by have := hN.2.2.2; omega))
  · refine t_go (op := o_aload 23 1) (fe_X7_catchesLine 22) (fun _ _ => rfl) ?_
    refine t_go (op := o_iload 24 2) (fe_X7_catchesLine 23) (fun _ _ => rfl) ?_
    refine t_go (op := o_putI 27 3 5) (fe_X7_catchesLine 24) (g_putI hS hg (by decide)) ?_
    refine t_go (op := o_aload 28 1) (fe_X7_catchesLine 27) (fun _ _ => rfl) ?_
    refine t_go (op := o_ci 29 1) (fe_X7_catchesLine 28) (fun _ _ => rfl) ?_
    refine t_go (op := o_putZ 32 3 6) (fe_X7_catchesLine 29) (g_putZ hS hg (by decide) (by decide)) ?_
    have hs3 := KGs_ca (x := (tkT ch len (i + 1)).2.2.1) hg5 hs2 (by have := hN.2.2.1; omega)
    replace hS := hs3.1.std hS0
    refine t_go (op := o_aload 33 0) (fe_X7_catchesLine 32) (fun _ _ => rfl) ?_
    refine t_go (op := o_ci 35 59) (fe_X7_catchesLine 33) (fun _ _ => rfl) ?_
    refine t_call (op := o_callV 38 73 2 6) (fe_X7_catchesLine 35) (g_callV hS (show (lay 4).1 = 6 by decide) (by decide) rfl rfl rfl (Nat.le_of_ble_eq_true rfl)) ?_
    refine M_mono ?_ (c_takeSign (c := 59) hS hs3.2.1 (by decide))
    rintro v3 k4 ⟨hy3, hn3⟩
    obtain ⟨rfl, hT3, hC3⟩ := hy3 hw
    refine t_ret (op := o_zret) (fe_X7_catchesLine 38) (g_zret (Or.inr rfl)) ?_
    exact KL_t ((cI_t hN).trans (cI_t hw)) (KGs_T hg5 hs3 hT3 hC3)
theorem k_cF {d : Nat} {h0 h : AHP} {g : Nat} {ch : Nat → Nat} {len i : Nat} {G : GS} (hS0 : Std h0) (hg : (lay g).1 = 3) (hg5 : 5 ≤ g) (hs : KGs h0 h g ch len i G) (hG : gOK G) (hN : nuP (tkT ch len) 1 20 (i + 1) 0) (hw : ¬ isS (tkT ch len) 59 (i + 2) 0) : MM (d + 5) 78 [.ref 4, .ref g] h (fun v h2 => KL h0 g ch len (gC (tkT ch len) i G) v h2) := by
  refine ⟨Nat.le_of_ble_eq_true rfl, ?_⟩
  have hS := hs.1.std hS0
  have hC := hs.2.1
  refine t_go (op := o_aload 1 0) (fe_X7_catchesLine 0) (fun _ _ => rfl) ?_
  refine t_go (op := o_getR 4 6 0) (fe_X7_catchesLine 1) (g_getR hS (show (lay 4).1 = 6 by decide) (by decide) (fr_6_0 hS) (by decide)) ?_
  refine t_call (op := o_callV 7 97 1 8) (fe_X7_catchesLine 4) (g_callV hS (by decide) (by decide) rfl rfl rfl (Nat.le_of_ble_eq_true rfl)) ?_
  refine M_mono ?_ (c_toNext hS hC)
  rintro _ k2 ⟨rfl, hT, hC2⟩
  have hs1 := KGs_T hg5 hs hT hC2
  replace hS := hs1.1.std hS0
  refine t_go (op := o_aload 8 0) (fe_X7_catchesLine 7) (fun _ _ => rfl) ?_
  refine t_go (op := o_ci 9 1) (fe_X7_catchesLine 8) (fun _ _ => rfl) ?_
  refine t_go (op := o_ci 11 20) (fe_X7_catchesLine 9) (fun _ _ => rfl) ?_
  refine t_call (op := o_callV 14 74 3 6) (fe_X7_catchesLine 11) (g_callV hS (show (lay 4).1 = 6 by decide) (by decide) rfl rfl rfl (Nat.le_of_ble_eq_true rfl)) ?_
  refine M_mono ?_ (c_takeNumber (lo := 1) (hi2 := 20) hS hC2 (by decide) (by decide))
  rintro v3 k3 ⟨hy3, _⟩
  obtain ⟨rfl, hT3, hC3⟩ := hy3 hN
  have hs2 := KGs_T hg5 hs1 hT3 hC3
  replace hS := hs2.1.std hS0
  refine t_go (op := o_istore 15 2) (fe_X7_catchesLine 14) (fun _ _ => rfl) ?_
  refine t_go (op := o_iload 16 2) (fe_X7_catchesLine 15) (fun _ _ => rfl) ?_
  refine t_go (op := o_ci 17 (-1)) (fe_X7_catchesLine 16) (fun _ _ => rfl) ?_
  refine t_ite (op := o_icmp 22 20 (fun x y => x = y) (fun _ _ => inferInstance)) (fe_X7_catchesLine 17) g_icmp (fun c1 => ?_) (fun c1 => ?_)
  · exact absurd c1 (nI_m1 (by have := hN.2.2.2; omega))
  · refine t_go (op := o_aload 23 1) (fe_X7_catchesLine 22) (fun _ _ => rfl) ?_
    refine t_go (op := o_iload 24 2) (fe_X7_catchesLine 23) (fun _ _ => rfl) ?_
    refine t_go (op := o_putI 27 3 5) (fe_X7_catchesLine 24) (g_putI hS hg (by decide)) ?_
    refine t_go (op := o_aload 28 1) (fe_X7_catchesLine 27) (fun _ _ => rfl) ?_
    refine t_go (op := o_ci 29 1) (fe_X7_catchesLine 28) (fun _ _ => rfl) ?_
    refine t_go (op := o_putZ 32 3 6) (fe_X7_catchesLine 29) (g_putZ hS hg (by decide) (by decide)) ?_
    have hs3 := KGs_ca (x := (tkT ch len (i + 1)).2.2.1) hg5 hs2 (by have := hN.2.2.1; omega)
    replace hS := hs3.1.std hS0
    refine t_go (op := o_aload 33 0) (fe_X7_catchesLine 32) (fun _ _ => rfl) ?_
    refine t_go (op := o_ci 35 59) (fe_X7_catchesLine 33) (fun _ _ => rfl) ?_
    refine t_call (op := o_callV 38 73 2 6) (fe_X7_catchesLine 35) (g_callV hS (show (lay 4).1 = 6 by decide) (by decide) rfl rfl rfl (Nat.le_of_ble_eq_true rfl)) ?_
    refine M_mono ?_ (c_takeSign (c := 59) hS hs3.2.1 (by decide))
    rintro v3 k4 ⟨hy3, hn3⟩
    obtain ⟨rfl, rfl⟩ := hn3 hw
    refine t_ret (op := o_zret) (fe_X7_catchesLine 38) (g_zret (Or.inl rfl)) ?_
    exact KL_f ((cI_t hN).trans (cI_f hw)) (wrF_p (by decide)) (KGF_w hg5 hs3 (gOK_ca hG hN.2.2.2))
theorem k_catchesLine {d : Nat} {h0 h : AHP} {g : Nat} {ch : Nat → Nat} {len i : Nat} {G : GS} (hS0 : Std h0) (hg : (lay g).1 = 3) (hg5 : 5 ≤ g) (hs : KGs h0 h g ch len i G) (hG : gOK G) : MM (d + 5) 78 [.ref 4, .ref g] h (KL h0 g ch len (gC (tkT ch len) i G)) := by
  by_cases hN : nuP (tkT ch len) 1 20 (i + 1) 0
  · by_cases hw : isS (tkT ch len) 59 (i + 2) 0
    · exact k_cY hS0 hg hg5 hs hG hN hw
    · exact k_cF hS0 hg hg5 hs hG hN hw
  · exact k_cN hS0 hg hg5 hs hG hN
