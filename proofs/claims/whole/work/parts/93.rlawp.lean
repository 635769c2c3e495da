/-! ===== the reference reads a law: whole ===== -/
theorem okR_go {TK : Nat → Tk} {n : Nat} {s s2 : St} (hk : okR TK n s) (hg : goS TK n s s2) : okR TK n s2 := ⟨hg.2.1, hg.2.2.1, by have := hk.2.2; have := hg.2.2.2.1; omega⟩
theorem okR_n1 {TK : Nat → Tk} {n : Nat} (hE : (TK n).1 = 0) {s : St} (hk : okR TK n s) (h0 : ¬ (TK s.1).1 = 0) : okR TK n (nx1 s) := ⟨lt_end hE hk.1 h0, hk.2.1, by have := hk.2.2; show s.2.2.length ≤ s.1 + 1; omega⟩
def lcl (l dep : Nat) (x2 : Option Value) : List (Option Value) := if l = 3 then [some (.ref 183), some (.int (nI dep))] else [some (.ref 183), some (.int (nI dep)), x2]
def CJ (h0 : AHP) (TK : Nat → Tk) (n k : Nat) : Prop := ∀ (d l dep : Nat) (s s2 : St) (h : AHP), l ≤ 4 → dep ≤ 5 → RS h0 h s → okR TK n s → pJ TK k l dep s = some s2 → MM (d + (5 - dep) * 5 + (4 - l) + 4) (189 + l) [.ref 183, .int (nI dep)] h (fun v h2 => v = none ∧ RS h0 h2 s2)
def CL (h0 : AHP) (TK : Nat → Tk) (n k : Nat) : Prop := ∀ (d l dep : Nat) (s s2 : St) (h : AHP) (x2 : Option Value), l ≤ 3 → dep ≤ 5 → RS h0 h s → okR TK n s → pJ TK k (10 + l) dep s = some s2 → TT (d + (5 - dep) * 5 + (4 - l) + 4) (189 + l) 5 (lcl l dep x2) [] h (fun v h2 => v = none ∧ RS h0 h2 s2)
theorem M_d {d d2 k : Nat} {as : List Value} {h : AHP} {P : Option Value → AHP → Prop} (e : d = d2) (hm : MM d k as h P) : MM d2 k as h P := by rw [← e]; exact hm
theorem T_d {d d2 k pc : Nat} {ls : ALS} {st : List Value} {h : AHP} {Q : Option Value → AHP → Prop} (e : d = d2) (ht : TT d k pc ls st h Q) : TT d2 k pc ls st h Q := by rw [← e]; exact ht
theorem cj_0 {h0 : AHP} {TK : Nat → Tk} {n k : Nat} (hR : RQ h0 TK n) (hE : (TK n).1 = 0) (ihJ : CJ h0 TK n k) (ihL : CL h0 TK n k) {d dep : Nat} {s s2 : St} {h : AHP} (hd : dep ≤ 5) (hs : RS h0 h s) (hk : okR TK n s) (e : pJ TK (k + 1) 0 dep s = some s2) : MM (d + (5 - dep) * 5 + (4 - 0) + 4) 189 [.ref 183, .int (nI dep)] h (fun v h2 => v = none ∧ RS h0 h2 s2) := by
  rw [pJ_l (by decide)] at e
  obtain ⟨s1, e1, e2⟩ := Option.bind_eq_some_iff.mp e
  have hk1 := okR_go hk (pJ_go hR.2.2.2.1 hE k _ dep s s1 hk.1 hk.2.1 e1)
  refine w_whole_0 (d := d + (5 - dep) * 5 + (4 - 0)) hR hs (M_d (by omega) (ihJ d 1 dep s s1 h (by decide) hd hs hk e1)) (fun h2 hs2 => ?_)
  exact ihL d 0 dep s1 s2 h2 none (by decide) hd hs2 hk1 e2
theorem cl_0 {h0 : AHP} {TK : Nat → Tk} {n k : Nat} (hR : RQ h0 TK n) (hE : (TK n).1 = 0) (ihJ : CJ h0 TK n k) (ihL : CL h0 TK n k) {d dep : Nat} {s s2 : St} {h : AHP} {x2 : Option Value} (hd : dep ≤ 5) (hs : RS h0 h s) (hk : okR TK n s) (e : pJ TK (k + 1) (10 + 0) dep s = some s2) : TT (d + (5 - dep) * 5 + (4 - 0) + 4) 189 5 (lcl 0 dep x2) [] h (fun v h2 => v = none ∧ RS h0 h2 s2) := by
  rw [pJ_o] at e
  by_cases hop : opP TK 0 s
  · rw [cI_t hop] at e
    obtain ⟨s1, e1, e2⟩ := Option.bind_eq_some_iff.mp e
    have h0' := opP_in hop
    have hkn := okR_n1 hE hk h0'.2
    have g1 := pJ_go hR.2.2.2.1 hE k _ dep (nx1 s) s1 hkn.1 hkn.2.1 e1
    have hk1 := okR_go hkn g1
    have hq1 : s1.2.2.length < 1100 := by have := hk1.1; have := hk1.2.2; have := hR.2.2.1; omega
    have hk2 : okR TK n (emS (opC TK 0 s) 0 s1) := okR_go hk (goS_nx hE hk.1 h0'.2 h0'.1 g1).1
    refine w_whole_y (d := d + (5 - dep) * 5 + (4 - 0)) hR hs hk hop (fun h2 hs2 => M_d (by omega) (ihJ d 1 dep (nx1 s) s1 h2 (by decide) hd hs2 hkn e1)) hq1 ?_
    rw [if_neg (by decide)] at e2
    intro h2 x hs2
    exact ihL d 0 dep _ s2 h2 x (by decide) hd hs2 hk2 e2
  · rw [cI_f hop] at e
    cases e
    refine w_whole_n (d := d + (5 - dep) * 5 + (4 - 0)) hR hs hk hop ?_
    exact ⟨rfl, hs⟩
theorem cj_1 {h0 : AHP} {TK : Nat → Tk} {n k : Nat} (hR : RQ h0 TK n) (hE : (TK n).1 = 0) (ihJ : CJ h0 TK n k) (ihL : CL h0 TK n k) {d dep : Nat} {s s2 : St} {h : AHP} (hd : dep ≤ 5) (hs : RS h0 h s) (hk : okR TK n s) (e : pJ TK (k + 1) 1 dep s = some s2) : MM (d + (5 - dep) * 5 + (4 - 1) + 4) 190 [.ref 183, .int (nI dep)] h (fun v h2 => v = none ∧ RS h0 h2 s2) := by
  rw [pJ_l (by decide)] at e
  obtain ⟨s1, e1, e2⟩ := Option.bind_eq_some_iff.mp e
  have hk1 := okR_go hk (pJ_go hR.2.2.2.1 hE k _ dep s s1 hk.1 hk.2.1 e1)
  refine w_test_0 (d := d + (5 - dep) * 5 + (4 - 1)) hR hs (M_d (by omega) (ihJ d 2 dep s s1 h (by decide) hd hs hk e1)) (fun h2 hs2 => ?_)
  exact ihL d 1 dep s1 s2 h2 none (by decide) hd hs2 hk1 e2
theorem cl_1 {h0 : AHP} {TK : Nat → Tk} {n k : Nat} (hR : RQ h0 TK n) (hE : (TK n).1 = 0) (ihJ : CJ h0 TK n k) (ihL : CL h0 TK n k) {d dep : Nat} {s s2 : St} {h : AHP} {x2 : Option Value} (hd : dep ≤ 5) (hs : RS h0 h s) (hk : okR TK n s) (e : pJ TK (k + 1) (10 + 1) dep s = some s2) : TT (d + (5 - dep) * 5 + (4 - 1) + 4) 190 5 (lcl 1 dep x2) [] h (fun v h2 => v = none ∧ RS h0 h2 s2) := by
  rw [pJ_o] at e
  by_cases hop : opP TK 1 s
  · rw [cI_t hop] at e
    obtain ⟨s1, e1, e2⟩ := Option.bind_eq_some_iff.mp e
    have h0' := opP_in hop
    have hkn := okR_n1 hE hk h0'.2
    have g1 := pJ_go hR.2.2.2.1 hE k _ dep (nx1 s) s1 hkn.1 hkn.2.1 e1
    have hk1 := okR_go hkn g1
    have hq1 : s1.2.2.length < 1100 := by have := hk1.1; have := hk1.2.2; have := hR.2.2.1; omega
    have hk2 : okR TK n (emS (opC TK 1 s) 0 s1) := okR_go hk (goS_nx hE hk.1 h0'.2 h0'.1 g1).1
    refine w_test_y (d := d + (5 - dep) * 5 + (4 - 1)) hR hs hk hop (fun h2 hs2 => M_d (by omega) (ihJ d 2 dep (nx1 s) s1 h2 (by decide) hd hs2 hkn e1)) hq1 ?_
    rw [if_pos (by decide)] at e2
    cases e2
    intro h2 hs2
    exact ⟨rfl, hs2⟩
  · rw [cI_f hop] at e
    cases e
    refine w_test_n (d := d + (5 - dep) * 5 + (4 - 1)) hR hs hk hop ?_
    exact ⟨rfl, hs⟩
theorem cj_2 {h0 : AHP} {TK : Nat → Tk} {n k : Nat} (hR : RQ h0 TK n) (hE : (TK n).1 = 0) (ihJ : CJ h0 TK n k) (ihL : CL h0 TK n k) {d dep : Nat} {s s2 : St} {h : AHP} (hd : dep ≤ 5) (hs : RS h0 h s) (hk : okR TK n s) (e : pJ TK (k + 1) 2 dep s = some s2) : MM (d + (5 - dep) * 5 + (4 - 2) + 4) 191 [.ref 183, .int (nI dep)] h (fun v h2 => v = none ∧ RS h0 h2 s2) := by
  rw [pJ_l (by decide)] at e
  obtain ⟨s1, e1, e2⟩ := Option.bind_eq_some_iff.mp e
  have hk1 := okR_go hk (pJ_go hR.2.2.2.1 hE k _ dep s s1 hk.1 hk.2.1 e1)
  refine w_sums_0 (d := d + (5 - dep) * 5 + (4 - 2)) hR hs (M_d (by omega) (ihJ d 3 dep s s1 h (by decide) hd hs hk e1)) (fun h2 hs2 => ?_)
  exact ihL d 2 dep s1 s2 h2 none (by decide) hd hs2 hk1 e2
theorem cl_2 {h0 : AHP} {TK : Nat → Tk} {n k : Nat} (hR : RQ h0 TK n) (hE : (TK n).1 = 0) (ihJ : CJ h0 TK n k) (ihL : CL h0 TK n k) {d dep : Nat} {s s2 : St} {h : AHP} {x2 : Option Value} (hd : dep ≤ 5) (hs : RS h0 h s) (hk : okR TK n s) (e : pJ TK (k + 1) (10 + 2) dep s = some s2) : TT (d + (5 - dep) * 5 + (4 - 2) + 4) 191 5 (lcl 2 dep x2) [] h (fun v h2 => v = none ∧ RS h0 h2 s2) := by
  rw [pJ_o] at e
  by_cases hop : opP TK 2 s
  · rw [cI_t hop] at e
    obtain ⟨s1, e1, e2⟩ := Option.bind_eq_some_iff.mp e
    have h0' := opP_in hop
    have hkn := okR_n1 hE hk h0'.2
    have g1 := pJ_go hR.2.2.2.1 hE k _ dep (nx1 s) s1 hkn.1 hkn.2.1 e1
    have hk1 := okR_go hkn g1
    have hq1 : s1.2.2.length < 1100 := by have := hk1.1; have := hk1.2.2; have := hR.2.2.1; omega
    have hk2 : okR TK n (emS (opC TK 2 s) 0 s1) := okR_go hk (goS_nx hE hk.1 h0'.2 h0'.1 g1).1
    refine w_sums_y (d := d + (5 - dep) * 5 + (4 - 2)) hR hs hk hop (fun h2 hs2 => M_d (by omega) (ihJ d 3 dep (nx1 s) s1 h2 (by decide) hd hs2 hkn e1)) hq1 ?_
    rw [if_neg (by decide)] at e2
    intro h2 x hs2
    exact ihL d 2 dep _ s2 h2 x (by decide) hd hs2 hk2 e2
  · rw [cI_f hop] at e
    cases e
    refine w_sums_n (d := d + (5 - dep) * 5 + (4 - 2)) hR hs hk hop ?_
    exact ⟨rfl, hs⟩
theorem cj_3 {h0 : AHP} {TK : Nat → Tk} {n k : Nat} (hR : RQ h0 TK n) (hE : (TK n).1 = 0) (ihJ : CJ h0 TK n k) (ihL : CL h0 TK n k) {d dep : Nat} {s s2 : St} {h : AHP} (hd : dep ≤ 5) (hs : RS h0 h s) (hk : okR TK n s) (e : pJ TK (k + 1) 3 dep s = some s2) : MM (d + (5 - dep) * 5 + (4 - 3) + 4) 192 [.ref 183, .int (nI dep)] h (fun v h2 => v = none ∧ RS h0 h2 s2) := by
  rw [pJ_l (by decide)] at e
  obtain ⟨s1, e1, e2⟩ := Option.bind_eq_some_iff.mp e
  have hk1 := okR_go hk (pJ_go hR.2.2.2.1 hE k _ dep s s1 hk.1 hk.2.1 e1)
  refine w_products_0 (d := d + (5 - dep) * 5 + (4 - 3)) hR hs (M_d (by omega) (ihJ d 4 dep s s1 h (by decide) hd hs hk e1)) (fun h2 hs2 => ?_)
  exact ihL d 3 dep s1 s2 h2 none (by decide) hd hs2 hk1 e2
theorem cl_3 {h0 : AHP} {TK : Nat → Tk} {n k : Nat} (hR : RQ h0 TK n) (hE : (TK n).1 = 0) (ihJ : CJ h0 TK n k) (ihL : CL h0 TK n k) {d dep : Nat} {s s2 : St} {h : AHP} {x2 : Option Value} (hd : dep ≤ 5) (hs : RS h0 h s) (hk : okR TK n s) (e : pJ TK (k + 1) (10 + 3) dep s = some s2) : TT (d + (5 - dep) * 5 + (4 - 3) + 4) 192 5 (lcl 3 dep x2) [] h (fun v h2 => v = none ∧ RS h0 h2 s2) := by
  rw [pJ_o] at e
  by_cases hop : opP TK 3 s
  · rw [cI_t hop] at e
    obtain ⟨s1, e1, e2⟩ := Option.bind_eq_some_iff.mp e
    have h0' := opP_in hop
    have hkn := okR_n1 hE hk h0'.2
    have g1 := pJ_go hR.2.2.2.1 hE k _ dep (nx1 s) s1 hkn.1 hkn.2.1 e1
    have hk1 := okR_go hkn g1
    have hq1 : s1.2.2.length < 1100 := by have := hk1.1; have := hk1.2.2; have := hR.2.2.1; omega
    have hk2 : okR TK n (emS (opC TK 3 s) 0 s1) := okR_go hk (goS_nx hE hk.1 h0'.2 h0'.1 g1).1
    refine w_products_y (d := d + (5 - dep) * 5 + (4 - 3)) hR hs hk hop (fun h2 hs2 => M_d (by omega) (ihJ d 4 dep (nx1 s) s1 h2 (by decide) hd hs2 hkn e1)) hq1 ?_
    rw [if_neg (by decide)] at e2
    intro h2 hs2
    exact ihL d 3 dep _ s2 h2 none (by decide) hd hs2 hk2 e2
  · rw [cI_f hop] at e
    cases e
    refine w_products_n (d := d + (5 - dep) * 5 + (4 - 3)) hR hs hk hop ?_
    exact ⟨rfl, hs⟩
theorem cj_4 {h0 : AHP} {TK : Nat → Tk} {n k : Nat} (hR : RQ h0 TK n) (hE : (TK n).1 = 0) (ihJ : CJ h0 TK n k) {d dep : Nat} {s s2 : St} {h : AHP} (hd : dep ≤ 5) (hs : RS h0 h s) (hk : okR TK n s) (e : pJ TK (k + 1) 4 dep s = some s2) : MM (d + (5 - dep) * 5 + (4 - 4) + 4) 193 [.ref 183, .int (nI dep)] h (fun v h2 => v = none ∧ RS h0 h2 s2) := by
  rw [pJ_4] at e
  unfold pPt at e
  have hB := hR.2.2.2.1
  have hq0 : s.2.2.length < 1100 := by have := hk.1; have := hk.2.2; have := hR.2.2.1; omega
  by_cases c1 : ¬ s.2.1 = 0
  · rw [cI_t c1] at e; cases e
    exact w_pF hR hs hk c1 ⟨rfl, hs⟩
  · rw [cI_f c1] at e
    have hf0 : s.2.1 = 0 := Classical.not_not.mp c1
    by_cases c2 : ¬ (numP TK s ∨ facP TK s ∨ notP TK s ∨ parP TK s)
    · rw [cI_t c2] at e; cases e
      exact w_p1 hR hs hk hf0 c2 (fun h2 q => ⟨rfl, q⟩)
    · rw [cI_f c2] at e
      have c2' := Classical.not_not.mp c2
      have h0' : ¬ (TK s.1).1 = 0 := by
        rcases c2' with q | q | q | q
        · rw [show (TK s.1).1 = 2 from q]; decide
        · rw [q.2.1]; decide
        · rw [q.2.1]; decide
        · rw [q.2.1]; decide
      have hkn := okR_n1 hE hk h0'
      by_cases c3 : dep = 5
      · rw [cI_t c3] at e; cases e
        exact w_p2 hR hs hk hf0 c2' c3 (fun h2 q => ⟨rfl, q⟩)
      · rw [cI_f c3] at e
        refine w_pG hR hs hk hf0 c2' hd c3 (fun x2 hx2 => ?_)
        by_cases c4 : notP TK s
        · rw [cI_t c4] at e
          obtain ⟨s1, e1, e2⟩ := Option.map_eq_some_iff.mp e
          have hk1 := okR_go hkn (pJ_go hB hE k _ _ (nx1 s) s1 hkn.1 hkn.2.1 e1)
          have hq1 : s1.2.2.length < 1100 := by have := hk1.1; have := hk1.2.2; have := hR.2.2.1; omega
          refine w_p3 (s1 := s1) hR hs hk hf0 c4 (fun h2 hs2 => M_d (by omega) (ihJ (d + 4) 4 (dep + 1) (nx1 s) s1 h2 (by decide) (by omega) hs2 hkn e1)) hq1 (fun h2 q => ⟨rfl, ?_⟩)
          rw [← e2]; exact q
        · rw [cI_f c4] at e
          by_cases c5 : parP TK s
          · rw [cI_t c5] at e
            obtain ⟨s1, e1, e2⟩ := Option.map_eq_some_iff.mp e
            have hk1 := okR_go hkn (pJ_go hB hE k _ _ (nx1 s) s1 hkn.1 hkn.2.1 e1)
            refine w_p4 (s1 := s1) hR hs hk hf0 c4 c5 (fun h2 hs2 => M_d (by omega) (ihJ d 0 (dep + 1) (nx1 s) s1 h2 (by decide) (by omega) hs2 hkn e1)) hk1 (fun h2 q => ⟨rfl, ?_⟩)
            rw [← e2]; exact q
          · rw [cI_f c5] at e
            by_cases c6 : numP TK s
            · rw [cI_t c6] at e; cases e
              rw [b2i_t c6] at hx2
              subst hx2
              exact w_p5 hR hs hk hf0 c4 c5 hq0 c6 (fun h2 q => ⟨rfl, q⟩)
            · rw [cI_f c6] at e; cases e
              rw [b2i_f c6] at hx2
              subst hx2
              have c7 : facP TK s := by
                rcases c2' with q | q | q | q
                · exact absurd q c6
                · exact q
                · exact absurd q c4
                · exact absurd q c5
              exact w_p6 hR hs hk hf0 c4 c5 hq0 c7 (fun h2 q => ⟨rfl, q⟩)
theorem w_pJ {h0 : AHP} {TK : Nat → Tk} {n : Nat} (hR : RQ h0 TK n) (hE : (TK n).1 = 0) : ∀ k, CJ h0 TK n k ∧ CL h0 TK n k := by
  intro k
  induction k with
  | zero => exact ⟨fun d l dep s s2 h _ _ _ _ e => (by cases e), fun d l dep s s2 h x2 _ _ _ _ e => (by cases e)⟩
  | succ k ih =>
    refine ⟨fun d l dep s s2 h hl hd hs hk e => ?_, fun d l dep s s2 h x2 hl hd hs hk e => ?_⟩
    · match l, hl, e with
      | 0, _, e => exact cj_0 hR hE ih.1 ih.2 hd hs hk e
      | 1, _, e => exact cj_1 hR hE ih.1 ih.2 hd hs hk e
      | 2, _, e => exact cj_2 hR hE ih.1 ih.2 hd hs hk e
      | 3, _, e => exact cj_3 hR hE ih.1 ih.2 hd hs hk e
      | 4, _, e => exact cj_4 hR hE ih.1 hd hs hk e
      | l + 5, hl, _ => exact absurd hl (by omega)
    · match l, hl, e with
      | 0, _, e => exact cl_0 hR hE ih.1 ih.2 hd hs hk e
      | 1, _, e => exact cl_1 hR hE ih.1 ih.2 hd hs hk e
      | 2, _, e => exact cl_2 hR hE ih.1 ih.2 hd hs hk e
      | 3, _, e => exact cl_3 hR hE ih.1 ih.2 hd hs hk e
      | l + 4, hl, _ => exact absurd hl (by omega)
/-- the law, read -/
noncomputable def lawS (TK : Nat → Tk) (n : Nat) (s : St) : St := ((pJ TK (8 * n + 8) 0 0 s).getD s)
theorem lawS_eq {TK : Nat → Tk} {n : Nat} (hB : ∀ j, TKb (TK j)) (hE : (TK n).1 = 0) {s : St} (hi : s.1 ≤ n) (hf : s.2.1 < 100000) : pJ TK (8 * n + 8) 0 0 s = some (lawS TK n s) := by
  obtain ⟨s2, e⟩ := pJ_all hB hE (8 * n + 8) 0 0 s hi hf (Or.inl (by decide)) (by unfold fuB; rw [if_pos (by decide)]; omega)
  unfold lawS
  rw [e]
  rfl
theorem r_whole {d : Nat} {h0 h : AHP} {TK : Nat → Tk} {n : Nat} {s : St} (hR : RQ h0 TK n) (hE : (TK n).1 = 0) (hs : RS h0 h s) (hk : okR TK n s) : MM (d + 33) 189 [.ref 183, .int (nI 0)] h (fun v h2 => v = none ∧ RS h0 h2 (lawS TK n s)) :=
  (w_pJ hR hE (8 * n + 8)).1 d 0 0 s (lawS TK n s) h (by decide) (by decide) hs hk (lawS_eq hR.2.2.2.1 hE hk.1 hk.2.1)
