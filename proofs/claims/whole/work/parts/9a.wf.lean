/-! ===== the code that is read is sound ===== -/
def dpl : List (Nat × Nat) → Nat → Nat
  | [], t => t
  | x :: l, t => dpl l (depS (stp x) t)
def okl : List (Nat × Nat) → Nat → Prop
  | [], _ => True
  | x :: l, t => okS (stp x) t ∧ okl l (depS (stp x) t)
theorem dpl_app : ∀ (a b : List (Nat × Nat)) (t : Nat), dpl (a ++ b) t = dpl b (dpl a t) := by
  intro a
  induction a with
  | nil => intro b t; rfl
  | cons x a ih => intro b t; exact ih b _
theorem okl_app : ∀ (a b : List (Nat × Nat)) (t : Nat), okl a t → okl b (dpl a t) → okl (a ++ b) t := by
  intro a
  induction a with
  | nil => intro b t _ h; exact h
  | cons x a ih => intro b t h1 h2; exact ⟨h1.1, ih b _ h1.2 h2⟩
theorem sp_bin : ∀ c, c < 11 → 4 ≤ c → (stp (c, 0) < -4 ∧ ¬ stp (c, 0) = -5 ∧ (stp (c, 0), nI c) ∈ codeB) := by decide +kernel
theorem stp_fac : ∀ b, b < 4 → (stp (2, b) < 0 ∧ ¬ stp (2, b) < -4 ∧ (-1 - stp (2, b)).toNatClampNeg = b) := by decide +kernel
theorem opC_b {TK : Nat → Tk} {l : Nat} {s : St} : 4 ≤ opC TK l s ∧ opC TK l s < 11 := by
  unfold opC
  split
  · by_cases q : isWd TK 17 s.1 s.2.1
    · rw [cI_t q]; omega
    · rw [cI_f q]; omega
  · by_cases q : isS TK 60 s.1 s.2.1
    · rw [cI_t q]; omega
    · rw [cI_f q]; omega
  · by_cases q : isS TK 43 s.1 s.2.1
    · rw [cI_t q]; omega
    · rw [cI_f q]; omega
  · omega
def cdV (x : Nat × Nat) : Prop := codeR (stp x) (nI x.1) (nI x.2)
theorem cdV_bin {c : Nat} (h4 : 4 ≤ c) (h : c < 11) : cdV (c, 0) := Or.inr (Or.inr (Or.inr (sp_bin c h h4).2.2))
theorem cdV_not : cdV (3, 0) := Or.inr (Or.inr (Or.inl ⟨rfl, rfl⟩))
theorem cdV_num {v : Nat} (h : v < 10000) : cdV (1, v) := Or.inl ⟨nI_pos (n := v) (by omega), rfl, rfl⟩
theorem cdV_fac {b : Nat} (h : b < 4) : cdV (2, b) := Or.inr (Or.inl ⟨b, h, (stp_fac b h).1, (stp_fac b h).2.1, (stp_fac b h).2.2, rfl, rfl⟩)
/-- what a reading adds -/
def addC (s s2 : St) (t e : Nat) : Prop := ∃ cs, s2.2.2 = s.2.2 ++ cs ∧ (∀ x ∈ cs, cdV x) ∧ okl cs t ∧ dpl cs t = e
theorem addC.nil {s s2 : St} {t : Nat} (h : s2.2.2 = s.2.2) : addC s s2 t t := ⟨[], by rw [h, List.append_nil], fun x q => (by cases q), trivial, rfl⟩
theorem addC.tr {s s2 s3 : St} {t u e : Nat} (h : addC s s2 t u) (h2 : addC s2 s3 u e) : addC s s3 t e := by
  obtain ⟨a, a1, a2, a3, a4⟩ := h
  obtain ⟨b, b1, b2, b3, b4⟩ := h2
  subst a4
  exact ⟨a ++ b, by rw [b1, a1, List.append_assoc], fun x hx => (List.mem_append.mp hx).elim (a2 x) (b2 x), okl_app a b t a3 b3, by rw [dpl_app, b4]⟩
theorem addC.em {s : St} {a b t : Nat} (hv : cdV (a, b)) (ho : okS (stp (a, b)) t) : addC s (emS a b s) t (depS (stp (a, b)) t) := ⟨[(a, b)], rfl, fun x hx => by rw [List.mem_singleton.mp hx]; exact hv, ⟨ho, trivial⟩, rfl⟩
theorem add_bin {s : St} {c t : Nat} (h4 : 4 ≤ c) (h : c < 11) (ht : 1 ≤ t) : addC s (emS c 0 s) (t + 1) t := by
  have q := sp_bin c h h4
  have h1 := addC.em (s := s) (t := t + 1) (cdV_bin h4 h) (by unfold okS; rw [if_pos q.1, if_neg q.2.1]; omega)
  have h2 : depS (stp (c, 0)) (t + 1) = t := by unfold depS; rw [if_pos q.1, if_neg q.2.1]; omega
  rw [h2] at h1
  exact h1
theorem add_not {s : St} {t : Nat} : addC s (emS 3 0 s) (t + 1) (t + 1) := addC.em (s := s) (t := t + 1) cdV_not (by show 1 ≤ t + 1; omega)
theorem add_num {s : St} {v t : Nat} (hv : v < 10000) (ht : t < 24) : addC s (emS 1 v s) t (t + 1) := by
  have q : ¬ stp (1, v) < -4 := fun h => by
    have h1 : ¬ nI v < 0 := nI_pos (by omega)
    have h2 : nI v < -4 := h
    exact h1 (Int32.lt_trans h2 (by decide))
  have h1 := addC.em (s := s) (t := t) (cdV_num hv) (by unfold okS; rw [if_neg q]; exact ht)
  have h2 : depS (stp (1, v)) t = t + 1 := by unfold depS; rw [if_neg q]
  rw [h2] at h1
  exact h1
theorem add_fac {s : St} {b t : Nat} (hb : b < 4) (ht : t < 24) : addC s (emS 2 b s) t (t + 1) := by
  have q := (stp_fac b hb).2.1
  have h1 := addC.em (s := s) (t := t) (cdV_fac hb) (by unfold okS; rw [if_neg q]; exact ht)
  have h2 : depS (stp (2, b)) t = t + 1 := by unfold depS; rw [if_neg q]
  rw [h2] at h1
  exact h1
theorem wrS_0 {TK : Nat → Tk} {c : Nat} {s : St} (hc : 1 ≤ c) : ¬ (wrS TK c s).2.1 = 0 := by
  show ¬ wrF TK c s.1 s.2.1 = 0
  unfold wrF
  split
  · omega
  · assumption
theorem pJ_wf {TK : Nat → Tk} {n : Nat} (hB : ∀ j, TKb (TK j)) (hE : (TK n).1 = 0) : ∀ (k l dep : Nat) (s s2 : St) (t : Nat), s.1 ≤ n → s.2.1 < 100000 → pJ TK k l dep s = some s2 → s2.2.1 = 0 → dep ≤ 5 → (l ≤ 4 → t + 4 * (5 - dep) + 1 ≤ 24 + l → addC s s2 t (t + 1)) ∧ (10 ≤ l → l ≤ 13 → 1 ≤ t → t + 4 * (5 - dep) + 1 ≤ 24 + (l - 10 + 1) → addC s s2 t t) := by
  intro k
  induction k with
  | zero => intro l dep s s2 t _ _ h; cases h
  | succ k ih =>
    intro l dep s s2 t hi hf h h2 hd
    have hs0 : s.2.1 = 0 := Classical.byContradiction fun q => q ((((pJ_go hB hE (k + 1) l dep s s2 hi hf h).2.2.2.2.2 q).symm).trans h2)
    by_cases h4 : l = 4
    · subst h4
      refine ⟨fun _ hb => ?_, fun q => absurd q (by decide)⟩
      rw [pJ_4] at h
      unfold pPt at h
      rw [cI_f (fun q => q hs0)] at h
      by_cases c2 : ¬ (numP TK s ∨ facP TK s ∨ notP TK s ∨ parP TK s)
      · rw [cI_t c2] at h; cases h; exact absurd h2 (wrS_0 (by decide))
      rw [cI_f c2] at h
      have c2' := Classical.not_not.mp c2
      have h0 : ¬ (TK s.1).1 = 0 := by
        rcases c2' with q | q | q | q
        · rw [show (TK s.1).1 = 2 from q]; decide
        · rw [q.2.1]; decide
        · rw [q.2.1]; decide
        · rw [q.2.1]; decide
      have hn1 := goS_n1 hE hi h0 hf
      by_cases c3 : dep = 5
      · rw [cI_t c3] at h; cases h; exact absurd h2 (wrS_0 (by decide))
      rw [cI_f c3] at h
      by_cases c4 : notP TK s
      · rw [cI_t c4] at h
        obtain ⟨s1, e1, e2⟩ := Option.map_eq_some_iff.mp h
        subst e2
        have q := (ih 4 (dep + 1) (nx1 s) s1 t hn1.2.1 hf e1 h2 (by omega)).1 (by decide) (by omega)
        exact addC.tr (s := s) (s2 := s1) q add_not
      rw [cI_f c4] at h
      by_cases c5 : parP TK s
      · rw [cI_t c5] at h
        obtain ⟨s1, e1, e2⟩ := Option.map_eq_some_iff.mp h
        subst e2
        have h3 : s1.2.1 = 0 := Classical.byContradiction fun q => q ((tSS_f q).symm.trans h2)
        have q := (ih 0 (dep + 1) (nx1 s) s1 t hn1.2.1 hf e1 h3 (by omega)).1 (by decide) (by omega)
        refine addC.tr (s := s) (s2 := s1) q (addC.nil ?_)
        unfold tSS
        by_cases w : isS TK 41 s1.1 s1.2.1
        · rw [cI_t w]; rfl
        · rw [cI_f w]; rfl
      rw [cI_f c5] at h
      by_cases c6 : numP TK s
      · rw [cI_t c6] at h; cases h
        exact addC.tr (s := s) (s2 := emS 1 (TK s.1).2.2.1 s) (add_num (hB s.1).2.2.1 (by omega)) (addC.nil rfl)
      · rw [cI_f c6] at h; cases h
        have c7 : facP TK s := by
          rcases c2' with q | q | q | q
          · exact absurd q c6
          · exact q
          · exact absurd q c4
          · exact absurd q c5
        exact addC.tr (s := s) (s2 := emS 2 ((TK s.1).2.2.1 - 19) s) (add_fac (by have := c7.2.2; omega) (by omega)) (addC.nil rfl)
    · by_cases hl : l < 4
      · refine ⟨fun _ hb => ?_, fun q => absurd q (by omega)⟩
        rw [pJ_l hl] at h
        obtain ⟨s1, e1, e2⟩ := Option.bind_eq_some_iff.mp h
        have g1 := pJ_go hB hE k (l + 1) dep s s1 hi hf e1
        have h3 : s1.2.1 = 0 := Classical.byContradiction fun q => q (((pJ_go hB hE k (10 + l) dep s1 s2 g1.2.1 g1.2.2.1 e2).2.2.2.2.2 q).symm.trans h2)
        have q1 := (ih (l + 1) dep s s1 t hi hf e1 h3 hd).1 (by omega) (by omega)
        have q2 := (ih (10 + l) dep s1 s2 (t + 1) g1.2.1 g1.2.2.1 e2 h2 hd).2 (by omega) (by omega) (by omega) (by omega)
        exact q1.tr q2
      · refine ⟨fun q => absurd q (by omega), fun hl1 hl2 ht hb => ?_⟩
        rw [pJ, if_neg h4, if_neg hl] at h
        by_cases c1 : opP TK (l - 10) s
        · rw [cI_t c1] at h
          obtain ⟨s1, e1, e2⟩ := Option.bind_eq_some_iff.mp h
          have h0 := opP_in c1
          have hn1 := goS_n1 hE hi h0.2 hf
          have g1 := pJ_go hB hE k (l - 10 + 1) dep (nx1 s) s1 hn1.2.1 hf e1
          have ob := opC_b (TK := TK) (l := l - 10) (s := s)
          by_cases h11 : l = 11
          · rw [if_pos h11] at e2
            have e3 := Option.some.inj e2
            subst e3
            have q := (ih (l - 10 + 1) dep (nx1 s) s1 t hn1.2.1 hf e1 h2 hd).1 (by omega) (by omega)
            exact addC.tr (s := s) (s2 := s1) q (add_bin opC_b.1 opC_b.2 ht)
          · rw [if_neg h11] at e2
            have g2 := (goS_nx (a := opC TK (l - 10) s) (b := 0) hE hi h0.2 h0.1 g1).1
            have h3 : s1.2.1 = 0 := Classical.byContradiction fun q => q (((pJ_go hB hE k l dep _ s2 g2.2.1 g2.2.2.1 e2).2.2.2.2.2 q).symm.trans h2)
            have q := (ih (l - 10 + 1) dep (nx1 s) s1 t hn1.2.1 hf e1 h3 hd).1 (by omega) (by omega)
            have q2 := (ih l dep (emS (opC TK (l - 10) s) 0 s1) s2 t g2.2.1 g2.2.2.1 e2 h2 hd).2 hl1 hl2 ht hb
            exact (addC.tr (s := s) (s2 := s1) q (add_bin ob.1 ob.2 ht)).tr q2
        · rw [cI_f c1] at h; cases h; exact addC.nil rfl
/-- a law that was read: its code is sound -/
theorem law_wf {TK : Nat → Tk} {n i : Nat} (hB : ∀ j, TKb (TK j)) (hE : (TK n).1 = 0) (hi : i ≤ n) (h2 : (lawS TK n (i, 0, [])).2.1 = 0) : (∀ x ∈ (lawS TK n (i, 0, [])).2.2, cdV x) ∧ okl (lawS TK n (i, 0, [])).2.2 0 ∧ dpl (lawS TK n (i, 0, [])).2.2 0 = 1 := by
  have e := lawS_eq hB hE (s := (i, 0, [])) hi (show 0 < 100000 by decide)
  obtain ⟨cs, a1, a2, a3, a4⟩ := (pJ_wf hB hE _ 0 0 _ _ 0 hi (show 0 < 100000 by decide) e h2 (by decide)).1 (by decide) (by decide)
  rw [show (lawS TK n (i, 0, [])).2.2 = cs from a1]
  exact ⟨a2, a3, a4⟩
theorem law_ne {cs : List (Nat × Nat)} (h : dpl cs 0 = 1) : 0 < cs.length := by
  cases cs with
  | nil => cases h
  | cons x l => exact Nat.succ_pos _
theorem okl_it {st : Nat → Int32} : ∀ (cs : List (Nat × Nat)) (i t : Nat), (∀ j, j < cs.length → st (i + j) = stp (cs.getD j (0, 0))) → okl cs t → (∀ j, j < cs.length → okS (st (i + j)) (it (fun i => depS (st i)) j i t)) ∧ it (fun i => depS (st i)) cs.length i t = dpl cs t := by
  intro cs
  induction cs with
  | nil => intro i t _ _; exact ⟨fun j hj => absurd hj (Nat.not_lt_zero _), rfl⟩
  | cons x l ih =>
    intro i t he ho
    have e0 : st i = stp x := he 0 (Nat.succ_pos _)
    have hx : depS (st i) t = depS (stp x) t := by rw [e0]
    have q := ih (i + 1) (depS (stp x) t) (fun j hj => by
      have := he (j + 1) (Nat.succ_lt_succ hj)
      rw [show i + (j + 1) = i + 1 + j by omega] at this
      exact this) ho.2
    refine ⟨fun j hj => ?_, ?_⟩
    · cases j with
      | zero =>
        show okS (st (i + 0)) t
        rw [Nat.add_zero, e0]; exact ho.1
      | succ j =>
        rw [show i + (j + 1) = i + 1 + j by omega]
        show okS (st (i + 1 + j)) (it (fun i => depS (st i)) j (i + 1) (depS (st i) t))
        rw [hx]
        exact q.1 j (Nat.lt_of_succ_lt_succ hj)
    · show it (fun i => depS (st i)) l.length (i + 1) (depS (st i) t) = dpl l (depS (stp x) t)
      rw [hx]
      exact q.2
theorem WFL_of {st : Nat → Int32} {cs : List (Nat × Nat)} (he : ∀ j, j < cs.length → st j = stp (cs.getD j (0, 0))) (ho : okl cs 0) (hd : dpl cs 0 = 1) : WFL st cs.length := by
  have q := okl_it (st := st) cs 0 0 (fun j hj => by rw [Nat.zero_add]; exact he j hj) ho
  refine ⟨fun j hj => ?_, ?_⟩
  · have := q.1 j hj
    rw [Nat.zero_add] at this
    exact this
  · unfold dep
    rw [q.2, hd]
    exact Nat.le_refl _
