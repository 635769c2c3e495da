/-! ===== the reading of a law, as a value ===== -/
/-- where it reads, the fault, the code so far -/
abbrev St : Type := Nat × Nat × List (Nat × Nat)
noncomputable def cI {α : Type} (p : Prop) (a b : α) : α := @ite _ p (Classical.propDecidable p) a b
theorem cI_t {α : Type} {p : Prop} {a b : α} (h : p) : cI p a b = a := if_pos h
theorem cI_f {α : Type} {p : Prop} {a b : α} (h : ¬ p) : cI p a b = b := if_neg h
def opP (TK : Nat → Tk) (l : Nat) (s : St) : Prop :=
  match l with
  | 0 => isWd TK 17 s.1 s.2.1 ∨ isWd TK 18 s.1 s.2.1
  | 1 => isS TK 60 s.1 s.2.1 ∨ isS TK 61 s.1 s.2.1
  | 2 => isS TK 43 s.1 s.2.1 ∨ isS TK 45 s.1 s.2.1
  | _ => isS TK 42 s.1 s.2.1
noncomputable def opC (TK : Nat → Tk) (l : Nat) (s : St) : Nat :=
  match l with
  | 0 => cI (isWd TK 17 s.1 s.2.1) 9 10
  | 1 => cI (isS TK 60 s.1 s.2.1) 7 8
  | 2 => cI (isS TK 43 s.1 s.2.1) 4 5
  | _ => 6
def nx1 (s : St) : St := (s.1 + 1, s.2.1, s.2.2)
def emS (a b : Nat) (s : St) : St := (s.1, s.2.1, s.2.2 ++ [(a, b)])
def wrS (TK : Nat → Tk) (c : Nat) (s : St) : St := (s.1, wrF TK c s.1 s.2.1, s.2.2)
noncomputable def tSS (TK : Nat → Tk) (c : Nat) (s : St) : St := cI (isS TK c s.1 s.2.1) (nx1 s) (wrS TK 1 s)
def numP (TK : Nat → Tk) (s : St) : Prop := (TK s.1).1 = 2
def facP (TK : Nat → Tk) (s : St) : Prop := whP TK 19 s.1 s.2.1 4
def notP (TK : Nat → Tk) (s : St) : Prop := isWd TK 16 s.1 s.2.1
def parP (TK : Nat → Tk) (s : St) : Prop := isS TK 40 s.1 s.2.1
/-- one part: a number, a fact, not, a bracket -/
noncomputable def pPt (TK : Nat → Tk) (J : Nat → Nat → St → Option St) (dep : Nat) (s : St) : Option St :=
  cI (¬ s.2.1 = 0) (some s) (cI (¬ (numP TK s ∨ facP TK s ∨ notP TK s ∨ parP TK s)) (some (wrS TK 1 s)) (cI (dep = 5) (some (wrS TK 5 s))
    (cI (notP TK s) ((J 4 (dep + 1) (nx1 s)).map (emS 3 0)) (cI (parP TK s) ((J 0 (dep + 1) (nx1 s)).map (tSS TK 41))
      (cI (numP TK s) (some (nx1 (emS 1 (TK s.1).2.2.1 s))) (some (nx1 (emS 2 ((TK s.1).2.2.1 - 19) s))))))))
/-- levels 0 to 3, a part at 4; 10 + l: what follows at level l -/
noncomputable def pJ (TK : Nat → Tk) : Nat → Nat → Nat → St → Option St
  | 0, _, _, _ => none
  | k + 1, l, dep, s =>
    if l = 4 then pPt TK (pJ TK k) dep s
    else if l < 4 then (pJ TK k (l + 1) dep s).bind (fun s1 => pJ TK k (10 + l) dep s1)
    else cI (opP TK (l - 10) s) ((pJ TK k (l - 10 + 1) dep (nx1 s)).bind fun s2 => if l = 11 then some (emS (opC TK 1 s) 0 s2) else pJ TK k l dep (emS (opC TK (l - 10) s) 0 s2)) (some s)
theorem pJ_4 {TK : Nat → Tk} {k dep : Nat} {s : St} : pJ TK (k + 1) 4 dep s = pPt TK (pJ TK k) dep s := by rw [pJ, if_pos rfl]
theorem pJ_l {TK : Nat → Tk} {k l dep : Nat} {s : St} (h : l < 4) : pJ TK (k + 1) l dep s = (pJ TK k (l + 1) dep s).bind (fun s1 => pJ TK k (10 + l) dep s1) := by rw [pJ, if_neg (by omega), if_pos h]
theorem pJ_o {TK : Nat → Tk} {k l dep : Nat} {s : St} : pJ TK (k + 1) (10 + l) dep s = cI (opP TK l s) ((pJ TK k (l + 1) dep (nx1 s)).bind fun s2 => if 10 + l = 11 then some (emS (opC TK 1 s) 0 s2) else pJ TK k (10 + l) dep (emS (opC TK l s) 0 s2)) (some s) := by
  rw [pJ, if_neg (by omega), if_neg (by omega), show 10 + l - 10 = l by omega]
theorem opP_in {TK : Nat → Tk} {l : Nat} {s : St} (h : opP TK l s) : s.2.1 = 0 ∧ ¬ (TK s.1).1 = 0 := by
  unfold opP at h
  split at h
  · rcases h with h | h
    · exact ⟨h.1, by rw [h.2.1]; decide⟩
    · exact ⟨h.1, by rw [h.2.1]; decide⟩
  · rcases h with h | h
    · exact ⟨h.1, by rw [h.2.1]; decide⟩
    · exact ⟨h.1, by rw [h.2.1]; decide⟩
  · rcases h with h | h
    · exact ⟨h.1, by rw [h.2.1]; decide⟩
    · exact ⟨h.1, by rw [h.2.1]; decide⟩
  · exact ⟨h.1, by rw [h.2.1]; decide⟩
theorem lt_end {TK : Nat → Tk} {n : Nat} (hE : (TK n).1 = 0) {i : Nat} (hi : i ≤ n) (h : ¬ (TK i).1 = 0) : i < n := by
  rcases Nat.lt_or_ge i n with q | q
  · exact q
  · exact absurd (by rw [show i = n by omega]; exact hE) h
/-- what a reading keeps: it goes on, and writes no more than it read -/
def goS (TK : Nat → Tk) (n : Nat) (s s2 : St) : Prop := s.1 ≤ s2.1 ∧ s2.1 ≤ n ∧ s2.2.1 < 100000 ∧ s2.2.2.length + s.1 ≤ s2.1 + s.2.2.length ∧ (∃ cs, s2.2.2 = s.2.2 ++ cs) ∧ (¬ s.2.1 = 0 → s2.2.1 = s.2.1)
theorem goS.rf {TK : Nat → Tk} {n : Nat} {s : St} (h : s.1 ≤ n) (hf : s.2.1 < 100000) : goS TK n s s := ⟨Nat.le_refl _, h, hf, by omega, ⟨[], (List.append_nil _).symm⟩, fun _ => rfl⟩
theorem goS.tr {TK : Nat → Tk} {n : Nat} {s s2 s3 : St} (h : goS TK n s s2) (h2 : goS TK n s2 s3) : goS TK n s s3 := by
  obtain ⟨a1, a2, a3, a4, ⟨c1, a5⟩, a6⟩ := h
  obtain ⟨b1, b2, b3, b4, ⟨c2, b5⟩, b6⟩ := h2
  exact ⟨by omega, b2, b3, by omega, ⟨c1 ++ c2, by rw [b5, a5, List.append_assoc]⟩, fun q => by rw [b6 (by rw [a6 q]; exact q), a6 q]⟩
theorem goS_wr {TK : Nat → Tk} {n c : Nat} (hB : ∀ j, TKb (TK j)) (hc : c ≤ 5) {s s2 : St} (h : goS TK n s s2) : goS TK n s (wrS TK c s2) :=
  ⟨h.1, h.2.1, wrF_b hB h.2.2.1 hc, h.2.2.2.1, h.2.2.2.2.1, fun q => by
    have h1 := h.2.2.2.2.2 q
    show wrF TK c s2.1 s2.2.1 = _
    rw [wrF, if_neg (by rw [h1]; exact q), h1]⟩
/-- one token, and what it yields -/
theorem goS_nx {TK : Nat → Tk} {n : Nat} (hE : (TK n).1 = 0) {s s2 : St} (hi : s.1 ≤ n) (h0 : ¬ (TK s.1).1 = 0) (hf : s.2.1 = 0) {a b : Nat} (h : goS TK n (nx1 s) s2) : goS TK n s (emS a b s2) ∧ goS TK n s s2 := by
  have hlt := lt_end hE hi h0
  obtain ⟨a1, a2, a3, a4, ⟨c1, a5⟩, a6⟩ := h
  have a1' : s.1 + 1 ≤ s2.1 := a1
  have a4' : s2.2.2.length + (s.1 + 1) ≤ s2.1 + s.2.2.length := a4
  have a5' : s2.2.2 = s.2.2 ++ c1 := a5
  refine ⟨⟨by show s.1 ≤ s2.1; omega, a2, a3, ?_, ⟨c1 ++ [(a, b)], ?_⟩, fun q => absurd hf q⟩, ⟨by omega, a2, a3, by omega, ⟨c1, a5'⟩, fun q => absurd hf q⟩⟩
  · show (s2.2.2 ++ [(a, b)]).length + s.1 ≤ s2.1 + s.2.2.length
    rw [List.length_append, List.length_singleton]
    omega
  · show s2.2.2 ++ [(a, b)] = _
    rw [a5', List.append_assoc]
theorem goS_n1 {TK : Nat → Tk} {n : Nat} (hE : (TK n).1 = 0) {s : St} (hi : s.1 ≤ n) (h0 : ¬ (TK s.1).1 = 0) (hf : s.2.1 < 100000) : goS TK n (nx1 s) (nx1 s) := goS.rf (lt_end hE hi h0) hf
theorem goS_tS {TK : Nat → Tk} {n c : Nat} (hB : ∀ j, TKb (TK j)) (hE : (TK n).1 = 0) {s s2 : St} (h : goS TK n s s2) : goS TK n s (tSS TK c s2) := by
  unfold tSS
  by_cases hs : isS TK c s2.1 s2.2.1
  · rw [cI_t hs]
    have hlt := lt_end hE h.2.1 (by rw [hs.2.1]; decide)
    exact ⟨by have := h.1; show s.1 ≤ s2.1 + 1; omega, hlt, h.2.2.1, by have := h.2.2.2.1; show s2.2.2.length + s.1 ≤ s2.1 + 1 + s.2.2.length; omega, h.2.2.2.2.1, h.2.2.2.2.2⟩
  · rw [cI_f hs]
    exact goS_wr hB (by decide) h
theorem pJ_go {TK : Nat → Tk} {n : Nat} (hB : ∀ j, TKb (TK j)) (hE : (TK n).1 = 0) : ∀ (k l dep : Nat) (s s2 : St), s.1 ≤ n → s.2.1 < 100000 → pJ TK k l dep s = some s2 → goS TK n s s2 := by
  intro k
  induction k with
  | zero => intro l dep s s2 _ _ h; cases h
  | succ k ih =>
    intro l dep s s2 hi hf h
    by_cases h4 : l = 4
    · subst h4
      rw [pJ_4] at h
      unfold pPt at h
      by_cases c1 : ¬ s.2.1 = 0
      · rw [cI_t c1] at h; cases h; exact goS.rf hi hf
      · rw [cI_f c1] at h
        have hf0 : s.2.1 = 0 := Classical.not_not.mp c1
        by_cases c2 : ¬ (numP TK s ∨ facP TK s ∨ notP TK s ∨ parP TK s)
        · rw [cI_t c2] at h; cases h; exact goS_wr hB (by decide) (goS.rf hi hf)
        · rw [cI_f c2] at h
          have c2' := Classical.not_not.mp c2
          have h0 : ¬ (TK s.1).1 = 0 := by
            rcases c2' with q | q | q | q
            · rw [show (TK s.1).1 = 2 from q]; decide
            · rw [q.2.1]; decide
            · rw [q.2.1]; decide
            · rw [q.2.1]; decide
          have hn1 := goS_n1 hE hi h0 hf
          by_cases c3 : dep = 5
          · rw [cI_t c3] at h; cases h; exact goS_wr hB (by decide) (goS.rf hi hf)
          · rw [cI_f c3] at h
            by_cases c4 : notP TK s
            · rw [cI_t c4] at h
              obtain ⟨s1, e1, e2⟩ := Option.map_eq_some_iff.mp h
              rw [← e2]
              exact (goS_nx hE hi h0 hf0 (ih 4 (dep + 1) (nx1 s) s1 hn1.2.1 hf e1)).1
            · rw [cI_f c4] at h
              by_cases c5 : parP TK s
              · rw [cI_t c5] at h
                obtain ⟨s1, e1, e2⟩ := Option.map_eq_some_iff.mp h
                rw [← e2]
                exact goS_tS hB hE (goS_nx (a := 0) (b := 0) hE hi h0 hf0 (ih 0 (dep + 1) (nx1 s) s1 hn1.2.1 hf e1)).2
              · rw [cI_f c5] at h
                by_cases c6 : numP TK s
                · rw [cI_t c6] at h; cases h
                  exact (goS_nx hE hi h0 hf0 hn1).1
                · rw [cI_f c6] at h; cases h
                  exact (goS_nx hE hi h0 hf0 hn1).1
    · by_cases hl : l < 4
      · rw [pJ_l hl] at h
        obtain ⟨s1, e1, e2⟩ := Option.bind_eq_some_iff.mp h
        have g1 := ih (l + 1) dep s s1 hi hf e1
        exact g1.tr (ih (10 + l) dep s1 s2 g1.2.1 g1.2.2.1 e2)
      · rw [pJ, if_neg h4, if_neg hl] at h
        by_cases c1 : opP TK (l - 10) s
        · rw [cI_t c1] at h
          obtain ⟨s1, e1, e2⟩ := Option.bind_eq_some_iff.mp h
          have h0 := opP_in c1
          have hn1 := goS_n1 hE hi h0.2 hf
          have g1 := ih (l - 10 + 1) dep (nx1 s) s1 hn1.2.1 hf e1
          by_cases h11 : l = 11
          · rw [if_pos h11] at e2; cases e2
            exact (goS_nx hE hi h0.2 h0.1 g1).1
          · rw [if_neg h11] at e2
            have g2 := (goS_nx (a := opC TK (l - 10) s) (b := 0) hE hi h0.2 h0.1 g1).1
            exact g2.tr (ih l dep _ s2 g2.2.1 g2.2.2.1 e2)
        · rw [cI_f c1] at h; cases h; exact goS.rf hi hf
/-- fuel enough -/
def fuB (n i l : Nat) : Nat := 8 * (n - i) + 1 + (if l ≤ 4 then 4 - l else 0)
theorem pJ_all {TK : Nat → Tk} {n : Nat} (hB : ∀ j, TKb (TK j)) (hE : (TK n).1 = 0) : ∀ (k l dep : Nat) (s : St), s.1 ≤ n → s.2.1 < 100000 → (l ≤ 4 ∨ (10 ≤ l ∧ l ≤ 13)) → fuB n s.1 l ≤ k → ∃ s2, pJ TK k l dep s = some s2 := by
  intro k
  induction k with
  | zero => intro l dep s _ _ _ h; unfold fuB at h; omega
  | succ k ih =>
    intro l dep s hi hf hl hk
    unfold fuB at hk
    by_cases h4 : l = 4
    · subst h4
      rw [pJ_4]
      unfold pPt
      by_cases c1 : ¬ s.2.1 = 0
      · rw [cI_t c1]; exact ⟨_, rfl⟩
      · rw [cI_f c1]
        by_cases c2 : ¬ (numP TK s ∨ facP TK s ∨ notP TK s ∨ parP TK s)
        · rw [cI_t c2]; exact ⟨_, rfl⟩
        · rw [cI_f c2]
          have c2' := Classical.not_not.mp c2
          have h0 : ¬ (TK s.1).1 = 0 := by
            rcases c2' with q | q | q | q
            · rw [show (TK s.1).1 = 2 from q]; decide
            · rw [q.2.1]; decide
            · rw [q.2.1]; decide
            · rw [q.2.1]; decide
          have hlt := lt_end hE hi h0
          by_cases c3 : dep = 5
          · rw [cI_t c3]; exact ⟨_, rfl⟩
          · rw [cI_f c3]
            by_cases c4 : notP TK s
            · rw [cI_t c4]
              obtain ⟨s1, e1⟩ := ih 4 (dep + 1) (nx1 s) hlt hf (Or.inl (by omega)) (by show fuB n (s.1 + 1) 4 ≤ k; unfold fuB; rw [if_pos (by omega)]; rw [if_pos (by omega)] at hk; omega)
              rw [e1]; exact ⟨_, rfl⟩
            · rw [cI_f c4]
              by_cases c5 : parP TK s
              · rw [cI_t c5]
                obtain ⟨s1, e1⟩ := ih 0 (dep + 1) (nx1 s) hlt hf (Or.inl (by omega)) (by show fuB n (s.1 + 1) 0 ≤ k; unfold fuB; rw [if_pos (by omega)]; rw [if_pos (by omega)] at hk; omega)
                rw [e1]; exact ⟨_, rfl⟩
              · rw [cI_f c5]
                by_cases c6 : numP TK s
                · rw [cI_t c6]; exact ⟨_, rfl⟩
                · rw [cI_f c6]; exact ⟨_, rfl⟩
    · by_cases hl4 : l < 4
      · rw [pJ_l hl4]
        rw [if_pos (by omega)] at hk
        obtain ⟨s1, e1⟩ := ih (l + 1) dep s hi hf (Or.inl (by omega)) (by unfold fuB; rw [if_pos (by omega)]; omega)
        have g1 := pJ_go hB hE k (l + 1) dep s s1 hi hf e1
        obtain ⟨s2, e2⟩ := ih (10 + l) dep s1 g1.2.1 g1.2.2.1 (Or.inr (by omega)) (by unfold fuB; rw [if_neg (by omega)]; have := g1.1; omega)
        rw [e1]
        exact ⟨s2, e2⟩
      · rw [pJ, if_neg h4, if_neg hl4]
        rw [if_neg (by omega)] at hk
        by_cases c1 : opP TK (l - 10) s
        · rw [cI_t c1]
          have h0 := opP_in c1
          have hlt := lt_end hE hi h0.2
          obtain ⟨s1, e1⟩ := ih (l - 10 + 1) dep (nx1 s) hlt hf (Or.inl (by omega)) (by show fuB n (s.1 + 1) (l - 10 + 1) ≤ k; unfold fuB; rw [if_pos (by omega)]; omega)
          have g1 := pJ_go hB hE k (l - 10 + 1) dep (nx1 s) s1 hlt hf e1
          rw [e1]
          by_cases h11 : l = 11
          · exact ⟨emS (opC TK 1 s) 0 s1, if_pos h11⟩
          · have g2 := (goS_nx (a := opC TK (l - 10) s) (b := 0) hE hi h0.2 h0.1 g1).1
            obtain ⟨s2, e2⟩ := ih l dep (emS (opC TK (l - 10) s) 0 s1) g2.2.1 g2.2.2.1 hl (by show fuB n s1.1 l ≤ k; unfold fuB; rw [if_neg (by omega)]; have : s.1 + 1 ≤ s1.1 := g1.1; omega)
            exact ⟨s2, (if_neg h11).trans e2⟩
        · rw [cI_f c1]; exact ⟨_, rfl⟩
