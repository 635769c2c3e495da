/-! ===== lines of a grate, as values ===== -/
abbrev Em : Type := List Nat × Nat × Nat × Nat × Nat
abbrev GS : Type := List Em × List Nat × Nat × List (Nat × Nat)
def em0 : Em := ([], 0, 0, 0, 0)
def uN (es : List Em) (w : List Nat) : Prop := ∃ k, k < es.length ∧ (es.getD k em0).1 = w
def uC (es : List Em) (c : Nat) : Prop := ∃ k, k < es.length ∧ (es.getD k em0).2.2.1 = c
noncomputable def sgF (TK : Nat → Tk) (p : Nat) : Nat := cI (isS TK 59 p 0) 0 (wrF TK 1 p 0)
noncomputable def eF1 (TK : Nat → Tk) (i : Nat) (es : List Em) : Nat := eF TK i es.length (uN es (TK (i + 1)).2.2.2.1) (uC es (TK (i + 4)).2.2.1)
def emN (TK : Nat → Tk) (i : Nat) : Em := ((TK (i + 1)).2.2.2.1, (TK (i + 2)).2.2.1 - 12, (TK (i + 4)).2.2.1, (TK (i + 6)).2.2.1, (TK (i + 8)).2.2.1)
noncomputable def gE (TK : Nat → Tk) (i : Nat) (G : GS) : Nat × Nat × GS := (cI (eF1 TK i G.1 = 0) (sgF TK (i + 9)) (eF1 TK i G.1), i + 10, (G.1 ++ [emN TK i], G.2))
noncomputable def gD (TK : Nat → Tk) (i : Nat) (G : GS) : Nat × Nat × GS := (cI ((dS TK 13 (i + 1) 0).1 = 0) (sgF TK (dS TK 13 (i + 1) 0).2.1) (dS TK 13 (i + 1) 0).1, (dS TK 13 (i + 1) 0).2.1 + 1, (G.1, (dS TK 13 (i + 1) 0).2.2, G.2.2))
noncomputable def gC (TK : Nat → Tk) (i : Nat) (G : GS) : Nat × Nat × GS := (cI (nuP TK 1 20 (i + 1) 0) (sgF TK (i + 2)) (wrF TK (nmF TK (i + 1)) (i + 1) 0), i + 3, (G.1, G.2.1, (TK (i + 1)).2.2.1, G.2.2.2))
noncomputable def gW (TK : Nat → Tk) (n i : Nat) (G : GS) : Nat × Nat × GS := (cI ((lawS TK n (i + 1, 0, [])).2.1 = 0) (sgF TK (lawS TK n (i + 1, 0, [])).1) (lawS TK n (i + 1, 0, [])).2.1, (lawS TK n (i + 1, 0, [])).1 + 1, (G.1, G.2.1, G.2.2.1, (lawS TK n (i + 1, 0, [])).2.2))
noncomputable def gL (TK : Nat → Tk) (n i : Nat) (G : GS) : Nat × Nat × GS :=
  cI (isWd TK 0 i 0) (gE TK i G) (cI (isWd TK 4 i 0) (cI (¬ G.2.1 = []) (wrF TK 3 i 0, i, G) (gD TK i G)) (cI (isWd TK 5 i 0) (cI (¬ G.2.2.1 = 0) (wrF TK 3 i 0, i, G) (gC TK i G)) (cI (isWd TK 6 i 0) (cI (¬ G.2.2.2 = []) (wrF TK 3 i 0, i, G) (gW TK n i G)) (wrF TK 1 i 0, i, G))))
noncomputable def gRun (TK : Nat → Tk) (n : Nat) : Nat → Nat → GS → Nat × GS
  | 0, _, G => (0, G)
  | k + 1, i, G => cI ((TK i).1 = 0) (0, G) (cI ((gL TK n i G).1 = 0) (gRun TK n k (gL TK n i G).2.1 (gL TK n i G).2.2) ((gL TK n i G).1, G))
def emOK (e : Em) : Prop := okW e.1 ∧ e.2.1 < 4 ∧ e.2.2.1 < 12 ∧ e.2.2.2.1 ≤ 20 ∧ 1 ≤ e.2.2.2.2 ∧ e.2.2.2.2 ≤ 20
def gOK (G : GS) : Prop := G.1.length ≤ 7 ∧ (∀ e, e < G.1.length → emOK (G.1.getD e em0)) ∧ (∀ a b, a < G.1.length → b < G.1.length → (G.1.getD a em0).2.2.1 = (G.1.getD b em0).2.2.1 → a = b) ∧ G.2.1.length ≤ 12 ∧ G.2.2.1 ≤ 20 ∧ (G.2.2.2 = [] ∨ (G.2.2.2.length ≤ 1000 ∧ (∀ x ∈ G.2.2.2, cdV x) ∧ okl G.2.2.2 0 ∧ dpl G.2.2.2 0 = 1))
theorem gOK_0 : gOK ([], [], 0, []) := ⟨by decide, fun e h => absurd h (Nat.not_lt_zero _), fun a b h => absurd h (Nat.not_lt_zero _), by decide, by decide, Or.inl rfl⟩
theorem sgF_0 {TK : Nat → Tk} {p : Nat} (h : sgF TK p = 0) : isS TK 59 p 0 := by
  unfold sgF at h
  by_cases q : isS TK 59 p 0
  · exact q
  · rw [cI_f q] at h; exact absurd h (wrF_p (by decide))
theorem cI_0 {P : Prop} {a b : Nat} (h : cI P a b = 0) (hb : ¬ P → ¬ b = 0) : P ∧ a = 0 := by
  by_cases q : P
  · rw [cI_t q] at h; exact ⟨q, h⟩
  · rw [cI_f q] at h; exact absurd h (hb q)
theorem cI_1 {P : Prop} {a b : Nat} (h : cI P a b = 0) (ha : P → ¬ a = 0) : ¬ P ∧ b = 0 := by
  by_cases q : P
  · rw [cI_t q] at h; exact absurd h (ha q)
  · rw [cI_f q] at h; exact ⟨q, h⟩
/-- what a good line of an ember is -/
theorem eF_0 {TK : Nat → Tk} {i m : Nat} {u1 u2 : Prop} (h : eF TK i m u1 u2 = 0) : ¬ m = 7 ∧ nmP TK (i + 1) ∧ ¬ u1 ∧ whP TK 12 (i + 2) 0 4 ∧ isWd TK 1 (i + 3) 0 ∧ nuP TK 0 11 (i + 4) 0 ∧ ¬ u2 ∧ isWd TK 2 (i + 5) 0 ∧ nuP TK 0 20 (i + 6) 0 ∧ isWd TK 3 (i + 7) 0 ∧ nuP TK 1 20 (i + 8) 0 := by
  unfold eF at h
  have w1 : ∀ {c j : Nat}, 1 ≤ c → ¬ wrF TK c j 0 = 0 := fun hc => wrF_p hc
  obtain ⟨a1, h⟩ := cI_1 h (fun _ => w1 (by decide))
  obtain ⟨a2, h⟩ := cI_1 h (fun _ => w1 (by decide))
  obtain ⟨a3, h⟩ := cI_1 h (fun _ => w1 (by decide))
  obtain ⟨a4, h⟩ := cI_1 h (fun _ => w1 (by decide))
  obtain ⟨a5, h⟩ := cI_1 h (fun _ => w1 (by decide))
  obtain ⟨a6, h⟩ := cI_1 h (fun _ => w1 nmF_5.1)
  obtain ⟨a7, h⟩ := cI_1 h (fun _ => w1 (by decide))
  obtain ⟨a8, h⟩ := cI_1 h (fun _ => w1 (by decide))
  obtain ⟨a9, h⟩ := cI_1 h (fun _ => w1 nmF_5.1)
  obtain ⟨a10, h⟩ := cI_1 h (fun _ => w1 (by decide))
  obtain ⟨a11, h⟩ := cI_1 h (fun _ => w1 nmF_5.1)
  exact ⟨a1, Classical.not_not.mp a2, a3, Classical.not_not.mp a4, Classical.not_not.mp a5, Classical.not_not.mp a6, a7, Classical.not_not.mp a8, Classical.not_not.mp a9, Classical.not_not.mp a10, Classical.not_not.mp a11⟩
theorem getD_sn {α : Type} {l : List α} {x d : α} {j : Nat} (hj : j < l.length + 1) : (l ++ [x]).getD j d = if j = l.length then x else l.getD j d := by
  by_cases h : j = l.length
  · rw [if_pos h, h]; exact getD_snoc
  · rw [if_neg h]; exact getD_old (by omega)
theorem len_sn {α : Type} {l : List α} {x : α} : (l ++ [x]).length = l.length + 1 := by rw [List.length_append, List.length_singleton]
theorem dS_len {TK : Nat → Tk} : ∀ (k p j : Nat), j + k = 13 → j ≤ 12 → (dS TK k p j).2.2.length + j ≤ 12 := by
  intro k
  induction k with
  | zero => intro p j h1 h2; omega
  | succ k ih =>
    intro p j h1 h2
    rw [dS]
    by_cases c1 : ¬ j = 0 ∧ ¬ (TK p).1 = 2
    · rw [cI_t c1]; show 0 + j ≤ 12; omega
    rw [cI_f c1]
    by_cases c2 : ¬ nuP TK 0 9 p 0
    · rw [cI_t c2]; show 0 + j ≤ 12; omega
    rw [cI_f c2]
    by_cases c3 : j = 12
    · rw [cI_t c3]; show 0 + j ≤ 12; omega
    rw [cI_f c3]
    have := ih (p + 1) (j + 1) (by omega) (by omega)
    show ((TK p).2.2.1 :: (dS TK k (p + 1) (j + 1)).2.2).length + j ≤ 12
    rw [List.length_cons]
    omega
theorem dS_go {TK : Nat → Tk} {n : Nat} (hE : (TK n).1 = 0) : ∀ (k p j : Nat), j + k = 13 → j ≤ 12 → p ≤ n → p ≤ (dS TK k p j).2.1 ∧ (dS TK k p j).2.1 ≤ n ∧ (j = 0 → (dS TK k p j).1 = 0 → ¬ (dS TK k p j).2.2 = []) := by
  intro k
  induction k with
  | zero => intro p j h1 h2; omega
  | succ k ih =>
    intro p j h1 h2 hp
    rw [dS]
    by_cases c1 : ¬ j = 0 ∧ ¬ (TK p).1 = 2
    · rw [cI_t c1]; exact ⟨Nat.le_refl _, hp, fun q => absurd q c1.1⟩
    rw [cI_f c1]
    by_cases c2 : ¬ nuP TK 0 9 p 0
    · rw [cI_t c2]; exact ⟨Nat.le_refl _, hp, fun _ q => absurd q (wrF_p nmF_5.1)⟩
    rw [cI_f c2]
    have c2' := Classical.not_not.mp c2
    by_cases c3 : j = 12
    · rw [cI_t c3]; exact ⟨Nat.le_refl _, hp, fun _ q => absurd q (wrF_p (by decide))⟩
    rw [cI_f c3]
    have := ih (p + 1) (j + 1) (by omega) (by omega) (lt_end hE hp (by rw [c2'.2.1]; decide))
    exact ⟨by show p ≤ (dS TK k (p + 1) (j + 1)).2.1; omega, this.2.1, fun _ _ q => by cases q⟩
/-- a good line goes on, and keeps what holds of a grate -/
theorem gL_go {TK : Nat → Tk} {n i : Nat} {G : GS} (hB : ∀ j, TKb (TK j)) (hE : (TK n).1 = 0) (hn : n ≤ 1000) (hi : i ≤ n) (h0 : ¬ (TK i).1 = 0) (hG : gOK G) (h : (gL TK n i G).1 = 0) : i < (gL TK n i G).2.1 ∧ (gL TK n i G).2.1 ≤ n ∧ gOK (gL TK n i G).2.2 := by
  obtain ⟨o1, o2, o3, o4, o5, o6⟩ := hG
  have hi1 : i + 1 ≤ n := lt_end hE hi h0
  have sgn : ∀ p, p ≤ n → sgF TK p = 0 → p + 1 ≤ n := fun p hp q => lt_end hE hp (by rw [(sgF_0 q).2.1]; decide)
  unfold gL at h ⊢
  by_cases c1 : isWd TK 0 i 0
  · rw [cI_t c1] at h ⊢
    obtain ⟨e1, e2⟩ := cI_0 h (fun q => q)
    obtain ⟨a1, a2, a3, a4, a5, a6, a7, a8, a9, a10, a11⟩ := eF_0 e1
    have i2 : i + 2 ≤ n := lt_end hE hi1 (by rw [a2.1]; decide)
    have i3 : i + 3 ≤ n := lt_end hE i2 (by rw [a4.2.1]; decide)
    have i4 : i + 4 ≤ n := lt_end hE i3 (by rw [a5.2.1]; decide)
    have i5 : i + 5 ≤ n := lt_end hE i4 (by rw [a6.2.1]; decide)
    have i6 : i + 6 ≤ n := lt_end hE i5 (by rw [a8.2.1]; decide)
    have i7 : i + 7 ≤ n := lt_end hE i6 (by rw [a9.2.1]; decide)
    have i8 : i + 8 ≤ n := lt_end hE i7 (by rw [a10.2.1]; decide)
    have i9 : i + 9 ≤ n := lt_end hE i8 (by rw [a11.2.1]; decide)
    have i10 := sgn _ i9 e2
    refine ⟨show i < i + 10 by omega, i10, ?_⟩
    have hl : G.1.length < 7 := by omega
    refine ⟨by show (G.1 ++ [emN TK i]).length ≤ 7; rw [len_sn]; omega, fun e he => ?_, fun a b ha hb hab => ?_, o4, o5, o6⟩
    · have he' : e < G.1.length + 1 := by rw [← len_sn]; exact he
      show emOK ((G.1 ++ [emN TK i]).getD e em0)
      rw [getD_sn he']
      by_cases q : e = G.1.length
      · rw [if_pos q]
        exact ⟨((hB (i + 1)).2.2.2 a2.1).1, by have := a4.2.2; show (TK (i + 2)).2.2.1 - 12 < 4; omega, by have := a6.2.2.2; show (TK (i + 4)).2.2.1 < 12; omega, a9.2.2.2, a11.2.2.1, a11.2.2.2⟩
      · rw [if_neg q]; exact o2 e (by omega)
    · have ha' : a < G.1.length + 1 := by rw [← len_sn]; exact ha
      have hb' : b < G.1.length + 1 := by rw [← len_sn]; exact hb
      have hab' : ((G.1 ++ [emN TK i]).getD a em0).2.2.1 = ((G.1 ++ [emN TK i]).getD b em0).2.2.1 := hab
      rw [getD_sn ha', getD_sn hb'] at hab'
      by_cases qa : a = G.1.length
      · by_cases qb : b = G.1.length
        · omega
        · rw [if_pos qa, if_neg qb] at hab'
          exact absurd ⟨b, by omega, hab'.symm⟩ a7
      · by_cases qb : b = G.1.length
        · rw [if_neg qa, if_pos qb] at hab'
          exact absurd ⟨a, by omega, hab'⟩ a7
        · rw [if_neg qa, if_neg qb] at hab'
          exact o3 a b (by omega) (by omega) hab'
  rw [cI_f c1] at h ⊢
  by_cases c2 : isWd TK 4 i 0
  · rw [cI_t c2] at h ⊢
    by_cases d1 : ¬ G.2.1 = []
    · rw [cI_t d1] at h; exact absurd h (wrF_p (by decide))
    rw [cI_f d1] at h ⊢
    obtain ⟨e1, e2⟩ := cI_0 h (fun q => q)
    have g1 := dS_go hE 13 (i + 1) 0 rfl (by decide) hi1
    have g2 := dS_len (TK := TK) 13 (i + 1) 0 rfl (by decide)
    exact ⟨by show i < (dS TK 13 (i + 1) 0).2.1 + 1; omega, sgn _ g1.2.1 e2, o1, o2, o3, by show (dS TK 13 (i + 1) 0).2.2.length ≤ 12; omega, o5, o6⟩
  rw [cI_f c2] at h ⊢
  by_cases c3 : isWd TK 5 i 0
  · rw [cI_t c3] at h ⊢
    by_cases d1 : ¬ G.2.2.1 = 0
    · rw [cI_t d1] at h; exact absurd h (wrF_p (by decide))
    rw [cI_f d1] at h ⊢
    obtain ⟨e1, e2⟩ := cI_0 h (fun _ => wrF_p nmF_5.1)
    have i2 : i + 2 ≤ n := lt_end hE hi1 (by rw [e1.2.1]; decide)
    exact ⟨show i < i + 3 by omega, sgn _ i2 e2, o1, o2, o3, o4, e1.2.2.2, o6⟩
  rw [cI_f c3] at h ⊢
  by_cases c4 : isWd TK 6 i 0
  · rw [cI_t c4] at h ⊢
    by_cases d1 : ¬ G.2.2.2 = []
    · rw [cI_t d1] at h; exact absurd h (wrF_p (by decide))
    rw [cI_f d1] at h ⊢
    obtain ⟨e1, e2⟩ := cI_0 h (fun q => q)
    have hk9 : okR TK n (i + 1, 0, []) := ⟨hi1, show 0 < 100000 by decide, Nat.zero_le _⟩
    have hg := pJ_go hB hE _ _ _ _ _ hk9.1 hk9.2.1 (lawS_eq hB hE hk9.1 hk9.2.1)
    have hk3 := okR_go hk9 hg
    have hw := law_wf hB hE hi1 e1
    have hlt : i + 1 ≤ (lawS TK n (i + 1, 0, [])).1 := hg.1
    refine ⟨by show i < (lawS TK n (i + 1, 0, [])).1 + 1; omega, sgn _ hk3.1 e2, o1, o2, o3, o4, o5, Or.inr ⟨?_, hw⟩⟩
    have := hk3.1; have := hk3.2.2
    show (lawS TK n (i + 1, 0, [])).2.2.length ≤ 1000
    omega
  rw [cI_f c4] at h
  exact absurd h (wrF_p (by decide))
