/-! ===== the class holds what was read of a grate ===== -/
/-- the fire of the beginning -/
def BG (es : List Em) (F : FS) : Prop := (∀ e, e < 7 → F.1 e = (if e < es.length then nI (es.getD e em0).2.2.1 else -1) ∧ F.2.1 e = (if e < es.length then nI (es.getD e em0).2.2.2.1 else 0) ∧ F.2.2.1 e = (if e < es.length then nI (es.getD e em0).2.2.2.2 else 0)) ∧ (∀ c, c < 12 → (F.2.2.2.1 c = -1 ∧ ¬ uC es c) ∨ ∃ e, e < es.length ∧ F.2.2.2.1 c = nI e ∧ (es.getD e em0).2.2.1 = c) ∧ F.2.2.2.2.1 = 0 ∧ F.2.2.2.2.2 = 0
def esOK (es : List Em) : Prop := es.length ≤ 7 ∧ (∀ e, e < es.length → emOK (es.getD e em0)) ∧ ∀ a b, a < es.length → b < es.length → (es.getD a em0).2.2.1 = (es.getD b em0).2.2.1 → a = b
theorem FV_up {m m2 : Nat} {F : FS} (h : FV m F) (hm : m ≤ m2) : FV m2 F := by
  obtain ⟨a, b⟩ := h
  refine ⟨fun e he => ?_, b⟩
  rcases a e he with q | ⟨q1, q2⟩
  · exact Or.inl q
  · exact Or.inr ⟨by omega, q2⟩
theorem BG_FV {es : List Em} {F : FS} (ho : esOK es) (h : BG es F) : FV es.length F := by
  obtain ⟨o1, o2, o3⟩ := ho
  obtain ⟨b1, b2, b3, b4⟩ := h
  have cl : ∀ e, e < es.length → F.1 e = nI (es.getD e em0).2.2.1 := fun e he => by
    have := (b1 e (by omega)).1
    rw [if_pos he] at this
    exact this
  have cn : ∀ e, e < 7 → ¬ e < es.length → F.1 e = -1 := fun e h7 he => by
    have := (b1 e h7).1
    rw [if_neg he] at this
    exact this
  have clt : ∀ e, e < es.length → (es.getD e em0).2.2.1 < 12 := fun e he => (o2 e he).2.2.1
  refine ⟨fun e he => ?_, fun c hc => ?_, fun a b ha hb hab => ?_, Or.inl b4⟩
  · by_cases q : e < es.length
    · have := b1 e he
      rw [if_pos q, if_pos q, if_pos q] at this
      have k := o2 e q
      exact Or.inr ⟨q, _, _, _, k.2.2.1, k.2.2.2.1, k.2.2.2.2.1, k.2.2.2.2.2, this⟩
    · have := b1 e he
      rw [if_neg q, if_neg q, if_neg q] at this
      exact Or.inl this
  · rcases b2 c hc with ⟨q1, q2⟩ | ⟨e, q1, q2, q3⟩
    · refine Or.inl ⟨q1, fun e he q => ?_⟩
      by_cases w : e < es.length
      · rw [cl e w] at q
        exact q2 ⟨e, w, (nI_eq (by have := clt e w; omega) (by omega)).mp q⟩
      · rw [cn e he w] at q
        exact nI_m1 (c := c) (by omega) q.symm
    · exact Or.inr ⟨e, by omega, q2, by rw [cl e q1, q3]⟩
  · by_cases w : a < es.length
    · by_cases w2 : b < es.length
      · rw [cl a w, cl b w2] at hab
        exact Or.inr (o3 a b w w2 ((nI_eq (by have := clt a w; omega) (by have := clt b w2; omega)).mp hab))
      · rw [cl a w, cn b hb w2] at hab
        exact absurd hab (nI_m1 (by have := clt a w; omega))
    · exact Or.inl (cn a ha w)
theorem BG_0 {F : FS} (hV : FV 7 F) : BG [] (clearF F) := by
  have hP : FV 7 (it clearS 7 0 F) ∧ ∀ e, e < 7 → (it clearS 7 0 F).1 e = -1 := by
    have gen : ∀ (j i : Nat) (G : FS), i + j = 7 → FV 7 G → (∀ e, e < i → G.1 e = -1) → FV 7 (it clearS j i G) ∧ ∀ e, e < 7 → (it clearS j i G).1 e = -1 := by
      intro j
      induction j with
      | zero => intro i G h1 h2 h3; exact ⟨h2, fun e he => h3 e (by omega)⟩
      | succ j ih =>
        intro i G h1 h2 h3
        rw [it_step]
        have hi7 : i < 7 := by omega
        refine ih (i + 1) _ (by omega) (FV_take h2 hi7) (fun e he => ?_)
        show (takeOutF G (nI i)).1 e = -1
        by_cases hh : hasF G (nI i)
        · obtain ⟨_, c, x, y, hc, _, _, _, hce, _⟩ := FV_in h2 hi7 hh
          rw [takeOut_eq h2 hi7 hh hce hc]
          show (if e = i then (-1 : Int32) else G.1 e) = -1
          by_cases q : e = i
          · rw [if_pos q]
          · rw [if_neg q]; exact h3 e (by omega)
        · have e1 : takeOutF G (nI i) = G := if_neg hh
          rw [e1]
          by_cases q : e = i
          · rw [q]; exact (FV_out h2 hi7 hh).1
          · exact h3 e (by omega)
    exact gen 7 0 F rfl hV (fun e he => absurd he (Nat.not_lt_zero _))
  obtain ⟨h1, h2⟩ := hP
  refine ⟨fun e he => ?_, fun c hc => Or.inl ⟨?_, fun ⟨k, k1, _⟩ => absurd k1 (Nat.not_lt_zero _)⟩, rfl, rfl⟩
  · have hz : ¬ e < ([] : List Em).length := Nat.not_lt_zero _
    rw [if_neg hz, if_neg hz, if_neg hz]
    rcases h1.1 e he with q | ⟨_, c, x, y, hc, _, _, _, q, _⟩
    · exact q
    · rw [h2 e he] at q
      exact absurd q.symm (nI_m1 (by omega))
  · rcases h1.2.1 c hc with q | ⟨e, he, _, q⟩
    · exact q.1
    · rw [h2 e he] at q
      exact absurd q.symm (nI_m1 (by omega))
theorem BG_lay {es : List Em} {F : FS} {w : List Nat} {k c x y : Nat} (hl : es.length < 7) (hc : c < 12) (hu : ¬ uC es c) (h : BG es F) : BG (es ++ [(w, k, c, x, y)]) (layF F (nI es.length) (nI c) (nI x) (nI y)) := by
  obtain ⟨b1, b2, b3, b4⟩ := h
  have hfree : F.2.2.2.1 c = -1 := by
    rcases b2 c hc with q | ⟨e, q1, q2, q3⟩
    · exact q.1
    · exact absurd ⟨e, q1, q3⟩ hu
  have el : (nI es.length).toNatClampNeg = es.length := nI_clamp (by omega)
  have ec : (nI c).toNatClampNeg = c := nI_clamp (by omega)
  have cond : ¬ nI es.length < 0 ∧ ¬ 7 ≤ nI es.length ∧ freeF F (nI c) := ⟨nI_pos (by omega), fun q => by
    have := (nI_leI (a := 7) (b := es.length) (by decide) (by omega)).mp q
    omega, nI_pos (by omega), fun q => by
    have := (nI_leI (a := 12) (b := c) (by decide) (by omega)).mp q
    omega, by rw [ec]; exact hfree⟩
  have e0 : layF F (nI es.length) (nI c) (nI x) (nI y) = (fup F.1 es.length (nI c), fup F.2.1 es.length (nI x), fup F.2.2.1 es.length (nI y), fup F.2.2.2.1 c (nI es.length), F.2.2.2.2) := by
    unfold layF
    rw [if_pos cond, el, ec]
  rw [e0]
  refine ⟨fun e he => ?_, fun d hd => ?_, b3, b4⟩
  · rw [len_sn]
    show (if e = es.length then nI c else F.1 e) = _ ∧ (if e = es.length then nI x else F.2.1 e) = _ ∧ (if e = es.length then nI y else F.2.2.1 e) = _
    by_cases q : e = es.length
    · rw [if_pos q, if_pos q, if_pos q, if_pos (by omega), if_pos (by omega), if_pos (by omega), getD_sn (by omega), if_pos q]
      exact ⟨rfl, rfl, rfl⟩
    · rw [if_neg q, if_neg q, if_neg q]
      have := b1 e he
      by_cases q2 : e < es.length
      · rw [if_pos (by omega), if_pos (by omega), if_pos (by omega), getD_sn (by omega), if_neg q]
        rw [if_pos q2, if_pos q2, if_pos q2] at this
        exact this
      · rw [if_neg (by omega), if_neg (by omega), if_neg (by omega)]
        rw [if_neg q2, if_neg q2, if_neg q2] at this
        exact this
  · show ((if d = c then nI es.length else F.2.2.2.1 d) = -1 ∧ _) ∨ ∃ e, e < (es ++ [(w, k, c, x, y)]).length ∧ (if d = c then nI es.length else F.2.2.2.1 d) = nI e ∧ _
    by_cases q : d = c
    · rw [if_pos q]
      exact Or.inr ⟨es.length, by rw [len_sn]; omega, rfl, by rw [getD_sn (by omega), if_pos rfl]; exact q.symm⟩
    · rw [if_neg q]
      rcases b2 d hd with ⟨q1, q2⟩ | ⟨e, q1, q2, q3⟩
      · refine Or.inl ⟨q1, ?_⟩
        rintro ⟨e, e1, e2⟩
        rw [len_sn] at e1
        rw [getD_sn e1] at e2
        by_cases w2 : e = es.length
        · rw [if_pos w2] at e2; exact q e2.symm
        · rw [if_neg w2] at e2; exact q2 ⟨e, by omega, e2⟩
      · exact Or.inr ⟨e, by rw [len_sn]; omega, q2, by rw [getD_sn (by omega), if_neg (by omega)]; exact q3⟩
/-- what the class changes while it reads a grate -/
def KGf (h0 h : AHP) (g : Nat) : Prop := h.2.2.2 = h0.2.2.2 ∧ (∀ a i, ¬ (a = 2 ∧ i = 6) → h.2.2.1 a i = h0.2.2.1 a i) ∧ (∀ a, a ≠ 2 → a ≠ g + 1 → h.2.1 a = h0.2.1 a) ∧ (∀ a, a ≠ 2 → a ≠ 4 → (a < g ∨ g + 12 < a) → h.1 a = h0.1 a) ∧ h.1 2 1 = h0.1 2 1
theorem KGf.rf {h : AHP} {g : Nat} : KGf h h g := ⟨rfl, fun _ _ _ => rfl, fun _ _ _ => rfl, fun _ _ _ _ => rfl, rfl⟩
theorem KGf.std {h0 h : AHP} {g : Nat} (h1 : KGf h0 h g) (hS : Std h0) : Std h := ⟨by rw [h1.1]; exact hS.1, fun q hq => by rw [h1.2.1 _ _ (fin_key q hq)]; exact hS.2 q hq⟩
theorem KGf.T {h0 h h2 : AHP} {g : Nat} (h1 : KGf h0 h g) (hT : Tf h h2) : KGf h0 h2 g := ⟨hT.1.trans h1.1, fun a i q => (hT.2.1 a i q).trans (h1.2.1 a i q), fun a q q2 => (hT.2.2.1 a q).trans (h1.2.2.1 a q q2), fun a q1 q2 q3 => (hT.2.2.2.1 a q1).trans (h1.2.2.2.1 a q1 q2 q3), hT.2.2.2.2.trans h1.2.2.2.2⟩
theorem KGf.wr {h0 h : AHP} {g : Nat} {x : Int32} (h1 : KGf h0 h g) : KGf h0 (sI h 4 1 x) g := ⟨h1.1, h1.2.1, h1.2.2.1, fun a q1 q2 q3 => by rw [sI_ne q2]; exact h1.2.2.2.1 a q1 q2 q3, by rw [sI_ne (by decide)]; exact h1.2.2.2.2⟩
theorem KGf.K {h0 h h2 : AHP} {g : Nat} (h1 : KGf h0 h g) (hK : Kf h h2 (g + 8)) : KGf h0 h2 g := ⟨hK.1.trans h1.1, fun a i q => (hK.2.1 a i q).trans (h1.2.1 a i q), fun a q q2 => (hK.2.2.1 a q).trans (h1.2.2.1 a q q2), fun a q1 q2 q3 => (hK.2.2.2.1 a q1 q2 (by omega) (by omega)).trans (h1.2.2.2.1 a q1 q2 q3), hK.2.2.2.2.trans h1.2.2.2.2⟩
def KGe (h : AHP) (g : Nat) (es : List Em) : Prop := h.1 g 4 = nI es.length ∧ (∀ e, e < es.length → h.2.1 (g + 1) e = lN (n32 (es.getD e em0).1) ∧ h.1 (g + 2) e = nI (es.getD e em0).2.1) ∧ BG es (fs h (g + 3))
def KGd (h : AHP) (g : Nat) (ds : List Nat) : Prop := h.1 g 7 = nI ds.length ∧ ∀ j, j < ds.length → h.1 (g + 12) j = nI (ds.getD j 0)
def KGc (h : AHP) (g c : Nat) : Prop := h.1 g 5 = nI (if c = 0 then 5 else c) ∧ h.1 g 6 = nI (if c = 0 then 0 else 1)
def KGl (h : AHP) (g : Nat) (cs : List (Nat × Nat)) : Prop := h.1 (g + 8) 3 = nI cs.length ∧ ∀ j, j < cs.length → h.1 (g + 9) j = stp (cs.getD j (0, 0))
def KG (h : AHP) (g : Nat) (G : GS) : Prop := KGe h g G.1 ∧ KGd h g G.2.1 ∧ KGc h g G.2.2.1 ∧ KGl h g G.2.2.2
def KGs (h0 h : AHP) (g : Nat) (ch : Nat → Nat) (len i : Nat) (G : GS) : Prop := KGf h0 h g ∧ CU h ch len i ∧ KG h g G
def KGF (h0 h : AHP) (g F : Nat) : Prop := KGf h0 h g ∧ h.1 4 1 = nI F ∧ FV 7 (fs h (g + 3))
theorem KG_rows {h h2 : AHP} {g : Nat} {G : GS} (e1 : ∀ a, g ≤ a → a ≤ g + 12 → h2.1 a = h.1 a) (e2 : h2.2.1 (g + 1) = h.2.1 (g + 1)) (hg : KG h g G) : KG h2 g G := by
  unfold KG KGe KGd KGc KGl at hg ⊢
  rw [e1 g (by omega) (by omega), e1 (g + 2) (by omega) (by omega), e1 (g + 8) (by omega) (by omega), e1 (g + 9) (by omega) (by omega), e1 (g + 12) (by omega) (by omega), e2, show fs h2 (g + 3) = fs h (g + 3) from fs_rows fun a q1 q2 => e1 a (by omega) (by omega)]
  exact hg
theorem KGs_T {h0 h h2 : AHP} {g : Nat} {ch : Nat → Nat} {len i : Nat} {G : GS} (hg5 : 5 ≤ g) (hs : KGs h0 h g ch len i G) (hT : Tf h h2) (hC : CU h2 ch len (i + 1)) : KGs h0 h2 g ch len (i + 1) G := ⟨hs.1.T hT, hC, KG_rows (fun a q1 _ => hT.2.2.2.1 a (by omega)) (hT.2.2.1 _ (by omega)) hs.2.2⟩
theorem KGF_w {h0 h : AHP} {g F : Nat} {ch : Nat → Nat} {len i : Nat} {G : GS} (hg5 : 5 ≤ g) (hs : KGs h0 h g ch len i G) (ho : gOK G) : KGF h0 (sI h 4 1 (nI F)) g F := by
  refine ⟨hs.1.wr, sI_eq, ?_⟩
  rw [show fs (sI h 4 1 (nI F)) (g + 3) = fs h (g + 3) from fs_rows fun a q1 q2 => sI_ne (by omega)]
  exact FV_up (BG_FV ⟨ho.1, ho.2.1, ho.2.2.1⟩ hs.2.2.1.2.2) ho.1
