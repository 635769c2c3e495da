/-! ===== the reference: all tokens ===== -/
/-- what a cut may change -/
def Cf (k h2 : AHP) : Prop := h2.2.2 = k.2.2 ∧ (∀ a, a ≠ 187 → h2.2.1 a = k.2.1 a) ∧ (∀ a, a ≠ 185 → a ≠ 186 → a ≠ 183 → h2.1 a = k.1 a) ∧ (∀ i, i ≠ 3 → i ≠ 7 → i ≠ 8 → h2.1 183 i = k.1 183 i)
theorem Cf.rf {k : AHP} : Cf k k := ⟨rfl, fun _ _ => rfl, fun _ _ _ _ => rfl, fun _ _ _ _ => rfl⟩
theorem Cf.std {k h2 : AHP} (h : Cf k h2) (hS : Std k) : Std h2 := ⟨by rw [h.1]; exact hS.1, fun q hq => by rw [h.1]; exact hS.2 q hq⟩
theorem Cf.tok {k h2 : AHP} {t : Nat} {x y : Int32} {z : Int64} (h : Cf k h2) : Cf k (sJ (sI (sI h2 186 t x) 185 t y) 187 t z) :=
  ⟨h.1, fun a ha => by rw [← h.2.1 a ha]; funext j; simp [sJ, sI, up2, ha], fun a h1 h2 h3 => by rw [← h.2.2.1 a h1 h2 h3]; funext j; simp [sJ, sI, up2, h1, h2], fun i h1 h2 h3 => by rw [← h.2.2.2 i h1 h2 h3]; simp [sJ, sI, up2]⟩
def TkR (h : AHP) (j : Nat) (t : Tk) : Prop := h.1 185 j = nI t.1 ∧ h.1 186 j = nI t.2.1 ∧ (t.1 = 1 → h.2.1 187 j = lN (n37 t.2.2.2.1)) ∧ ((t.1 = 2 ∨ t.1 = 3) → h.2.1 187 j = lN t.2.2.1)
theorem TkR.ne {h : AHP} {j t : Nat} {T : Tk} {x y : Int32} {z : Int64} (hj : j ≠ t) (hT : TkR h j T) : TkR (sJ (sI (sI h 186 t x) 185 t y) 187 t z) j T := by
  unfold TkR at hT ⊢
  simp only [sJ, sI, up2]
  simp [hj]
  exact hT
theorem tokN_blank {ch : Nat → Nat} {len i : Nat} (hi : i < len) (hB : iB (ch i) = true) : tokN ch len i = tokN ch len (i + 1) := by
  unfold tokN
  rw [show len - i = (len - (i + 1)) + 1 by omega, rnE, if_pos hB]
theorem tokN_at {ch : Nat → Nat} {len i : Nat} (hi : i < len) (hB : ¬ iB (ch i) = true) : tokN ch len i = tokA ch len i := by
  unfold tokN
  rw [show len - i = (len - (i + 1)) + 1 by omega, rnE, if_neg hB]
theorem tokN_len {ch : Nat → Nat} {len : Nat} : tokN ch len len = (0, len, 0, [], len) := by
  unfold tokN
  rw [Nat.sub_self, rnE]
  exact if_pos (Nat.le_refl _)
/-- all tokens stand -/
def Cut (h : AHP) (ch : Nat → Nat) (len n : Nat) : Prop := n ≤ len ∧ (tkT ch len n).1 = 0 ∧ (∀ j, j < n → ¬ (tkT ch len j).1 = 0) ∧ ∀ j, j ≤ n → TkR h j (tkT ch len j)
def CutQ (k : AHP) (ch : Nat → Nat) (len : Nat) (v : Option Value) (h2 : AHP) : Prop := v = none ∧ Cf k h2 ∧ (∃ n, Cut h2 ch len n) ∧ h2.1 183 3 = nI len ∧ h2.1 183 7 = 0 ∧ h2.1 183 8 = 0
theorem tcut_1 {k h : AHP} {ch : Nat → Nat} {len t i e s : Nat} {z : Int64} {u : Nat} {w : List Nat} (hk : Cf k h) (hi : i < len) (hB : ¬ iB (ch i) = true) (hA : tokN ch len i = tkT ch len t) (eA : tokA ch len i = (s, i, u, w, e)) (hs : ¬ s = 0)
  (hz1 : s = 1 → z = lN (n37 w)) (hz2 : (s = 2 ∨ s = 3) → z = lN u)
  (hT : ∀ j, j < t → TkR h j (tkT ch len j) ∧ ¬ (tkT ch len j).1 = 0) (hl : h.1 183 3 = nI len) :
  Cf k (sJ (sI (sI h 186 t (nI i)) 185 t (nI s)) 187 t z) ∧ tokN ch len e = tkT ch len (t + 1) ∧ (∀ j, j < t + 1 → TkR (sJ (sI (sI h 186 t (nI i)) 185 t (nI s)) 187 t z) j (tkT ch len j) ∧ ¬ (tkT ch len j).1 = 0) ∧ (sJ (sI (sI h 186 t (nI i)) 185 t (nI s)) 187 t z).1 183 3 = nI len := by
  have e1 : tkT ch len t = (s, i, u, w, e) := by rw [← hA, tokN_at hi hB, eA]
  refine ⟨hk.tok, ?_, fun j hj => ?_, ?_⟩
  · show _ = tokN ch len (posT ch len (t + 1))
    rw [posT_1, e1]
  · by_cases h1 : j = t
    · subst h1
      rw [e1]
      refine ⟨⟨?_, ?_, fun q => ?_, fun q => ?_⟩, hs⟩
      · simp [sJ, sI, up2]
      · simp [sJ, sI, up2]
      · rw [rdJ2]; exact hz1 q
      · rw [rdJ2]; exact hz2 q
    · have h2 := hT j (by omega)
      exact ⟨h2.1.ne h1, h2.2⟩
  · rw [← hl]; simp [sJ, sI, up2]
set_option maxRecDepth 8000 in
theorem lr_cut {d : Nat} {k : AHP} {ch : Nat → Nat} {len : Nat} (hSk : Std k) (hCk : CHr (k.1 184) ch len) (hlen : len ≤ 1000) : ∀ (n t i : Nat) (x3 x4 x5 x6 : Option Value) (h : AHP), len - i ≤ n → i ≤ len → t ≤ i → Cf k h → h.1 183 3 = nI len → tokN ch len i = tkT ch len t → (∀ j, j < t → TkR h j (tkT ch len j) ∧ ¬ (tkT ch len j).1 = 0) → TT (d + 2) 165 17 [some (.ref 183), some (.int (nI t)), some (.int (nI i)), x3, x4, x5, x6] [] h (CutQ k ch len) := by
  intro n
  induction n with
  | zero =>
    intro t i x3 x4 x5 x6 h hn hi hti hk hl hA hT
    have eN : i = len := by omega
    have hC : CHr (h.1 184) ch len := by rw [hk.2.2.1 184 (by decide) (by decide) (by decide)]; exact hCk
    refine lr_cutE (hk.std hSk) hC hlen hl (by omega) eN ?_
    have e1 : tkT ch len t = (0, len, 0, [], len) := by rw [← hA, eN, tokN_len]
    refine ⟨rfl, ⟨hk.1, fun a ha => hk.2.1 a ha, fun a h1 h2 h3 => ?_, fun j h2 h3 h4 => ?_⟩, ⟨t, by omega, by rw [e1], fun j hj => (hT j hj).2, fun j hj => ?_⟩, ?_, ?_, sI_eq⟩
    · rw [← hk.2.2.1 a h1 h2 h3]; funext j; simp [sI, up2, h1, h2, h3]
    · rw [← hk.2.2.2 j h2 h3 h4]; simp [sI, up2, h3, h4]
    · by_cases h1 : j = t
      · subst h1
        rw [e1]
        refine ⟨?_, ?_, fun q => (by cases q), fun q => (by rcases q with q | q <;> cases q)⟩
        · simp [sI, up2]; rfl
        · simp [sI, up2]
      · have h2 := (hT j (by omega)).1
        unfold TkR at h2 ⊢
        simp only [sI, up2]
        simp [h1]
        exact h2
    · rw [← hl]; simp [sI, up2]
    · simp [sI, up2]
  | succ n ih =>
    intro t i x3 x4 x5 x6 h hn hi hti hk hl hA hT
    rcases Nat.lt_or_ge i len with hi7 | hi7
    · have hC : CHr (h.1 184) ch len := by rw [hk.2.2.1 184 (by decide) (by decide) (by decide)]; exact hCk
      have hS := hk.std hSk
      have ht : t ≤ 1000 := by omega
      by_cases hB : iB (ch i) = true
      · refine lr_cutB hS hC hlen hl ht hi7 hB ?_
        exact ih t (i + 1) _ _ _ _ h (by omega) (by omega) (by omega) hk hl ((tokN_blank hi7 hB).symm.trans hA) hT
      · have hx := tokA_nx (ch := ch) (len := len) (q := i) hi
        by_cases hL : iL (ch i) = true
        · by_cases h8 : rnE iL ch (len - i) i - i ≤ 8
          · have eA : tokA ch len i = (1, i, kw (lts ch (rnE iL ch (len - i) i - i) i), lts ch (rnE iL ch (len - i) i - i) i, rnE iL ch (len - i) i) := by
              unfold tokA
              rw [if_neg (by omega), if_pos hL, if_pos h8]
            rw [eA] at hx
            have hq := tcut_1 (z := lN (n37 (lts ch (min (rnE iL ch (len - i) i - i) 8) i))) hk hi7 hB hA eA (by decide) (fun _ => by rw [Nat.min_eq_left h8]) (fun q => by rcases q with q | q <;> cases q) hT hl
            refine lr_cutL hS hC hlen hl ht hi7 hB hL rfl h8 ?_
            exact ih (t + 1) _ _ _ _ _ _ (by have := hx.2.2.2.1 hi7; dsimp only at this; omega) (by have := hx.2.1; exact this) (by have := hx.2.2.2.1 hi7; dsimp only at this; omega) hq.1 hq.2.2.2 hq.2.1 hq.2.2.1
          · have eA : tokA ch len i = (4, i, 0, [], rnE iL ch (len - i) i) := by
              unfold tokA
              rw [if_neg (by omega), if_pos hL, if_neg h8]
            rw [eA] at hx
            have hq := tcut_1 (z := lN (n37 (lts ch (min (rnE iL ch (len - i) i - i) 8) i))) hk hi7 hB hA eA (by decide) (fun q => by cases q) (fun q => by rcases q with q | q <;> cases q) hT hl
            refine lr_cutLb hS hC hlen hl ht hi7 hB hL rfl h8 ?_
            exact ih (t + 1) _ _ _ _ _ _ (by have := hx.2.2.2.1 hi7; dsimp only at this; omega) (by have := hx.2.1; exact this) (by have := hx.2.2.2.1 hi7; dsimp only at this; omega) hq.1 hq.2.2.2 hq.2.1 hq.2.2.1
        · by_cases hD : iD (ch i) = true
          · by_cases h8 : rnE iD ch (len - i) i - i ≤ 4
            · have eA : tokA ch len i = (2, i, numN ch (rnE iD ch (len - i) i - i) i 0, [], rnE iD ch (len - i) i) := by
                unfold tokA
                rw [if_neg (by omega), if_neg hL, if_pos hD, if_pos h8]
              rw [eA] at hx
              have hq := tcut_1 (z := lN (numN ch (min (rnE iD ch (len - i) i - i) 4) i 0)) hk hi7 hB hA eA (by decide) (fun q => by cases q) (fun _ => by rw [Nat.min_eq_left h8]) hT hl
              refine lr_cutD hS hC hlen hl ht hi7 hB hL hD rfl h8 ?_
              exact ih (t + 1) _ _ _ _ _ _ (by have := hx.2.2.2.1 hi7; dsimp only at this; omega) (by have := hx.2.1; exact this) (by have := hx.2.2.2.1 hi7; dsimp only at this; omega) hq.1 hq.2.2.2 hq.2.1 hq.2.2.1
            · have eA : tokA ch len i = (4, i, 0, [], rnE iD ch (len - i) i) := by
                unfold tokA
                rw [if_neg (by omega), if_neg hL, if_pos hD, if_neg h8]
              rw [eA] at hx
              have hq := tcut_1 (z := lN (numN ch (min (rnE iD ch (len - i) i - i) 4) i 0)) hk hi7 hB hA eA (by decide) (fun q => by cases q) (fun q => by rcases q with q | q <;> cases q) hT hl
              refine lr_cutDb hS hC hlen hl ht hi7 hB hL hD rfl h8 ?_
              exact ih (t + 1) _ _ _ _ _ _ (by have := hx.2.2.2.1 hi7; dsimp only at this; omega) (by have := hx.2.1; exact this) (by have := hx.2.2.2.1 hi7; dsimp only at this; omega) hq.1 hq.2.2.2 hq.2.1 hq.2.2.1
          · by_cases hG : iG (ch i) = true
            · have eA : tokA ch len i = (3, i, ch i, [], i + 1) := by
                unfold tokA
                rw [if_neg (by omega), if_neg hL, if_neg hD, if_pos hG]
              have hq := tcut_1 (z := lN (ch i)) hk hi7 hB hA eA (by decide) (fun q => by cases q) (fun _ => rfl) hT hl
              refine lr_cutS hS hC hlen hl ht hi7 hB hL hD hG ?_
              exact ih (t + 1) _ _ _ _ _ _ (by omega) (by omega) (by omega) hq.1 hq.2.2.2 hq.2.1 hq.2.2.1
            · have eA : tokA ch len i = (4, i, 0, [], i + 1) := by
                unfold tokA
                rw [if_neg (by omega), if_neg hL, if_neg hD, if_neg hG]
              have hq := tcut_1 (z := lN (ch i)) hk hi7 hB hA eA (by decide) (fun q => by cases q) (fun q => by rcases q with q | q <;> cases q) hT hl
              refine lr_cutSb hS hC hlen hl ht hi7 hB hL hD hG ?_
              exact ih (t + 1) _ _ _ _ _ _ (by omega) (by omega) (by omega) hq.1 hq.2.2.2 hq.2.1 hq.2.2.1
    · exact ih t i x3 x4 x5 x6 h (by omega) hi hti hk hl hA hT
set_option maxRecDepth 8000 in
theorem r_cutAll {d : Nat} {k : AHP} {ch : Nat → Nat} {len : Nat} (hS : Std k) (hC : CHr (k.1 184) ch len) (hlen : len ≤ 1000) (hl : k.1 183 2 = nI len) : MM (d + 2) 165 [.ref 183] k (fun v h2 => CutQ (sI k 183 2 0) ch len v h2) := by
  refine ⟨Nat.le_of_ble_eq_true rfl, ?_⟩
  refine t_go (op := o_aload 1 0) (fe_X12_cutAll 0) (fun _ _ => rfl) ?_
  refine t_go (op := o_aload 2 0) (fe_X12_cutAll 1) (fun _ _ => rfl) ?_
  refine t_go (op := o_getI 5 11 2) (fe_X12_cutAll 2) (g_getI hS (show (lay 183).1 = 11 by decide) (by decide)) ?_
  rw [hl]
  refine t_go (op := o_putI 8 11 3) (fe_X12_cutAll 5) (g_putI hS (show (lay 183).1 = 11 by decide) (by decide)) ?_
  refine t_go (op := o_aload 9 0) (fe_X12_cutAll 8) (fun _ _ => rfl) ?_
  refine t_go (op := o_ci 10 0) (fe_X12_cutAll 9) (fun _ _ => rfl) ?_
  refine t_go (op := o_putI 13 11 2) (fe_X12_cutAll 10) (g_putI hS (show (lay 183).1 = 11 by decide) (by decide)) ?_
  refine t_go (op := o_ci 14 0) (fe_X12_cutAll 13) (fun _ _ => rfl) ?_
  refine t_go (op := o_istore 15 1) (fe_X12_cutAll 14) (fun _ _ => rfl) ?_
  refine t_go (op := o_ci 16 0) (fe_X12_cutAll 15) (fun _ _ => rfl) ?_
  refine t_go (op := o_istore 17 2) (fe_X12_cutAll 16) (fun _ _ => rfl) ?_
  have hk : Cf (sI k 183 2 0) (sI (sI k 183 3 (nI len)) 183 2 0) := ⟨rfl, fun _ _ => rfl, fun a h1 h2 h3 => by rw [sI_ne h3, sI_ne h3, sI_ne h3], fun i h2 h3 h4 => by
    by_cases q : i = 2
    · subst q; rw [sI_eq, sI_eq]
    · rw [sI_nr q, sI_nr h2, sI_nr q]⟩
  exact lr_cut (k := sI k 183 2 0) hS (by rw [sI_ne (by decide)]; exact hC) hlen len 0 0 _ _ _ _ _ (by omega) (Nat.zero_le _) (Nat.le_refl _) hk (by rw [sI_nr (by decide)]; exact sI_eq) rfl (fun j hj => absurd hj (Nat.not_lt_zero j))
