/-! ===== bridges: both ways of asking are one ===== -/
theorem sus_eq {h : AHP} {g n m tn s : Nat} (hTV : TV m tn (h.1 11) (h.1 12) (h.1 13)) : fitP h g n tn s 13 ↔ susP h g n (fs h 5) tn (h.1 11) (h.1 12) (h.1 13) s := by
  constructor
  · rintro ⟨h1, h2⟩
    refine ⟨h1, fun k hk => ?_⟩
    obtain ⟨q, hq, eq⟩ := (hTV.2 k hk).2.1
    have h3 := h2 q (by omega) k hk eq
    unfold fitK
    rw [eq, nI_clamp (by omega)]
    exact h3
  · rintro ⟨h1, h2⟩
    refine ⟨h1, fun a ha k hk e => ?_⟩
    have h3 := h2 k hk
    unfold fitK at h3
    rw [e, nI_clamp (by omega)] at h3
    exact h3
theorem sus_it {h : AHP} {g n m tn : Nat} (hTV : TV m tn (h.1 11) (h.1 12) (h.1 13)) : it (susS h g n tn) 7 0 0 = it (susG h g n (fs h 5) tn (h.1 11) (h.1 12) (h.1 13)) 7 0 0 :=
  setB_ext (P := fun s => fitP h g n tn s 13) (Q := susP h g n (fs h 5) tn (h.1 11) (h.1 12) (h.1 13)) fun a _ => sus_eq hTV
/-! ===== the best of sets ===== -/
def cB (t : Nat) : Nat := cntN (bt (nI t)) 12
theorem cB_bc {t : Nat} (h : t < 4096) : bcI (nI t) = nI (cB t) := bc_eq (n_bits h)
theorem cB_le {t : Nat} : cB t ≤ 12 := cnt_le 12
theorem bc_leI {a b : Nat} (ha : a < 4096) (hb : b < 4096) : bcI (nI a) ≤ bcI (nI b) ↔ cB a ≤ cB b := by
  rw [cB_bc ha, cB_bc hb]
  exact nI_leI (by have := cB_le (t := a); omega) (by have := cB_le (t := b); omega)
theorem kin_at {V : Nat → Prop} : ∀ i, i ≤ 128 → (it (kinI V) i 0 (-1) = -1 ∧ ∀ t, t < i → ¬ V t) ∨ ∃ b, b < i ∧ it (kinI V) i 0 (-1) = nI b ∧ V b ∧ ∀ t, t < i → V t → cB b < cB t ∨ (cB b = cB t ∧ b ≤ t) := by
  intro i
  induction i with
  | zero => intro _; exact Or.inl ⟨rfl, fun t h => by omega⟩
  | succ i ih =>
    intro hi
    rw [it_snoc]
    rcases ih (by omega) with ⟨h1, h2⟩ | ⟨b, hb, h1, h2, h3⟩
    · rw [h1]
      by_cases hV : V i
      · refine Or.inr ⟨i, by omega, if_pos ⟨hV, Or.inl (by decide)⟩, hV, fun t ht hv => ?_⟩
        rcases Nat.lt_or_ge t i with q | q
        · exact absurd hv (h2 t q)
        · exact Or.inr ⟨by rw [show t = i by omega], by omega⟩
      · refine Or.inl ⟨if_neg fun q => hV q.1, fun t ht => ?_⟩
        rcases Nat.lt_or_ge t i with q | q
        · exact h2 t q
        · rw [show t = i by omega]; exact hV
    · rw [h1]
      have hle := bc_leI (a := b) (b := i) (by omega) (by omega)
      by_cases hV : V i ∧ ¬ cB b ≤ cB i
      · refine Or.inr ⟨i, by omega, if_pos ⟨hV.1, Or.inr (fun q => hV.2 (hle.mp q))⟩, hV.1, fun t ht hv => ?_⟩
        rcases Nat.lt_or_ge t i with q | q
        · rcases h3 t q hv with h4 | h4 <;> exact Or.inl (by have := hV.2; omega)
        · exact Or.inr ⟨by rw [show t = i by omega], by omega⟩
      · refine Or.inr ⟨b, by omega, if_neg fun q => hV ⟨q.1, fun z => (q.2.elim (fun w => nI_pos (by omega) w) fun w => w (hle.mpr z))⟩, h2, fun t ht hv => ?_⟩
        rcases Nat.lt_or_ge t i with q | q
        · exact h3 t q hv
        · have e : t = i := by omega
          subst e
          have h5 : cB b ≤ cB t := Classical.byContradiction fun z => hV ⟨hv, z⟩
          rcases Nat.lt_or_eq_of_le h5 with h6 | h6
          · exact Or.inl h6
          · exact Or.inr ⟨h6, by omega⟩
theorem ser_n {P : Nat → Prop} : ∀ (j i : Nat), ser P j i = none → ∀ t, i ≤ t → t < i + j → ¬ P t := by
  intro j
  induction j with
  | zero => intro i _ t h1 h2; omega
  | succ j ih =>
    intro i h t h1 h2
    rw [ser] at h
    by_cases hp : P i
    · rw [if_pos hp] at h; cases h
    · rw [if_neg hp] at h
      by_cases e : t = i
      · rw [e]; exact hp
      · exact ih (i + 1) h t (by omega) (by omega)
theorem ser_s {P : Nat → Prop} : ∀ (j i u : Nat), ser P j i = some u → i ≤ u ∧ u < i + j ∧ P u ∧ ∀ t, i ≤ t → t < u → ¬ P t := by
  intro j
  induction j with
  | zero => intro i u h; cases h
  | succ j ih =>
    intro i u h
    rw [ser] at h
    by_cases hp : P i
    · rw [if_pos hp] at h
      cases h
      exact ⟨Nat.le_refl _, by omega, hp, fun t h1 h2 => by omega⟩
    · rw [if_neg hp] at h
      obtain ⟨h1, h2, h3, h4⟩ := ih (i + 1) u h
      refine ⟨by omega, by omega, h3, fun t h5 h6 => ?_⟩
      by_cases e : t = i
      · rw [e]; exact hp
      · exact h4 t (by omega) h6
theorem ser2_n {P : Nat → Nat → Prop} {N : Nat} : ∀ (j i : Nat), ser2 P N j i = none → ∀ z, i ≤ z → z < i + j → ∀ t, t < N → ¬ P z t := by
  intro j
  induction j with
  | zero => intro i _ z h1 h2; omega
  | succ j ih =>
    intro i h z h1 h2 t ht
    rw [ser2] at h
    cases hs : ser (P i) N 0 with
    | some u => rw [hs] at h; cases h
    | none =>
      rw [hs] at h
      by_cases e : z = i
      · rw [e]; exact ser_n N 0 hs t (by omega) (by omega)
      · exact ih (i + 1) h z (by omega) (by omega) t ht
theorem ser2_s {P : Nat → Nat → Prop} {N : Nat} : ∀ (j i u : Nat), ser2 P N j i = some u → ∃ z, i ≤ z ∧ z < i + j ∧ u < N ∧ P z u ∧ (∀ t, t < u → ¬ P z t) ∧ ∀ y, i ≤ y → y < z → ∀ t, t < N → ¬ P y t := by
  intro j
  induction j with
  | zero => intro i u h; cases h
  | succ j ih =>
    intro i u h
    rw [ser2] at h
    cases hs : ser (P i) N 0 with
    | some w =>
      rw [hs] at h
      cases h
      obtain ⟨h1, h2, h3, h4⟩ := ser_s N 0 _ hs
      exact ⟨i, Nat.le_refl _, by omega, by omega, h3, fun t ht => h4 t (by omega) ht, fun y h5 h6 => by omega⟩
    | none =>
      rw [hs] at h
      obtain ⟨z, h1, h2, h3, h4, h5, h6⟩ := ih (i + 1) u h
      refine ⟨z, by omega, by omega, h3, h4, h5, fun y h7 h8 t ht => ?_⟩
      by_cases e : y = i
      · rw [e]; exact ser_n N 0 hs t (by omega) (by omega)
      · exact h6 y (by omega) h8 t ht
theorem kin_eq {V : Nat → Prop} {P : Nat → Nat → Prop} {N Z : Nat} (hN : N ≤ 128) (hP : ∀ z t, t < 128 → z < Z → (P z t ↔ (t < N ∧ V t) ∧ cB t = z)) (hZ : ∀ t, t < N → V t → cB t < Z) : it (kinI V) N 0 (-1) = serV (ser2 P 128 Z 0) := by
  cases hs : ser2 P 128 Z 0 with
  | none =>
    have h1 := ser2_n Z 0 hs
    rcases kin_at (V := V) N hN with ⟨h2, _⟩ | ⟨b, hb, _, h3, _⟩
    · exact h2
    · exact absurd ((hP (cB b) b (by omega) (hZ b hb h3)).mpr ⟨⟨hb, h3⟩, rfl⟩) (h1 (cB b) (by omega) (by have := hZ b hb h3; omega) b (by omega))
  | some u =>
    obtain ⟨z, _, hz, hu, h1, h2, h3⟩ := ser2_s Z 0 u hs
    obtain ⟨⟨hu2, hv⟩, hc⟩ := (hP z u hu (by omega)).mp h1
    rcases kin_at (V := V) N hN with ⟨_, h4⟩ | ⟨b, hb, h5, h6, h7⟩
    · exact absurd hv (h4 u hu2)
    · rw [h5]
      show nI b = nI u
      have hbz := hZ b hb h6
      have e : b = u := by
        rcases h7 u hu2 hv with h8 | ⟨h8, h9⟩
        · exact absurd ((hP (cB b) b (by omega) hbz).mpr ⟨⟨hb, h6⟩, rfl⟩) (h3 (cB b) (by omega) (by omega) b (by omega))
        · rcases Nat.lt_or_eq_of_le h9 with h10 | h10
          · exact absurd ((hP z b (by omega) (by omega)).mpr ⟨⟨hb, h6⟩, by omega⟩) (h2 b h10)
          · exact h10
      rw [e]
/-! ===== none comes again ===== -/
theorem has_carry {G : FS} {x c : Int32} {e : Nat} (he : e < 7) (h : hasF (carryF G x c) (nI e)) : hasF G (nI e) := by
  by_cases hh : hasF G x ∧ freeF G c
  · rw [carryF, if_pos hh] at h
    by_cases hx : x.toNatClampNeg = e
    · have h1 := hh.1
      unfold hasF at h1 ⊢
      rw [hx] at h1
      rw [nI_clamp (by omega)]
      exact ⟨nI_pos (by omega), nI_ge (b := 7) he (by decide), h1.2.2⟩
    · unfold hasF at h ⊢
      rw [nI_clamp (by omega)] at h ⊢
      have e1 : fup G.1 x.toNatClampNeg c e = G.1 e := fup_ne (fun q => hx q.symm)
      have h2 := h.2.2
      dsimp only at h2
      rw [e1] at h2
      exact ⟨h.1, h.2.1, h2⟩
  · rw [carryF, if_neg hh] at h; exact h
theorem has_falls {e : Nat} (he : e < 7) : ∀ (j i : Nat) (G : FS), hasF (it fallS j i G) (nI e) → hasF G (nI e) := by
  intro j
  induction j with
  | zero => intro i G h; exact h
  | succ j ih => intro i G h; rw [it_step] at h; exact has_carry he (ih (i + 1) _ h)
theorem has_burn {K : Nat → Int32} {lit : Int32} {e : Nat} (he : e < 7) : ∀ (j i : Nat) (s : FS × Int32), i + j ≤ 7 → hasF (it (burnS K lit) j i s).1 (nI e) → hasF s.1 (nI e) := by
  intro j
  induction j with
  | zero => intro i s _ h; exact h
  | succ j ih =>
    intro i s hi h
    rw [it_step] at h
    have h1 := ih (i + 1) _ (by omega) h
    unfold burnS at h1
    split at h1
    · split at h1
      · exact (hasF_cg he (by rw [burn1_eq (by omega)])).mp h1
      · exact (hasF_cg he (by rw [burn1_eq (show i < 7 by omega)])).mp (has_take (by omega) he h1)
    · exact h1
theorem has_warm {L : Int32 → Int32 → Int32 → Int32 → Int32} {lc dc air : Int32} : ∀ (j i : Nat) (G : FS), (it (warmS L lc dc air) j i G).1 = G.1 := by
  intro j
  induction j with
  | zero => intro i G; rfl
  | succ j ih =>
    intro i G
    rw [it_step, ih]
    unfold warmS
    split <;> rfl
theorem has_pass {L : Int32 → Int32 → Int32 → Int32 → Int32} {K : Nat → Int32} {C air : Int32} {F : FS} {e : Nat} (he : e < 7) (h : hasF (passF L K C air F).1 (nI e)) : hasF F (nI e) := by
  have h1 : hasF (it fallS 8 4 (it (burnS K (litB F K C)) 7 0 (warmF L K (litB F K C) air F, 0)).1) (nI e) := (hasF_cg he rfl).mp h
  have h2 := has_burn he 7 0 _ (by omega) (has_falls he 8 4 _ h1)
  exact (hasF_cg he (by unfold warmF; rw [has_warm])).mp h2
theorem glow_in {h : AHP} {g n e : Nat} (he : e < 7) : ∀ (j i : Nat) (s : Int32 × FS) (G : FS), (∀ F2, F2 = s.2 → hasF F2 (nI e) → hasF G (nI e)) → bt (it (glowS h g n) j i s).1 e = true → bt s.1 e = true ∨ (hasF G (nI e) ∧ ¬ h.1 (g + 2) (nI e).toNatClampNeg = 3) := by
  intro j
  induction j with
  | zero => intro i s G _ hb; exact Or.inl hb
  | succ j ih =>
    intro i s G hG hb
    rw [it_step] at hb
    have hh : ∀ F2, F2 = HF h g n s.2 → hasF F2 (nI e) → hasF G (nI e) := fun F2 e2 q => hG s.2 rfl (has_pass he (by rw [e2] at q; exact q))
    rcases ih (i + 1) _ G hh hb with h1 | h1
    · unfold glowS at h1
      rw [b_or, Bool.or_eq_true] at h1
      rcases h1 with h1 | h1
      · exact Or.inl h1
      · have h2 := (litB_bit he).mp ((bitI_bt (by omega)).mpr h1)
        exact Or.inr ⟨hG s.2 rfl (has_pass he h2.1), h2.2.2⟩
    · exact Or.inr h1
theorem glow_bits {h : AHP} {g n e : Nat} {F : FS} (he : e < 32) (hb : bt (glowV h g n F) e = true) : e < 7 ∧ hasF F (nI e) ∧ ¬ h.1 (g + 2) (nI e).toNatClampNeg = 3 := by
  have h7 : e < 7 := by
    have : ∀ (j i : Nat) (s : Int32 × FS), bt (it (glowS h g n) j i s).1 e = true → bt s.1 e = true ∨ e < 7 := by
      intro j
      induction j with
      | zero => intro i s q; exact Or.inl q
      | succ j ih =>
        intro i s q
        rw [it_step] at q
        rcases ih (i + 1) _ q with h1 | h1
        · unfold glowS at h1
          rw [b_or, Bool.or_eq_true] at h1
          rcases h1 with h1 | h1
          · exact Or.inl h1
          · rw [show litH h g n (HF h g n s.2) = setB (glP (HF h g n s.2) (h.1 (g + 2)) (h.1 g 5)) from rfl, setB_bt he, Bool.and_eq_true] at h1
            exact Or.inr (of_decide_eq_true h1.1)
        · exact Or.inr h1
    rcases this 12 0 _ hb with h1 | h1
    · have h2 : bt (litH h g n F) e = true := h1
      rw [show litH h g n F = setB (glP F (h.1 (g + 2)) (h.1 g 5)) from rfl, setB_bt he, Bool.and_eq_true] at h2
      exact of_decide_eq_true h2.1
    · exact h1
  refine ⟨h7, ?_⟩
  rcases glow_in h7 12 0 (litH h g n F, F) F (fun F2 e2 q => by rw [e2] at q; exact q) hb with h1 | h1
  · have h2 := (litB_bit h7).mp ((bitI_bt (by omega)).mpr h1)
    exact ⟨h2.1, h2.2.2⟩
  · exact h1
theorem bit_lt {m t : Nat} (h : ∀ a, a < 32 → bt (nI t) a = true → a < m) (ht : t < 128) (hm : m ≤ 7) : t < 2 ^ m := by
  have h1 : ∀ q, q < 8 → ∀ t, t < 128 → (∀ a, a < 7 → q ≤ a → bt (nI t) a = false) → t < 2 ^ q := by decide +kernel
  refine h1 m (by omega) t ht fun a ha hq => ?_
  cases hb : bt (nI t) a with
  | false => rfl
  | true => have := h a (by omega) hb; omega
theorem cB_8 : ∀ t, t < 128 → cB t < 8 := by decide +kernel
theorem cB_7 : ∀ t, t < 128 → ∀ e, e < 7 → bt (nI t) e = false → cB t < 7 := by decide +kernel
theorem nI_c {a b : Nat} (ha : a ≤ 12) (hb : b ≤ 12) : nI a = nI b ↔ a = b := nI_eq (by omega) (by omega)
theorem kindle_eq {h : AHP} {g n m : Nat} {F : FS} (hV : FV m F) (hm : m ≤ 7) (hF : fs h 5 = F) : it (kinI (fun t => nI t &&& (it (burnB F (h.1 (g + 2))) 7 0 0 ^^^ -1) = 0 ∧ it (burnB F (h.1 (g + 2))) 7 0 0 &&& (glowV h g n (it (fullS (nI t)) 7 0 F) ^^^ -1) = 0)) (2 ^ m) 0 (-1) = serV (ser2 (litP h g n (it (burnB F (h.1 (g + 2))) 7 0 0)) 128 8 0) := by
  have h27 : 2 ^ m ≤ 128 := Nat.pow_le_pow_right (show 0 < 2 by decide) hm
  refine kin_eq h27 (fun z t ht hz => ?_) (fun t ht _ => cB_8 t (by omega))
  unfold litP
  rw [cB_bc (by omega), hF, nI_c cB_le (by omega)]
  have hg : glowV h g n (it (fullS (nI t)) 7 0 F) = it (burnB F (h.1 (g + 2))) 7 0 0 ↔ it (burnB F (h.1 (g + 2))) 7 0 0 &&& (glowV h g n (it (fullS (nI t)) 7 0 F) ^^^ -1) = 0 := by
    rw [sub_iff]
    constructor
    · intro e a _ hb; rw [e]; exact hb
    · intro hs
      refine b_ext fun a ha => ?_
      cases hb : bt (it (burnB F (h.1 (g + 2))) 7 0 0) a with
      | true => exact hs a ha hb
      | false =>
        cases hc : bt (glowV h g n (it (fullS (nI t)) 7 0 F)) a with
        | false => rfl
        | true =>
          obtain ⟨h7, h8, h9⟩ := glow_bits ha hc
          have h10 : hasF F (nI a) := (hasF_cg h7 (by rw [(full_it 7 0 F).1])).mp h8
          rw [show it (burnB F (h.1 (g + 2))) 7 0 0 = setB (fun e => hasF F (nI e) ∧ ¬ h.1 (g + 2) (nI e).toNatClampNeg = 3) from rfl, setB_bt ha, decide_eq_true h7, dcd_t ⟨h10, h9⟩] at hb
          cases hb
  constructor
  · rintro ⟨h1, h2, h3⟩
    exact ⟨⟨bit_lt (fun a ha hb => (burn_may hV a ha (sub_bit h1 ha hb)).1) ht hm, h1, hg.mp h3⟩, h2⟩
  · rintro ⟨⟨_, h1, h3⟩, h2⟩
    exact ⟨h1, h2, hg.mpr h3⟩
theorem save_eq {h : AHP} {g n m e : Nat} {F : FS} (hV : FV m F) (hm : m ≤ 7) (he : e < m) (hF : fs h 5 = F) : it (kinI (fun t => nI t &&& ((it (hereS F) 7 0 0 &&& ((1 <<< (nI e &&& 31)) ^^^ -1)) ^^^ -1) = 0 ∧ (glowV h g n (it (takeS (nI t)) 7 0 F) >>> (nI e &&& 31)) &&& 1 = 0)) (2 ^ m) 0 (-1) = serV (ser2 (takeP h g n (it (hereS F) 7 0 0 &&& ((1 <<< (nI e &&& 31)) ^^^ -1)) (nI e)) 128 7 0) := by
  have h27 : 2 ^ m ≤ 128 := Nat.pow_le_pow_right (show 0 < 2 by decide) hm
  have hb1 : ∀ t, nI t &&& ((it (hereS F) 7 0 0 &&& ((1 <<< (nI e &&& 31)) ^^^ -1)) ^^^ -1) = 0 → ∀ a, a < 32 → bt (nI t) a = true → a < m ∧ ¬ a = e := by
    intro t h1 a ha hb
    have h2 := sub_bit h1 ha hb
    rw [b_and, Bool.and_eq_true, b_xor, b_m1 a ha, b_one (by omega) ha] at h2
    refine ⟨(here_may hV a ha h2.1).1, fun q => ?_⟩
    rw [decide_eq_true q] at h2
    exact absurd h2.2 (by decide)
  refine kin_eq h27 (fun z t ht hz => ?_) (fun t ht hv => cB_7 t (by omega) e (by omega) ?_)
  · unfold takeP
    rw [cB_bc (by omega), hF, nI_c cB_le (by omega)]
    constructor
    · rintro ⟨h1, h2, h3⟩
      exact ⟨⟨bit_lt (fun a ha hb => (hb1 t h1 a ha hb).1) ht hm, h1, h3⟩, h2⟩
    · rintro ⟨⟨_, h1, h3⟩, h2⟩
      exact ⟨h1, h2, h3⟩
  · cases hb : bt (nI t) e with
    | false => rfl
    | true => exact absurd rfl (hb1 t hv.1 e (by omega) hb).2
/-! ===== look, chance, the rest ===== -/
theorem look_eq {h : AHP} {g n m tn q : Nat} {R : Nat → Int32} (hTV : TV m tn (h.1 11) (h.1 12) (h.1 13)) (hR : ∀ t, t < 7 → fitP h g n tn t 13 → R t = litH h g n (HN h g n q (Fsus h t))) : ∀ (j i : Nat) (s : Int32 × Int32), it (lookS R (it (susS h g n tn) 7 0 0)) j i s = it (lookS (lookR h g n (fs h 5) q) (it (susG h g n (fs h 5) tn (h.1 11) (h.1 12) (h.1 13)) 7 0 0)) j i s := by
  rw [sus_it hTV]
  have hA : ∀ e, it (lookA R (it (susG h g n (fs h 5) tn (h.1 11) (h.1 12) (h.1 13)) 7 0 0) e) 7 0 0 = it (lookA (lookR h g n (fs h 5) q) (it (susG h g n (fs h 5) tn (h.1 11) (h.1 12) (h.1 13)) 7 0 0) e) 7 0 0 := by
    intro e
    refine it_ext 7 0 0 fun t s _ h2 => ?_
    by_cases hb : bitI (it (susG h g n (fs h 5) tn (h.1 11) (h.1 12) (h.1 13)) 7 0 0) (nI t)
    · have h3 : susP h g n (fs h 5) tn (h.1 11) (h.1 12) (h.1 13) t := (setB_bit (P := susP h g n (fs h 5) tn (h.1 11) (h.1 12) (h.1 13)) (by omega)).mp hb
      rw [lookA_t (by omega) hb, lookA_t (by omega) hb, hR t (by omega) ((sus_eq hTV).mpr h3)]
      rfl
    · rw [lookA_f hb, lookA_f hb]
  intro j i s
  refine it_ext j i s fun t s _ _ => ?_
  have hG : lookG R (it (susG h g n (fs h 5) tn (h.1 11) (h.1 12) (h.1 13)) 7 0 0) t = lookG (lookR h g n (fs h 5) q) (it (susG h g n (fs h 5) tn (h.1 11) (h.1 12) (h.1 13)) 7 0 0) t := by
    unfold lookG
    rw [hA t]
  unfold lookS
  rw [hG]
theorem mil_eq {h : AHP} {g n od e q : Nat} (ho : od ≤ 10) : ∀ (j i s : Nat), it (milS h g n (nI od) (nI e) q) j i (nI s) = nI (it (milN h g n (fs h 5) od e q) j i s) := by
  intro j
  induction j with
  | zero => intro i s; rfl
  | succ j ih =>
    intro i s
    rw [it_step, it_step]
    have e1 : chV h g n (nI od) q i = (nI (chE h g n (fs h 5) od q i).1, (chE h g n (fs h 5) od q i).2) := ch_eq ho q 0 1 (fs h 5)
    have e2 : milS h g n (nI od) (nI e) q i (nI s) = nI (milN h g n (fs h 5) od e q i s) := by
      unfold milS milN
      rw [e1]
      by_cases hb : bitI (litH h g n (chE h g n (fs h 5) od q i).2) (nI e)
      · rw [if_pos hb, if_pos hb]; exact nI_add _ _
      · rw [if_neg hb, if_neg hb]
    rw [e2]
    exact ih (i + 1) _
theorem lasts41 {h : AHP} {g n : Nat} {F : FS} : (if lastsV h g n (-1) 41 0 F = 41 then -1 else lastsV h g n (-1) 41 0 F) = lastsE (lastsV h g n (-1) 41 0 F) := by
  obtain ⟨t, ht, e⟩ := lastsV_n (h := h) (g := g) (n := n) (b := -1) 41 0 F (by omega)
  rw [e]
  unfold lastsE
  by_cases h41 : t = 41
  · subst h41; rfl
  · rw [if_neg (show ¬ nI t = 41 from fun q => h41 (nI_inj (b := 41) (by omega) (by omega) q)), if_pos (show nI t ≤ 40 from nI_le (b := 40) (by omega) (by omega))]
theorem moveG_n {h : AHP} {g n : Nat} {F : FS} : ∀ (j i : Nat) (s : Int32 × Int32), i + j ≤ 84 → kinB 84 s.1 → kinB 84 (it (moveG h g n F) j i s).1 := by
  intro j
  induction j with
  | zero => intro i s _ hs; exact hs
  | succ j ih =>
    intro i s hi hs
    rw [it_step]
    refine ih (i + 1) _ (by omega) ?_
    unfold moveG
    split
    · split
      · exact hs
      · exact Or.inr ⟨i, by omega, rfl⟩
    · exact hs
theorem moveE_eq {a y : Int32} (ha : kinB 84 a) : (if a = -1 then -1 else if y = 0 then a / 12 else remI a 12) = moveE a y := by
  unfold moveE
  rcases ha with rfl | ⟨t, ht, rfl⟩
  · rw [if_pos rfl, if_neg (by decide)]
  · rw [if_neg (nI_m1 (by omega)), if_pos (nI_pos' (by omega))]
theorem win_eq {h : AHP} {g n m : Nat} {y w : Int32} : winR h g n m y w = winH h g n (fs h 5) m y w := rfl
theorem jd_eq {h : AHP} {g n v : Nat} : judgeS h g n v = jdS h g n (h.1 (v + 1)) (h.1 (v + 2)) (h.1 (v + 3)) := rfl
theorem jdR_eq {h : AHP} {g n v m w : Nat} (hw : w ≤ 2) : judgeR h g n v m (nI w) = jdR h g n (fs h (g + 3)) (h.1 (v + 1)) (h.1 (v + 2)) (h.1 (v + 3)) m (nI w) := by
  unfold judgeR jdR
  rw [jd_eq]
  rcases Nat.lt_or_ge w 2 with h2 | h2
  · rw [if_neg (show ¬ nI w = 2 from fun q => by have := nI_inj (b := 2) (by omega) (by omega) q; omega)]
    rcases Nat.lt_or_ge w 1 with h1 | h1
    · have : w = 0 := by omega
      subst this; rfl
    · have : w = 1 := by omega
      subst this; rfl
  · have : w = 2 := by omega
    subst this; rfl
