/-! ===== the class reads a law: its state ===== -/
/-- what the class changes while it reads a law into l -/
def Kf (h0 h : AHP) (l : Nat) : Prop := h.2.2.2 = h0.2.2.2 ∧ (∀ a i, ¬ (a = 2 ∧ i = 6) → h.2.2.1 a i = h0.2.2.1 a i) ∧ (∀ a, a ≠ 2 → h.2.1 a = h0.2.1 a) ∧ (∀ a, a ≠ 2 → a ≠ 4 → a ≠ l → a ≠ l + 1 → h.1 a = h0.1 a) ∧ h.1 2 1 = h0.1 2 1
theorem Kf.rf {h : AHP} {l : Nat} : Kf h h l := ⟨rfl, fun _ _ _ => rfl, fun _ _ => rfl, fun _ _ _ _ _ => rfl, rfl⟩
theorem Kf.std {h0 h : AHP} {l : Nat} (h1 : Kf h0 h l) (hS : Std h0) : Std h := ⟨by rw [h1.1]; exact hS.1, fun q hq => by rw [h1.2.1 _ _ (fin_key q hq)]; exact hS.2 q hq⟩
theorem Kf.T {h0 h h2 : AHP} {l : Nat} (h1 : Kf h0 h l) (hT : Tf h h2) : Kf h0 h2 l := ⟨hT.1.trans h1.1, fun a i q => (hT.2.1 a i q).trans (h1.2.1 a i q), fun a q => (hT.2.2.1 a q).trans (h1.2.2.1 a q), fun a q1 q2 q3 q4 => (hT.2.2.2.1 a q1).trans (h1.2.2.2.1 a q1 q2 q3 q4), hT.2.2.2.2.trans h1.2.2.2.2⟩
theorem Kf.wr {h0 h : AHP} {l : Nat} {x : Int32} (h1 : Kf h0 h l) : Kf h0 (sI h 4 1 x) l := ⟨h1.1, h1.2.1, h1.2.2.1, fun a q1 q2 q3 q4 => by rw [sI_ne q2]; exact h1.2.2.2.1 a q1 q2 q3 q4, by rw [sI_ne (by decide)]; exact h1.2.2.2.2⟩
def KS (h0 h : AHP) (l : Nat) (ch : Nat → Nat) (len : Nat) (s : St) : Prop := Kf h0 h l ∧ CU h ch len s.1 ∧ h.1 l 3 = nI s.2.2.length ∧ ∀ j, j < s.2.2.length → h.1 (l + 1) j = stp (s.2.2.getD j (0, 0))
/-- how a reading ends -/
def KQ (h0 : AHP) (l : Nat) (ch : Nat → Nat) (len : Nat) (s2 : St) (v : Option Value) (h2 : AHP) : Prop := v = some (.int (b2i (s2.2.1 = 0))) ∧ (s2.2.1 = 0 → KS h0 h2 l ch len s2) ∧ (¬ s2.2.1 = 0 → Kf h0 h2 l ∧ h2.1 4 1 = nI s2.2.1)
theorem KS_nx {h0 h h2 : AHP} {l : Nat} {ch : Nat → Nat} {len : Nat} {s : St} (hl : 5 ≤ l) (hs : KS h0 h l ch len s) (hT : Tf h h2) (hC : CU h2 ch len (s.1 + 1)) : KS h0 h2 l ch len (nx1 s) :=
  ⟨hs.1.T hT, hC, by rw [hT.2.2.2.1 l (by omega)]; exact hs.2.2.1, fun j hj => by rw [hT.2.2.2.1 (l + 1) (by omega)]; exact hs.2.2.2 j hj⟩
theorem KS_add {h0 h : AHP} {l : Nat} {ch : Nat → Nat} {len : Nat} {s : St} {a b : Nat} (hl : 5 ≤ l) (hs : KS h0 h l ch len s) : KS h0 (sI (sI h (l + 1) s.2.2.length (stp (a, b))) l 3 (nI (s.2.2.length + 1))) l ch len (emS a b s) := by
  obtain ⟨⟨k1, k2, k3, k4, k5⟩, hC, h3, hc⟩ := hs
  have e9 : (emS a b s).2.2 = s.2.2 ++ [(a, b)] := rfl
  refine ⟨⟨k1, k2, k3, fun x q1 q2 q3 q4 => by rw [sI_ne q3, sI_ne q4]; exact k4 x q1 q2 q3 q4, by rw [sI_ne (by omega), sI_ne (by omega)]; exact k5⟩, ?_, ?_, fun j hj => ?_⟩
  · obtain ⟨u1, u2, u3, u4⟩ := hC
    refine ⟨by rw [sI_ne (by omega), sI_ne (by omega)]; exact u1, u2, by rw [sI_ne (by omega), sI_ne (by omega)]; exact u3, ?_⟩
    unfold TKp at u4 ⊢
    rw [sI_ne (b := 2) (by omega), sI_ne (b := 2) (by omega)]
    exact u4
  · rw [sI_eq, e9, List.length_append, List.length_singleton]
  · rw [e9] at hj ⊢
    rw [List.length_append, List.length_singleton] at hj
    rw [sI_ne (by omega)]
    by_cases hj2 : j = s.2.2.length
    · subst hj2; rw [getD_snoc, sI_eq]
    · rw [getD_old (by omega), sI_nr hj2]; exact hc j (by omega)
theorem KQ_wr {h0 h : AHP} {l c : Nat} {ch : Nat → Nat} {len : Nat} {s : St} (hc : 1 ≤ c) (hs : KS h0 h l ch len s) (hf : s.2.1 = 0) : KQ h0 l ch len (wrS (tkT ch len) c s) (some (.int 0)) (sI h 4 1 (nI (wrF (tkT ch len) c s.1 0))) := by
  have h1 : ¬ (wrS (tkT ch len) c s).2.1 = 0 := by
    show ¬ wrF (tkT ch len) c s.1 s.2.1 = 0
    rw [hf]
    exact wrF_p hc
  refine ⟨by rw [b2i_f h1], fun q => absurd q h1, fun _ => ⟨hs.1.wr, ?_⟩⟩
  rw [sI_eq]
  show _ = nI (wrF (tkT ch len) c s.1 s.2.1)
  rw [hf]
theorem k_takeSign {d : Nat} {h0 h : AHP} {l c : Nat} {ch : Nat → Nat} {len : Nat} {s : St} (hS : Std h0) (hl : 5 ≤ l) (hs : KS h0 h l ch len s) (hf : s.2.1 = 0) (hc : c < 10000) : MM (d + 2) 73 [.ref 4, .int (nI c)] h (KQ h0 l ch len (tSS (tkT ch len) c s)) := by
  refine M_mono ?_ (c_takeSign (hs.1.std hS) hs.2.1 hc)
  intro v h2 q
  unfold tSS
  rw [hf]
  by_cases hw : isS (tkT ch len) c s.1 0
  · obtain ⟨e1, e2, e3⟩ := q.1 hw
    rw [cI_t hw]
    have h1 : (nx1 s).2.1 = 0 := hf
    refine ⟨by rw [e1, b2i_t h1], fun _ => KS_nx hl hs e2 e3, fun q => absurd h1 q⟩
  · obtain ⟨e1, e2⟩ := q.2 hw
    rw [cI_f hw, e1, e2]
    exact KQ_wr (by decide) hs hf
