/-! ===== an hour, ember by ember ===== -/
section HOUR
variable {L : Int32 → Int32 → Int32 → Int32 → Int32} {K : Nat → Int32} {lit lc dc air : Int32}
theorem hasF_cg {F G : FS} {e : Nat} (he : e < 7) (h : F.1 e = G.1 e) : hasF F (nI e) ↔ hasF G (nI e) := by
  unfold hasF
  rw [nI_clamp (by omega), h]
theorem fup_comm {g : Nat → Int32} {i j : Nat} {a b : Int32} (h : i ≠ j) : fup (fup g i a) j b = fup (fup g j b) i a := by
  funext z
  unfold fup
  by_cases h1 : z = j
  · have h2 : ¬ z = i := fun q => h (q.symm.trans h1)
    rw [if_pos h1, if_neg h2, if_pos h1]
  · rw [if_neg h1]
    by_cases h2 : z = i
    · rw [if_pos h2, if_pos h2]
    · rw [if_neg h2, if_neg h2, if_neg h1]
def wv (L : Int32 → Int32 → Int32 → Int32 → Int32) (lc dc air : Int32) (F : FS) (e : Nat) : Int32 := mx0 (mn20 (L (F.2.1 e) (nearI lc dc (besV (F.1 e))) air (F.2.2.1 e)))
theorem warm_t {F : FS} {e : Nat} (he : e < 7) (hh : hasF F (nI e)) : warmS L lc dc air e F = (F.1, fup F.2.1 e (wv L lc dc air F e), F.2.2) := by
  rw [warmS, if_pos hh, nI_clamp (by omega)]; rfl
theorem warm_f {F : FS} {e : Nat} (hh : ¬ hasF F (nI e)) : warmS L lc dc air e F = F := if_neg hh
theorem burn1_eq {F : FS} {e : Nat} (he : e < 7) : burnF1 K e F = (F.1, F.2.1, fup F.2.2.1 e (F.2.2.1 e - (if K e = 1 then 2 else 1)), F.2.2.2) := by
  rw [burnF1, nI_clamp (by omega)]
theorem wv_cg {F G : FS} {a : Nat} (h1 : F.1 a = G.1 a) (h2 : F.2.1 a = G.2.1 a) (h3 : F.2.2.1 a = G.2.2.1 a) : wv L lc dc air F a = wv L lc dc air G a := by unfold wv; rw [h1, h2, h3]
theorem tk_t {F : FS} {e : Nat} (he : e < 7) (hh : hasF F (nI e)) : takeOutF F (nI e) = (fup F.1 e (-1), fup F.2.1 e 0, fup F.2.2.1 e 0, fup F.2.2.2.1 (F.1 e).toNatClampNeg (-1), F.2.2.2.2) := by rw [takeOutF, if_pos hh, nI_clamp (by omega)]
theorem tk_f {F : FS} {e : Nat} (hh : ¬ hasF F (nI e)) : takeOutF F (nI e) = F := if_neg hh
theorem take_warm {F : FS} {e a : Nat} (he : e < 7) (ha : a < 7) (hne : e ≠ a) : warmS L lc dc air a (takeOutF F (nI e)) = takeOutF (warmS L lc dc air a F) (nI e) := by
  by_cases hh : hasF F (nI e)
  · have e1 := tk_t he hh
    have hc : hasF (takeOutF F (nI e)) (nI a) ↔ hasF F (nI a) := hasF_cg ha (by rw [e1]; exact fup_ne hne.symm)
    by_cases h2 : hasF F (nI a)
    · have h3 : hasF (F.1, fup F.2.1 a (wv L lc dc air F a), F.2.2) (nI e) := (hasF_cg (F := F) he rfl).mp hh
      rw [warm_t ha (hc.mpr h2), warm_t ha h2, tk_t he h3, e1]
      show (fup F.1 e (-1), fup (fup F.2.1 e 0) a (wv L lc dc air (fup F.1 e (-1), fup F.2.1 e 0, fup F.2.2.1 e 0, _) a), fup F.2.2.1 e 0, _) = (fup F.1 e (-1), fup (fup F.2.1 a (wv L lc dc air F a)) e 0, fup F.2.2.1 e 0, _)
      rw [fup_comm hne, wv_cg (F := (fup F.1 e (-1), fup F.2.1 e 0, fup F.2.2.1 e 0, fup F.2.2.2.1 (F.1 e).toNatClampNeg (-1), F.2.2.2.2)) (G := F) (fup_ne hne.symm) (fup_ne hne.symm) (fup_ne hne.symm)]
    · rw [warm_f (fun q => h2 (hc.mp q)), warm_f h2]
  · rw [tk_f hh]
    by_cases h2 : hasF F (nI a)
    · rw [warm_t ha h2, tk_f (F := (F.1, fup F.2.1 a (wv L lc dc air F a), F.2.2)) (fun q => hh ((hasF_cg (G := F) he rfl).mp q))]
    · rw [warm_f h2, tk_f hh]
theorem burn1_warm {F : FS} {e a : Nat} (he : e < 7) (ha : a < 7) (hne : e ≠ a) : warmS L lc dc air a (burnF1 K e F) = burnF1 K e (warmS L lc dc air a F) := by
  have hc : hasF (burnF1 K e F) (nI a) ↔ hasF F (nI a) := hasF_cg ha (by rw [burn1_eq he])
  by_cases h2 : hasF F (nI a)
  · rw [warm_t ha (hc.mpr h2), warm_t ha h2, burn1_eq he, burn1_eq he]
    show (F.1, fup F.2.1 a (wv L lc dc air (F.1, F.2.1, fup F.2.2.1 e (F.2.2.1 e - (if K e = 1 then 2 else 1)), F.2.2.2) a), _) = (F.1, fup F.2.1 a (wv L lc dc air F a), _)
    rw [wv_cg (F := (F.1, F.2.1, fup F.2.2.1 e (F.2.2.1 e - (if K e = 1 then 2 else 1)), F.2.2.2)) (G := F) rfl rfl (fup_ne hne.symm)]
  · rw [warm_f (fun q => h2 (hc.mp q)), warm_f h2]
theorem burn1_fuel {F : FS} {e a : Nat} (he : e < 7) (ha : a < 7) : (burnF1 K e (warmS L lc dc air a F)).2.2.1 (nI e).toNatClampNeg = (burnF1 K e F).2.2.1 (nI e).toNatClampNeg := by
  have h : (warmS L lc dc air a F).2.2.1 = F.2.2.1 := by
    by_cases h2 : hasF F (nI a)
    · rw [warm_t ha h2]
    · rw [warm_f h2]
  rw [burn1_eq he, burn1_eq he, nI_clamp (by omega)]
  show fup (warmS L lc dc air a F).2.2.1 e _ e = fup F.2.2.1 e _ e
  rw [fup_eq, fup_eq, h]
theorem burn_warm {s : FS × Int32} {e a : Nat} (he : e < 7) (ha : a < 7) (hne : e ≠ a) : (warmS L lc dc air a (burnS K lit e s).1, (burnS K lit e s).2) = burnS K lit e (warmS L lc dc air a s.1, s.2) := by
  unfold burnS
  by_cases hb : bitI lit (nI e)
  · rw [if_pos hb, if_pos hb]
    have hf := burn1_fuel (L := L) (K := K) (lc := lc) (dc := dc) (air := air) (F := s.1) he ha
    show _ = (if 0 < (burnF1 K e (warmS L lc dc air a s.1)).2.2.1 (nI e).toNatClampNeg then _ else _)
    rw [hf]
    by_cases h0 : 0 < (burnF1 K e s.1).2.2.1 (nI e).toNatClampNeg
    · rw [if_pos h0, if_pos h0, burn1_warm he ha hne]
    · rw [if_neg h0, if_neg h0, take_warm he ha hne, burn1_warm he ha hne]
  · rw [if_neg hb, if_neg hb]
noncomputable def hrS (L : Int32 → Int32 → Int32 → Int32 → Int32) (K : Nat → Int32) (lit lc dc air : Int32) (e : Nat) (s : FS × Int32) : FS × Int32 := burnS K lit e (warmS L lc dc air e s.1, s.2)
theorem it_warm1 : ∀ (j i : Nat) (s : FS × Int32) (e : Nat), e < i → i + j ≤ 7 → (it (warmS L lc dc air) j i (burnS K lit e s).1, (burnS K lit e s).2) = burnS K lit e (it (warmS L lc dc air) j i s.1, s.2) := by
  intro j
  induction j with
  | zero => intro i s e _ _; rfl
  | succ j ih =>
    intro i s e h1 h2
    rw [it_step, it_step]
    have hb := burn_warm (L := L) (K := K) (lit := lit) (lc := lc) (dc := dc) (air := air) (s := s) (e := e) (a := i) (by omega) (by omega) (by omega)
    have h3 := ih (i + 1) (warmS L lc dc air i s.1, s.2) e (by omega) (by omega)
    rw [← hb] at h3
    exact h3
theorem hr_eq : ∀ (j i : Nat) (s : FS × Int32), i + j ≤ 7 → it (hrS L K lit lc dc air) j i s = it (burnS K lit) j i (it (warmS L lc dc air) j i s.1, s.2) := by
  intro j
  induction j with
  | zero => intro i s _; rfl
  | succ j ih =>
    intro i s h
    rw [it_step, it_step, it_step, ih (i + 1) _ (by omega), hrS]
    rw [it_warm1 j (i + 1) (warmS L lc dc air i s.1, s.2) i (by omega) (by omega)]
theorem mx_mn (v : Int32) : ∃ x : Nat, x ≤ 20 ∧ mx0 (mn20 v) = nI x := by
  unfold mx0
  by_cases h : 0 < mn20 v
  · rw [if_pos h]
    have h2 : mn20 v ≤ 20 := by
      unfold mn20
      by_cases h3 : v < 20
      · rw [if_pos h3]; exact Int32.le_of_lt h3
      · rw [if_neg h3]; exact Int32.le_refl _
    exact nI_of2 (show (20 : Int32).toInt = (20 : Nat) by decide) (fun q => Int32.lt_irrefl (Int32.lt_trans h q)) h2
  · rw [if_neg h]; exact ⟨0, by omega, rfl⟩
theorem hr_F {F : FS} {s : Int32} {e : Nat} (he : e < 7) (hh : ¬ hasF F (nI e)) (hb : ¬ bitI lit (nI e)) : hrS L K lit lc dc air e (F, s) = (F, s) := by
  rw [hrS, warm_f hh, burnS, if_neg hb]
theorem hr_N {F : FS} {s : Int32} {e : Nat} (he : e < 7) (hh : hasF F (nI e)) (hb : ¬ bitI lit (nI e)) : hrS L K lit lc dc air e (F, s) = ((F.1, fup F.2.1 e (wv L lc dc air F e), F.2.2), s) := by
  rw [hrS, warm_t he hh, burnS, if_neg hb]
theorem burnS_B {F : FS} {s : Int32} {e : Nat} (he : e < 7) (hb : bitI lit (nI e)) (h0 : 0 < F.2.2.1 e - (if K e = 1 then 2 else 1)) : burnS K lit e (F, s) = ((F.1, F.2.1, fup F.2.2.1 e (F.2.2.1 e - (if K e = 1 then 2 else 1)), F.2.2.2), s) := by
  have h1 : (burnF1 K e F).2.2.1 (nI e).toNatClampNeg = F.2.2.1 e - (if K e = 1 then 2 else 1) := by rw [burn1_eq he, nI_clamp (by omega)]; exact fup_eq
  rw [burnS, if_pos hb]
  refine (if_pos (by rw [h1]; exact h0)).trans ?_
  rw [burn1_eq he]
theorem burnS_A {F : FS} {s : Int32} {e : Nat} (he : e < 7) (hb : bitI lit (nI e)) (h0 : ¬ 0 < F.2.2.1 e - (if K e = 1 then 2 else 1)) : burnS K lit e (F, s) = (takeOutF (F.1, F.2.1, fup F.2.2.1 e (F.2.2.1 e - (if K e = 1 then 2 else 1)), F.2.2.2) (nI e), s ||| (1 <<< (nI e &&& 31))) := by
  have h1 : (burnF1 K e F).2.2.1 (nI e).toNatClampNeg = F.2.2.1 e - (if K e = 1 then 2 else 1) := by rw [burn1_eq he, nI_clamp (by omega)]; exact fup_eq
  rw [burnS, if_pos hb]
  refine (if_neg (by rw [h1]; exact h0)).trans ?_
  rw [burn1_eq he]
theorem hr_B {F : FS} {s : Int32} {e : Nat} (he : e < 7) (hh : hasF F (nI e)) (hb : bitI lit (nI e)) (h0 : 0 < F.2.2.1 e - (if K e = 1 then 2 else 1)) : hrS L K lit lc dc air e (F, s) = ((F.1, fup F.2.1 e (wv L lc dc air F e), fup F.2.2.1 e (F.2.2.1 e - (if K e = 1 then 2 else 1)), F.2.2.2), s) := by
  rw [hrS, warm_t he hh]
  exact burnS_B (F := (F.1, fup F.2.1 e (wv L lc dc air F e), F.2.2)) he hb h0
theorem hr_A {m : Nat} {F : FS} {s : Int32} {e c : Nat} (hV : FV m F) (he : e < 7) (hh : hasF F (nI e)) (hb : bitI lit (nI e)) (h0 : ¬ 0 < F.2.2.1 e - (if K e = 1 then 2 else 1)) (hc : c < 12) (hce : F.1 e = nI c) : hrS L K lit lc dc air e (F, s) = ((fup F.1 e (-1), fup (fup F.2.1 e (wv L lc dc air F e)) e 0, fup (fup F.2.2.1 e (F.2.2.1 e - (if K e = 1 then 2 else 1))) e 0, fup F.2.2.2.1 c (-1), F.2.2.2.2), s ||| (1 <<< (nI e &&& 31))) := by
  rw [hrS, warm_t he hh]
  refine (burnS_A (F := (F.1, fup F.2.1 e (wv L lc dc air F e), F.2.2)) he hb h0).trans ?_
  have h3 : hasF (F.1, fup F.2.1 e (wv L lc dc air F e), fup F.2.2.1 e (F.2.2.1 e - (if K e = 1 then 2 else 1)), F.2.2.2) (nI e) := (hasF_cg (F := F) he rfl).mp hh
  rw [tk_t he h3]
  show ((_, _, _, fup F.2.2.2.1 (F.1 e).toNatClampNeg (-1), _), _) = _
  rw [hce, nI_clamp (by omega)]
theorem FV_hr {m : Nat} {F : FS} {s : Int32} {e : Nat} (hV : FV m F) (he : e < 7) (hb : bitI lit (nI e) → hasF F (nI e)) : FV m (hrS L K lit lc dc air e (F, s)).1 := by
  by_cases hh : hasF F (nI e)
  · obtain ⟨x, hx, ex⟩ := mx_mn (L (F.2.1 e) (nearI lc dc (besV (F.1 e))) air (F.2.2.1 e))
    have e1 : wv L lc dc air F e = nI x := ex
    have h1 : FV m (F.1, fup F.2.1 e (wv L lc dc air F e), F.2.2) := by rw [e1]; exact FV_heat hV hx hh he
    by_cases hl : bitI lit (nI e)
    · obtain ⟨_, c, _, y, hc, _, hy1, hy2, hce, _, h8⟩ := FV_in hV he hh
      by_cases h0 : 0 < F.2.2.1 e - (if K e = 1 then 2 else 1)
      · rw [hr_B he hh hl h0]
        obtain ⟨z, hz1, hz2, ez⟩ : ∃ z : Nat, 1 ≤ z ∧ z ≤ 20 ∧ F.2.2.1 e - (if K e = 1 then 2 else 1) = nI z := by
          rw [h8] at h0 ⊢
          by_cases hk : K e = 1
          · rw [if_pos hk] at h0 ⊢
            rcases Nat.lt_or_ge 2 y with h2 | h2
            · exact ⟨y - 2, by omega, by omega, nIs rfl rfl (by omega)⟩
            · refine absurd h0 ?_
              rcases Nat.lt_or_ge y 2 with h3 | h3
              · rw [show y = 1 by omega]; decide
              · rw [show y = 2 by omega]; decide
          · rw [if_neg hk] at h0 ⊢
            rcases Nat.lt_or_ge 1 y with h2 | h2
            · exact ⟨y - 1, by omega, by omega, nIs rfl rfl (by omega)⟩
            · exact absurd h0 (by rw [show y = 1 by omega]; decide)
        rw [ez]
        exact FV_fuel h1 hz1 hz2 ((hasF_cg he rfl).mp hh) he
      · rw [hr_A hV he hh hl h0 hc hce]
        exact FV_gone hV he hc hce
    · rw [hr_N he hh hl]; exact h1
  · rw [hr_F he hh (fun q => hh (hb q))]; exact hV
/-- what an hour leaves of others alone -/
theorem hr_other {s : FS × Int32} {e a : Nat} (he : e < 7) (ha : a < 7) (hne : a ≠ e) : (hrS L K lit lc dc air e s).1.1 a = s.1.1 a ∧ (hrS L K lit lc dc air e s).1.2.1 a = s.1.2.1 a ∧ (hrS L K lit lc dc air e s).1.2.2.1 a = s.1.2.2.1 a := by
  obtain ⟨F, s⟩ := s
  have hw : (warmS L lc dc air e F).1 = F.1 ∧ (warmS L lc dc air e F).2.1 a = F.2.1 a ∧ (warmS L lc dc air e F).2.2 = F.2.2 := by
    by_cases hh : hasF F (nI e)
    · rw [warm_t he hh]; exact ⟨rfl, fup_ne hne, rfl⟩
    · rw [warm_f hh]; exact ⟨rfl, rfl, rfl⟩
  rw [hrS]
  show (burnS K lit e (warmS L lc dc air e F, s)).1.1 a = F.1 a ∧ (burnS K lit e (warmS L lc dc air e F, s)).1.2.1 a = F.2.1 a ∧ (burnS K lit e (warmS L lc dc air e F, s)).1.2.2.1 a = F.2.2.1 a
  generalize warmS L lc dc air e F = G at hw
  obtain ⟨w1, w2, w3⟩ := hw
  have hb1 : (burnF1 K e G).1 a = F.1 a ∧ (burnF1 K e G).2.1 a = F.2.1 a ∧ (burnF1 K e G).2.2.1 a = F.2.2.1 a := by
    rw [burn1_eq he]
    exact ⟨by rw [← w1], w2, by show fup G.2.2.1 e _ a = _; rw [fup_ne hne, w3]⟩
  unfold burnS
  by_cases hb : bitI lit (nI e)
  · rw [if_pos hb]
    split
    · exact hb1
    · show (takeOutF (burnF1 K e G) (nI e)).1 a = _ ∧ (takeOutF (burnF1 K e G) (nI e)).2.1 a = _ ∧ (takeOutF (burnF1 K e G) (nI e)).2.2.1 a = _
      rw [takeOutF]
      split
      · rw [nI_clamp (by omega)]
        exact ⟨(fup_ne hne).trans hb1.1, (fup_ne hne).trans hb1.2.1, (fup_ne hne).trans hb1.2.2⟩
      · exact hb1
  · rw [if_neg hb]
    exact ⟨by rw [← w1], w2, by rw [w3]⟩
theorem hr_end {s : FS × Int32} {e : Nat} : (hrS L K lit lc dc air e s).1.2.2.2.2 = s.1.2.2.2.2 := by
  obtain ⟨F, s⟩ := s
  have hw : (warmS L lc dc air e F).2.2.2.2 = F.2.2.2.2 := by
    unfold warmS
    split <;> rfl
  rw [hrS, burnS]
  split
  · split
    · exact hw
    · show (takeOutF _ _).2.2.2.2 = _
      unfold takeOutF
      split
      · exact hw
      · exact hw
  · exact hw
end HOUR
