/-! ===== near, as both reckon it ===== -/
theorem it_snoc {α : Type} {f : Nat → α → α} {i : Nat} {s : α} : it f (i + 1) 0 s = f i (it f i 0 s) := by
  rw [it_app i 1 0 s, Nat.zero_add]; rfl
theorem nI_inj {a b : Nat} (ha : a < 2 ^ 31) (hb : b < 2 ^ 31) (h : nI a = nI b) : a = b := (nI_eq ha hb).mp h
theorem nz_mx (x : Int32) : nz0 x = mx0 x := by
  unfold nz0 mx0
  by_cases h : 0 < x
  · rw [if_pos h, if_pos (Int32.le_of_lt h)]
  · rw [if_neg h]
    by_cases h2 : 0 ≤ x
    · rw [if_pos h2]
      have h3 : ¬ (0 : Int32).toInt < x.toInt := fun q => h (Int32.lt_iff_toInt_lt.mpr q)
      have h4 : (0 : Int32).toInt ≤ x.toInt := Int32.le_iff_toInt_le.mp h2
      exact Int32.toInt_inj.mp (by omega)
    · rw [if_neg h2]
theorem litB_bit {F : FS} {K : Nat → Int32} {C : Int32} {e : Nat} (he : e < 7) : bitI (litB F K C) (nI e) ↔ glP F K C e := setB_bit (P := glP F K C) he
def onC (F : FS) (i : Nat) (x : Int32) : Prop := ∀ a, a < 32 → bt x a = true → ∃ o, o < i ∧ F.1 o = nI a ∧ hasF F (nI o)
theorem i32_s1 (a b : Int32) : a + 1 - b = a - b + 1 := by
  rw [Int32.sub_eq_add_neg, Int32.sub_eq_add_neg, Int32.add_assoc, Int32.add_comm 1, ← Int32.add_assoc]
theorem i32_s2 (a b : Int32) : a - (b + 1) = a - b + (-1) := by
  rw [Int32.sub_eq_add_neg, Int32.sub_eq_add_neg, Int32.neg_add, Int32.add_assoc, Int32.sub_eq_add_neg]
theorem on_step {F : FS} {i ci : Nat} {x B : Int32} (hd : ∀ a b, a < 7 → b < 7 → F.1 a = F.1 b → F.1 a = -1 ∨ a = b) (hi : i < 7) (hx : onC F i x) (hc : ci < 12) (hci : F.1 i = nI ci) (hh : hasF F (nI i)) :
    onC F (i + 1) (x ||| (1 <<< (nI ci &&& 31))) ∧ cntN (bt ((x ||| (1 <<< (nI ci &&& 31))) &&& B)) 12 = cntN (bt (x &&& B)) 12 + (if bt B ci = true then 1 else 0) := by
  have hno : bt x ci = false := by
    cases hb : bt x ci with
    | false => rfl
    | true =>
      obtain ⟨o, ho, h1, _⟩ := hx ci (by omega) hb
      rcases hd o i (by omega) hi (h1.trans hci.symm) with h2 | h2
      · rw [h1] at h2; exact absurd h2 (nI_m1 (by omega))
      · omega
  refine ⟨fun a ha hb => ?_, ?_⟩
  · rw [b_or, b_one (by omega) ha] at hb
    by_cases hac : a = ci
    · exact ⟨i, by omega, by rw [hac]; exact hci, hh⟩
    · simp [hac] at hb
      obtain ⟨o, ho, h1, h2⟩ := hx a ha hb
      exact ⟨o, by omega, h1, h2⟩
  · have h1 := cnt_upd (f := bt (x &&& B)) (g := bt ((x ||| (1 <<< (nI ci &&& 31))) &&& B)) (c := ci) (by rw [b_and, hno]; rfl) (fun j hj => by
      rcases Nat.lt_or_ge j 32 with h2 | h2
      · rw [b_and, b_and, b_or, b_one (by omega) h2]; simp [hj]
      · rw [b_big h2, b_big h2]) 12
    rw [h1, b_and, b_or, b_one (by omega) (by omega)]
    simp [hc]
theorem near_go {m e c : Nat} {F : FS} {K : Nat → Int32} {C : Int32} (hV : FV m F) (he : e < 7) (hh : hasF F (nI e)) (hc : c < 12) (hce : F.1 e = nI c) : ∀ i, i ≤ 7 →
    it (nearS F K C (touchB F (nI e))) i 0 0 = nI (cntN (bt ((it (cellsS F K (litB F K C)) i 0 (0, 0)).1 &&& bes c)) 12) - nI (cntN (bt ((it (cellsS F K (litB F K C)) i 0 (0, 0)).2 &&& bes c)) 12)
    ∧ onC F i (it (cellsS F K (litB F K C)) i 0 (0, 0)).1 ∧ onC F i (it (cellsS F K (litB F K C)) i 0 (0, 0)).2 := by
  intro i
  induction i with
  | zero =>
    intro _
    refine ⟨(Int32.sub_self (a := _)).symm, fun a ha hb => ?_, fun a ha hb => ?_⟩
    · rw [show (it (cellsS F K (litB F K C)) 0 0 (0, 0)).1 = 0 from rfl, b_0] at hb; cases hb
    · rw [show (it (cellsS F K (litB F K C)) 0 0 (0, 0)).2 = 0 from rfl, b_0] at hb; cases hb
  | succ i ih =>
    intro hi
    obtain ⟨h1, h2, h3⟩ := ih (by omega)
    rw [it_snoc, it_snoc]
    generalize it (nearS F K C (touchB F (nI e))) i 0 0 = n at h1 ⊢
    generalize it (cellsS F K (litB F K C)) i 0 (0, 0) = s at h1 h2 h3 ⊢
    have hT : bitI (touchB F (nI e)) (nI i) ↔ hasF F (nI i) ∧ bitI (bes c) (F.1 i) := by
      rw [touchB, if_pos hh, nI_clamp (by omega), hce, besV_n c hc]
      have := setB_bit (P := fun o => hasF F (nI o) ∧ bitI (bes c) (F.1 (nI o).toNatClampNeg)) (a := i) (by omega)
      rw [show F.1 (nI i).toNatClampNeg = F.1 i by rw [nI_clamp (by omega)]] at this
      exact this
    have hwk : ∀ x, onC F i x → onC F (i + 1) x := fun x hx a ha hb => by
      obtain ⟨o, ho, h4⟩ := hx a ha hb
      exact ⟨o, by omega, h4⟩
    by_cases hl : glP F K C i
    · have hcs : cellsS F K (litB F K C) i s = (s.1 ||| (1 <<< (F.1 (nI i).toNatClampNeg &&& 31)), s.2) := if_pos ((litB_bit (by omega)).mpr hl)
      obtain ⟨_, ci, _, _, hci, _, _, _, hcii, _⟩ := FV_in hV (by omega) hl.1
      rw [hcs, nI_clamp (by omega), hcii]
      obtain ⟨g1, g2⟩ := on_step (B := bes c) hV.2.2.1 (by omega) h2 hci hcii hl.1
      refine ⟨?_, g1, hwk _ h3⟩
      rw [g2]
      by_cases hb : bt (bes c) ci = true
      · rw [if_pos hb, nearS, if_pos (hT.mpr ⟨hl.1, by rw [hcii]; exact (bitI_bt (by omega)).mpr hb⟩), if_pos hl, h1, ← nI_1, i32_s1]
      · rw [if_neg hb, nearS, if_neg (fun q => hb (by have q2 := (hT.mp q).2; rw [hcii] at q2; exact (bitI_bt (by omega)).mp q2)), Int32.add_zero, h1]; rfl
    · by_cases hd : hasF F (nI i) ∧ K (nI i).toNatClampNeg = 2
      · have hcs : cellsS F K (litB F K C) i s = (s.1, s.2 ||| (1 <<< (F.1 (nI i).toNatClampNeg &&& 31))) := (if_neg fun q => hl ((litB_bit (by omega)).mp q)).trans (if_pos hd)
        obtain ⟨_, ci, _, _, hci, _, _, _, hcii, _⟩ := FV_in hV (by omega) hd.1
        have hk2 : K i = 2 := by have := hd.2; rw [nI_clamp (by omega)] at this; exact this
        rw [hcs, nI_clamp (by omega), hcii]
        obtain ⟨g1, g2⟩ := on_step (B := bes c) hV.2.2.1 (by omega) h3 hci hcii hd.1
        refine ⟨?_, hwk _ h2, g1⟩
        rw [g2]
        by_cases hb : bt (bes c) ci = true
        · rw [if_pos hb, nearS, if_pos (hT.mpr ⟨hd.1, by rw [hcii]; exact (bitI_bt (by omega)).mpr hb⟩), if_neg hl, if_pos hk2, h1, ← nI_1, i32_s2]
        · rw [if_neg hb, nearS, if_neg (fun q => hb (by have q2 := (hT.mp q).2; rw [hcii] at q2; exact (bitI_bt (by omega)).mp q2)), Int32.add_zero, h1]; rfl
      · have hcs : cellsS F K (litB F K C) i s = s := (if_neg fun q => hl ((litB_bit (by omega)).mp q)).trans (if_neg hd)
        rw [hcs]
        refine ⟨?_, hwk _ h2, hwk _ h3⟩
        by_cases hb : bitI (touchB F (nI e)) (nI i)
        · have hk2 : ¬ K i = 2 := fun q => hd ⟨(hT.mp hb).1, by rw [nI_clamp (by omega)]; exact q⟩
          rw [nearS, if_pos hb, if_neg hl, if_neg hk2, Int32.add_zero, h1]
        · rw [nearS, if_neg hb, Int32.add_zero, h1]
theorem and_big {x B : Int32} (h : ∀ i, i < 32 → 12 ≤ i → bt B i = false) : ∀ i, 12 ≤ i → i < 32 → bt (x &&& B) i = false := fun i h1 h2 => by rw [b_and, h i h2 h1]; simp
theorem near_eq {m e : Nat} {F : FS} {K : Nat → Int32} {C : Int32} (hV : FV m F) (hm : m ≤ 7) (he : e < 7) (hh : hasF F (nI e)) : nearR F K C m e = nearI (it (cellsS F K (litB F K C)) 7 0 (0, 0)).1 (it (cellsS F K (litB F K C)) 7 0 (0, 0)).2 (besV (F.1 e)) := by
  obtain ⟨_, c, _, _, hc, _, _, _, hce, _⟩ := FV_in hV he hh
  have h7 : it (nearS F K C (touchB F (nI e))) 7 0 0 = it (nearS F K C (touchB F (nI e))) m 0 0 := it_more hm fun t s h1 h2 => by
    have hT : ¬ bitI (touchB F (nI e)) (nI t) := fun q => by
      rw [touchB, if_pos hh] at q
      exact FV_no hV h2 h1 ((setB_bit (P := fun o => hasF F (nI o) ∧ bitI (besV (F.1 (nI e).toNatClampNeg)) (F.1 (nI o).toNatClampNeg)) h2).mp q).1
    rw [nearS, if_neg hT, Int32.add_zero]
  rw [nearR, ← h7, (near_go hV he hh hc hce 7 (by omega)).1, nz_mx, nearI, hce, besV_n c hc, bc_eq (and_big (bes_big c hc)), bc_eq (and_big (bes_big c hc))]
/-! ===== what keeps a fire one that can be ===== -/
theorem fup_eq {g : Nat → Int32} {i : Nat} {v : Int32} : fup g i v i = v := if_pos rfl
theorem fup_ne {g : Nat → Int32} {i j : Nat} {v : Int32} (h : j ≠ i) : fup g i v j = g j := if_neg h
theorem FV_heat {m e x : Nat} {F : FS} (hV : FV m F) (hx : x ≤ 20) (hh : hasF F (nI e)) (he : e < 7) : FV m (F.1, fup F.2.1 e (nI x), F.2.2) := by
  refine ⟨fun a ha => ?_, hV.2⟩
  by_cases hae : a = e
  · subst hae
    obtain ⟨h1, c, x1, y1, h2, h3, h4, h5, h6, h7, h8⟩ := FV_in hV ha hh
    exact Or.inr ⟨h1, c, x, y1, h2, hx, h4, h5, h6, fup_eq, h8⟩
  · rcases hV.1 a ha with ⟨h1, h2, h3⟩ | ⟨h1, c, x1, y1, h2, h3, h4, h5, h6, h7, h8⟩
    · exact Or.inl ⟨h1, (fup_ne hae).trans h2, h3⟩
    · exact Or.inr ⟨h1, c, x1, y1, h2, h3, h4, h5, h6, (fup_ne hae).trans h7, h8⟩
theorem FV_fuel {m e y : Nat} {F : FS} (hV : FV m F) (hy : 1 ≤ y) (hy2 : y ≤ 20) (hh : hasF F (nI e)) (he : e < 7) : FV m (F.1, F.2.1, fup F.2.2.1 e (nI y), F.2.2.2) := by
  refine ⟨fun a ha => ?_, hV.2⟩
  by_cases hae : a = e
  · subst hae
    obtain ⟨h1, c, x1, y1, h2, h3, h4, h5, h6, h7, h8⟩ := FV_in hV ha hh
    exact Or.inr ⟨h1, c, x1, y, h2, h3, hy, hy2, h6, h7, fup_eq⟩
  · rcases hV.1 a ha with ⟨h1, h2, h3⟩ | ⟨h1, c, x1, y1, h2, h3, h4, h5, h6, h7, h8⟩
    · exact Or.inl ⟨h1, h2, (fup_ne hae).trans h3⟩
    · exact Or.inr ⟨h1, c, x1, y1, h2, h3, h4, h5, h6, h7, (fup_ne hae).trans h8⟩
/-- taken out, whatever its heat and fuel are -/
theorem FV_gone {m e c : Nat} {F : FS} {x y : Int32} (hV : FV m F) (he : e < 7) (hc : c < 12) (hce : F.1 e = nI c) : FV m (fup F.1 e (-1), fup (fup F.2.1 e x) e 0, fup (fup F.2.2.1 e y) e 0, fup F.2.2.2.1 c (-1), F.2.2.2.2) := by
  refine ⟨fun a ha => ?_, fun d hd => ?_, fun a b ha hb hab => ?_, hV.2.2.2⟩
  · by_cases hae : a = e
    · subst hae; exact Or.inl ⟨fup_eq, fup_eq, fup_eq⟩
    · rcases hV.1 a ha with ⟨h1, h2, h3⟩ | ⟨h1, c1, x1, y1, h2, h3, h4, h5, h6, h7, h8⟩
      · exact Or.inl ⟨(fup_ne hae).trans h1, ((fup_ne hae).trans (fup_ne hae)).trans h2, ((fup_ne hae).trans (fup_ne hae)).trans h3⟩
      · exact Or.inr ⟨h1, c1, x1, y1, h2, h3, h4, h5, (fup_ne hae).trans h6, ((fup_ne hae).trans (fup_ne hae)).trans h7, ((fup_ne hae).trans (fup_ne hae)).trans h8⟩
  · show (fup F.2.2.2.1 c (-1) d = -1 ∧ ∀ a, a < 7 → ¬ fup F.1 e (-1) a = nI d) ∨ ∃ a, a < 7 ∧ fup F.2.2.2.1 c (-1) d = nI a ∧ fup F.1 e (-1) a = nI d
    have hm1 : ∀ a, a < 7 → a = e → ¬ fup F.1 e (-1) a = nI d := fun a ha hae q => by
      subst hae; rw [fup_eq] at q; exact nI_m1 (by omega) q.symm
    by_cases hdc : d = c
    · subst hdc
      refine Or.inl ⟨fup_eq, fun a ha => ?_⟩
      by_cases hae : a = e
      · exact hm1 a ha hae
      · rw [fup_ne hae]
        intro q
        rcases hV.2.2.1 a e ha he (q.trans hce.symm) with h1 | h1
        · rw [q] at h1; exact nI_m1 (by omega) h1
        · exact hae h1
    · rcases hV.2.1 d hd with ⟨h1, h2⟩ | ⟨a, ha, h1, h2⟩
      · refine Or.inl ⟨(fup_ne hdc).trans h1, fun a ha => ?_⟩
        by_cases hae : a = e
        · exact hm1 a ha hae
        · rw [fup_ne hae]; exact h2 a ha
      · have hae : a ≠ e := fun q => by
          subst q
          exact hdc (nI_inj (by omega) (by omega) (h2.symm.trans hce))
        exact Or.inr ⟨a, ha, (fup_ne hdc).trans h1, (fup_ne hae).trans h2⟩
  · by_cases hae : a = e
    · subst hae; exact Or.inl fup_eq
    · by_cases hbe : b = e
      · subst hbe
        have h1 : fup F.1 b (-1) a = -1 := Eq.trans hab fup_eq
        exact Or.inl h1
      · have h1 : F.1 a = F.1 b := by rw [← fup_ne (g := F.1) (v := -1) hae, ← fup_ne (g := F.1) (v := -1) hbe]; exact hab
        rcases hV.2.2.1 a b ha hb h1 with h2 | h2
        · exact Or.inl ((fup_ne hae).trans h2)
        · exact Or.inr h2
theorem fup_self {g : Nat → Int32} {i : Nat} : fup g i (g i) = g := by
  funext j
  unfold fup
  split
  · rename_i h; rw [h]
  · rfl
theorem takeOut_eq {m e c : Nat} {F : FS} (hV : FV m F) (he : e < 7) (hh : hasF F (nI e)) (hce : F.1 e = nI c) (hc : c < 12) : takeOutF F (nI e) = (fup F.1 e (-1), fup F.2.1 e 0, fup F.2.2.1 e 0, fup F.2.2.2.1 c (-1), F.2.2.2.2) := by
  rw [takeOutF, if_pos hh, nI_clamp (by omega), hce, nI_clamp (by omega)]
theorem FV_take {m e : Nat} {F : FS} (hV : FV m F) (he : e < 7) : FV m (takeOutF F (nI e)) := by
  by_cases hh : hasF F (nI e)
  · obtain ⟨_, c, _, _, hc, _, _, _, hce, _⟩ := FV_in hV he hh
    rw [takeOut_eq hV he hh hce hc]
    have h1 := FV_gone (x := F.2.1 e) (y := F.2.2.1 e) hV he hc hce
    rw [fup_self, fup_self] at h1
    exact h1
  · rw [takeOutF, if_neg hh]; exact hV
theorem free_n {F : FS} {c : Nat} (hc : c < 12) : freeF F (nI c) ↔ F.2.2.2.1 c = -1 := by
  unfold freeF
  rw [nI_clamp (by omega)]
  exact ⟨fun q => q.2.2, fun q => ⟨nI_pos (by omega), nI_ge (b := 12) hc (by decide), q⟩⟩
theorem carry_eq {m e c d : Nat} {F : FS} (hV : FV m F) (he : e < 7) (hh : hasF F (nI e)) (hce : F.1 e = nI c) (hc : c < 12) (hd : d < 12) (hf : F.2.2.2.1 d = -1) : carryF F (nI e) (nI d) = (fup F.1 e (nI d), F.2.1, F.2.2.1, fup (fup F.2.2.2.1 c (-1)) d (nI e), F.2.2.2.2) := by
  rw [carryF, if_pos ⟨hh, (free_n hd).mpr hf⟩, nI_clamp (by omega), hce, nI_clamp (by omega), nI_clamp (by omega)]
theorem FV_carry {m e d : Nat} {F : FS} (hV : FV m F) (he : e < 7) (hd : d < 12) : FV m (carryF F (nI e) (nI d)) := by
  by_cases hq : hasF F (nI e) ∧ freeF F (nI d)
  · obtain ⟨hh, hf⟩ := hq
    have hf := (free_n hd).mp hf
    obtain ⟨hem, c, x, y, hc, h3, h4, h5, hce, h7, h8⟩ := FV_in hV he hh
    rw [carry_eq hV he hh hce hc hd hf]
    have hno : ∀ a, a < 7 → ¬ F.1 a = nI d := by
      rcases hV.2.1 d hd with ⟨_, h2⟩ | ⟨a, ha, h1, _⟩
      · exact h2
      · rw [hf] at h1; exact absurd h1.symm (nI_m1 (by omega))
    have hdc : d ≠ c := fun q => hno e he (by rw [q]; exact hce)
    refine ⟨fun a ha => ?_, fun z hz => ?_, fun a b ha hb hab => ?_, hV.2.2.2⟩
    · by_cases hae : a = e
      · subst hae; exact Or.inr ⟨hem, d, x, y, hd, h3, h4, h5, fup_eq, h7, h8⟩
      · rcases hV.1 a ha with ⟨g1, g2, g3⟩ | ⟨g1, c1, x1, y1, g2, g3, g4, g5, g6, g7, g8⟩
        · exact Or.inl ⟨(fup_ne hae).trans g1, g2, g3⟩
        · exact Or.inr ⟨g1, c1, x1, y1, g2, g3, g4, g5, (fup_ne hae).trans g6, g7, g8⟩
    · show (fup (fup F.2.2.2.1 c (-1)) d (nI e) z = -1 ∧ ∀ a, a < 7 → ¬ fup F.1 e (nI d) a = nI z) ∨ ∃ a, a < 7 ∧ fup (fup F.2.2.2.1 c (-1)) d (nI e) z = nI a ∧ fup F.1 e (nI d) a = nI z
      by_cases hzd : z = d
      · subst hzd; exact Or.inr ⟨e, he, fup_eq, fup_eq⟩
      · have hne : ∀ a, a < 7 → a = e → ¬ fup F.1 e (nI d) a = nI z := fun a ha hae q => by
          subst hae; rw [fup_eq] at q; exact hzd (nI_inj (by omega) (by omega) q).symm
        rw [fup_ne hzd]
        by_cases hzc : z = c
        · subst hzc
          refine Or.inl ⟨fup_eq, fun a ha => ?_⟩
          by_cases hae : a = e
          · exact hne a ha hae
          · rw [fup_ne hae]
            intro q
            rcases hV.2.2.1 a e ha he (q.trans hce.symm) with h1 | h1
            · rw [q] at h1; exact nI_m1 (by omega) h1
            · exact hae h1
        · rw [fup_ne hzc]
          rcases hV.2.1 z hz with ⟨h1, h2⟩ | ⟨a, ha, h1, h2⟩
          · refine Or.inl ⟨h1, fun a ha => ?_⟩
            by_cases hae : a = e
            · exact hne a ha hae
            · rw [fup_ne hae]; exact h2 a ha
          · have hae : a ≠ e := fun q => by
              subst q
              exact hzc (nI_inj (by omega) (by omega) (h2.symm.trans hce))
            exact Or.inr ⟨a, ha, h1, (fup_ne hae).trans h2⟩
    · have key : ∀ a, a < 7 → a ≠ e → ¬ fup F.1 e (nI d) a = nI d := fun a ha hae q => by rw [fup_ne hae] at q; exact hno a ha q
      by_cases hae : a = e
      · by_cases hbe : b = e
        · exact Or.inr (hae.trans hbe.symm)
        · subst hae
          exact absurd (Eq.trans hab.symm fup_eq) (key b hb hbe)
      · by_cases hbe : b = e
        · subst hbe
          exact absurd (Eq.trans hab fup_eq) (key a ha hae)
        · have h1 : F.1 a = F.1 b := by rw [← fup_ne (g := F.1) (v := nI d) hae, ← fup_ne (g := F.1) (v := nI d) hbe]; exact hab
          rcases hV.2.2.1 a b ha hb h1 with h2 | h2
          · exact Or.inl ((fup_ne hae).trans h2)
          · exact Or.inr h2
  · rw [carryF, if_neg hq]; exact hV
theorem hasF_m1 {F : FS} : ¬ hasF F (-1) := fun q => q.1 (by decide)
theorem carry_m1 {F : FS} {x : Int32} : carryF F (-1) x = F := by rw [carryF, if_neg fun q => hasF_m1 q.1]
theorem nI_s4 {c : Nat} (h : 4 ≤ c) : nI c - 4 = nI (c - 4) := nIs rfl rfl h
theorem FV_fall {m c : Nat} {F : FS} (hV : FV m F) (h4 : 4 ≤ c) (hc : c < 12) : FV m (fallS c F) := by
  rw [fallS, nI_clamp (by omega), nI_s4 h4]
  rcases hV.2.1 c hc with ⟨h1, _⟩ | ⟨e, he, h1, _⟩
  · rw [h1, carry_m1]; exact hV
  · rw [h1]; exact FV_carry hV he (by omega)
