/-! ===== lines of an evening, as values ===== -/
noncomputable def ebF (W : Nat → List Nat) (m : Nat) (TK : Nat → Tk) (p : Nat) : Nat := cI (¬ nmP TK p) (wrF TK 1 p 0) (cI (¬ ixV W (TK p).2.2.2.1 m 0 < m) (wrF TK 2 p 0) 0)
noncomputable def nbF (TK : Nat → Tk) (a p : Nat) : Nat := cI (nuP TK (if a = 2 then 0 else 1) (if a = 2 then 11 else 9) p 0) (sgF TK (p + 1)) (wrF TK (nmF TK p) p 0)
noncomputable def vL (W : Nat → List Nat) (m : Nat) (TK : Nat → Tk) (i : Nat) (L : ES) : Nat × Nat × ES :=
  cI (¬ whP TK 7 i 0 5) (wrF TK 1 i 0, i, L) (cI (L.length = 40) (wrF TK 5 i 0, i, L) (cI ((TK i).2.2.1 = 7 ∨ (TK i).2.2.1 = 11) (sgF TK (i + 1), i + 2, L ++ [((TK i).2.2.1 - 7, 0, 0)]) (cI ((TK i).2.2.1 = 8) (cI (ebF W m TK (i + 1) = 0) (sgF TK (i + 2)) (ebF W m TK (i + 1)), i + 3, L ++ [(1, ixV W (TK (i + 1)).2.2.2.1 m 0, 0)]) (cI (ebF W m TK (i + 1) = 0) (nbF TK ((TK i).2.2.1 - 7) (i + 2)) (ebF W m TK (i + 1)), i + 4, L ++ [((TK i).2.2.1 - 7, ixV W (TK (i + 1)).2.2.2.1 m 0, (TK (i + 2)).2.2.1)]))))
noncomputable def vRun (W : Nat → List Nat) (m : Nat) (TK : Nat → Tk) : Nat → Nat → ES → Nat × ES
  | 0, _, L => (0, L)
  | k + 1, i, L => cI ((TK i).1 = 0) (0, L) (cI ((vL W m TK i L).1 = 0) (vRun W m TK k (vL W m TK i L).2.1 (vL W m TK i L).2.2) ((vL W m TK i L).1, L))
def lnOK (m : Nat) (x : Nat × Nat × Nat) : Prop := x.1 = 0 ∨ x.1 = 4 ∨ (x.1 = 1 ∧ x.2.1 < m) ∨ (x.1 = 2 ∧ x.2.1 < m ∧ x.2.2 < 12) ∨ (x.1 = 3 ∧ x.2.1 < m ∧ 1 ≤ x.2.2 ∧ x.2.2 ≤ 9)
def vOK (m : Nat) (L : ES) : Prop := L.length ≤ 40 ∧ ∀ k, k < L.length → lnOK m (L.getD k (0, 0, 0))
theorem vOK_sn {m : Nat} {L : ES} {x : Nat × Nat × Nat} (h : vOK m L) (hl : ¬ L.length = 40) (hx : lnOK m x) : vOK m (L ++ [x]) := by
  have := h.1
  refine ⟨by rw [len_sn]; omega, fun k hk => ?_⟩
  rw [len_sn] at hk
  rw [getD_sn hk]
  by_cases q : k = L.length
  · rw [if_pos q]; exact hx
  · rw [if_neg q]; exact h.2 k (by omega)
theorem ebF_0 {W : Nat → List Nat} {m : Nat} {TK : Nat → Tk} {p : Nat} (h : ebF W m TK p = 0) : nmP TK p ∧ ixV W (TK p).2.2.2.1 m 0 < m := by
  unfold ebF at h
  obtain ⟨a, h⟩ := cI_1 h (fun _ => wrF_p (by decide))
  obtain ⟨b, h⟩ := cI_1 h (fun _ => wrF_p (by decide))
  exact ⟨Classical.not_not.mp a, Classical.not_not.mp b⟩
theorem ebF_b {W : Nat → List Nat} {m : Nat} {TK : Nat → Tk} {p : Nat} (hB : ∀ j, TKb (TK j)) : ebF W m TK p < 100000 := cI_lt (wr0_b hB (by decide)) (cI_lt (wr0_b hB (by decide)) (by decide))
theorem nbF_b {TK : Nat → Tk} {a p : Nat} (hB : ∀ j, TKb (TK j)) : nbF TK a p < 100000 := cI_lt (sgF_b hB) (wr0_b hB nmF_5.2)
theorem nbF_0 {TK : Nat → Tk} {a p : Nat} (h : nbF TK a p = 0) : nuP TK (if a = 2 then 0 else 1) (if a = 2 then 11 else 9) p 0 ∧ sgF TK (p + 1) = 0 := cI_0 h (fun _ => wrF_p nmF_5.1)
theorem vL_b {W : Nat → List Nat} {m : Nat} {TK : Nat → Tk} {i : Nat} {L : ES} (hB : ∀ j, TKb (TK j)) : (vL W m TK i L).1 < 100000 := by
  unfold vL
  rw [cI_fst, cI_fst, cI_fst, cI_fst]
  exact cI_lt (wr0_b hB (by decide)) (cI_lt (wr0_b hB (by decide)) (cI_lt (sgF_b hB) (cI_lt (cI_lt (sgF_b hB) (ebF_b hB)) (cI_lt (nbF_b hB) (ebF_b hB)))))
theorem vL_go {W : Nat → List Nat} {m : Nat} {TK : Nat → Tk} {n i : Nat} {L : ES} (hE : (TK n).1 = 0) (hi : i ≤ n) (h0 : ¬ (TK i).1 = 0) (hL : vOK m L) (h : (vL W m TK i L).1 = 0) : i < (vL W m TK i L).2.1 ∧ (vL W m TK i L).2.1 ≤ n ∧ vOK m (vL W m TK i L).2.2 ∧ (vL W m TK i L).2.2.length = L.length + 1 := by
  have hi1 : i + 1 ≤ n := lt_end hE hi h0
  have sgn : ∀ p, p ≤ n → sgF TK p = 0 → p + 1 ≤ n := fun p hp q => lt_end hE hp (by rw [(sgF_0 q).2.1]; decide)
  unfold vL at h ⊢
  by_cases c1 : ¬ whP TK 7 i 0 5
  · rw [cI_t c1] at h; exact absurd h (wrF_p (by decide))
  rw [cI_f c1] at h ⊢
  have c1' := Classical.not_not.mp c1
  by_cases c2 : L.length = 40
  · rw [cI_t c2] at h; exact absurd h (wrF_p (by decide))
  rw [cI_f c2] at h ⊢
  by_cases c3 : (TK i).2.2.1 = 7 ∨ (TK i).2.2.1 = 11
  · rw [cI_t c3] at h ⊢
    exact ⟨show i < i + 2 by omega, sgn _ hi1 h, vOK_sn hL c2 (by unfold lnOK; dsimp only; omega), len_sn⟩
  rw [cI_f c3] at h ⊢
  by_cases c4 : (TK i).2.2.1 = 8
  · rw [cI_t c4] at h ⊢
    obtain ⟨e1, e2⟩ := cI_0 h (fun q => q)
    obtain ⟨e3, e4⟩ := ebF_0 e1
    have hi2 : i + 2 ≤ n := lt_end hE hi1 (by rw [e3.1]; decide)
    exact ⟨show i < i + 3 by omega, sgn _ hi2 e2, vOK_sn hL c2 (Or.inr (Or.inr (Or.inl ⟨rfl, e4⟩))), len_sn⟩
  rw [cI_f c4] at h ⊢
  obtain ⟨e1, e2⟩ := cI_0 h (fun q => q)
  obtain ⟨e3, e4⟩ := ebF_0 e1
  obtain ⟨e5, e6⟩ := nbF_0 e2
  have hi2 : i + 2 ≤ n := lt_end hE hi1 (by rw [e3.1]; decide)
  have hi3 : i + 3 ≤ n := lt_end hE hi2 (by rw [e5.2.1]; decide)
  refine ⟨show i < i + 4 by omega, sgn _ hi3 e6, vOK_sn hL c2 ?_, len_sn⟩
  have c5 := c1'.2.2
  rcases (show (TK i).2.2.1 = 9 ∨ (TK i).2.2.1 = 10 by omega) with q | q
  · rw [q] at e5
    have := e5.2.2.2
    exact Or.inr (Or.inr (Or.inr (Or.inl ⟨by show (TK i).2.2.1 - 7 = 2; omega, e4, by show (TK (i + 2)).2.2.1 < 12; change (TK (i + 2)).2.2.1 ≤ 11 at this; omega⟩)))
  · rw [q] at e5
    exact Or.inr (Or.inr (Or.inr (Or.inr ⟨by show (TK i).2.2.1 - 7 = 3; omega, e4, e5.2.2.1, e5.2.2.2⟩)))
theorem vRun_b {W : Nat → List Nat} {m : Nat} {TK : Nat → Tk} (hB : ∀ j, TKb (TK j)) : ∀ (k i : Nat) (L : ES), (vRun W m TK k i L).1 < 100000 := by
  intro k
  induction k with
  | zero => intro i L; show 0 < 100000; decide
  | succ k ih =>
    intro i L
    rw [vRun]
    by_cases c1 : (TK i).1 = 0
    · rw [cI_t c1]; show 0 < 100000; decide
    rw [cI_f c1]
    by_cases c2 : (vL W m TK i L).1 = 0
    · rw [cI_t c2]; exact ih _ _
    · rw [cI_f c2]; exact vL_b hB
/-! ===== the reference reads an evening: lines ===== -/
def VF (h0 h : AHP) : Prop := h.2 = h0.2 ∧ (∀ a, a ≠ 183 → a ≠ 194 → h.1 a = h0.1 a) ∧ (∀ j, j ≠ 7 → j ≠ 8 → h.1 183 j = h0.1 183 j) ∧ ∀ j, j < 125 → h.1 194 j = h0.1 194 j
theorem VF.rf {h : AHP} : VF h h := ⟨rfl, fun _ _ _ => rfl, fun _ _ _ => rfl, fun _ _ => rfl⟩
theorem VF.std {h0 h : AHP} (hg : VF h0 h) (hS : Std h0) : Std h := by
  unfold Std at hS ⊢
  rw [hg.1]
  exact hS
theorem VF.rq {h0 h : AHP} {TK : Nat → Tk} {n : Nat} (hg : VF h0 h) (hR : RQ h0 TK n) : RQ h TK n := by
  obtain ⟨r1, r2, r3, r4, r5⟩ := hR
  refine ⟨hg.std r1, fun j hj => ?_, r3, r4, fun j hj => by rw [hg.1]; exact r5 j hj⟩
  have := r2 j hj
  unfold TkR at this ⊢
  rw [hg.1, hg.2.1 185 (by decide) (by decide), hg.2.1 186 (by decide) (by decide)]
  exact this
theorem VF.at {h0 h : AHP} {i f : Nat} (hg : VF h0 h) : VF h0 (AT h i f) := ⟨hg.1, fun a q1 q2 => by rw [AT_r q1]; exact hg.2.1 a q1 q2, fun j q1 q2 => by rw [AT_o q1 q2]; exact hg.2.2.1 j q1 q2, fun j hj => by rw [AT_r (by decide)]; exact hg.2.2.2 j hj⟩
theorem VF.row {h0 h : AHP} {r : Nat → Int32} (hg : VF h0 h) (hr : ∀ j, j < 125 → r j = h.1 194 j) : VF h0 (rowI h 194 r) := ⟨hg.1, fun a q1 q2 => by rw [rowI_ne q2]; exact hg.2.1 a q1 q2, fun j q1 q2 => by rw [rowI_ne (by decide)]; exact hg.2.2.1 j q1 q2, fun j hj => by rw [rowI_at, hr j hj]; exact hg.2.2.2 j hj⟩
def VD (h : AHP) (L : ES) : Prop := ∀ k, k < L.length → h.1 194 (125 + 3 * k) = nI (L.getD k (0, 0, 0)).1 ∧ h.1 194 (126 + 3 * k) = nI (L.getD k (0, 0, 0)).2.1 ∧ h.1 194 (127 + 3 * k) = nI (L.getD k (0, 0, 0)).2.2
def RVs (h0 h : AHP) (i : Nat) (L : ES) : Prop := VF h0 h ∧ h.1 183 7 = nI i ∧ h.1 183 8 = nI 0 ∧ VD h L
def RVF (h0 h : AHP) (n F : Nat) : Prop := VF h0 h ∧ F < 100000 ∧ ∃ i, i ≤ n ∧ h.1 183 7 = nI i ∧ h.1 183 8 = nI F
theorem RVs.id {h0 h : AHP} {i : Nat} {L : ES} (hs : RVs h0 h i L) : AT h i 0 = h := AT_id hs.2.1 hs.2.2.1
theorem RVs_at {h0 h : AHP} {i i2 : Nat} {L : ES} (hs : RVs h0 h i L) : RVs h0 (AT h i2 0) i2 L := ⟨hs.1.at, AT_7, AT_8, fun k hk => by rw [AT_r (by decide)]; exact hs.2.2.2 k hk⟩
theorem RVF_at {h0 h : AHP} {n i F : Nat} (hg : VF h0 h) (hi : i ≤ n) (hF : F < 100000) : RVF h0 (AT h i F) n F := ⟨hg.at, hF, i, hi, AT_7, AT_8⟩
theorem r3F_lo {r : Nat → Int32} {n a e x j : Nat} (h : j < 125 + 3 * n ∨ 127 + 3 * n < j) : r3F r n a e x j = r j := (if_neg (by omega)).trans ((if_neg (by omega)).trans (if_neg (by omega)))
theorem VF_r3 {h0 h : AHP} {n a e x : Nat} (hg : VF h0 h) : VF h0 (rowI h 194 (r3F (h.1 194) n a e x)) := hg.row (fun j hj => r3F_lo (by omega))
theorem RVs_ln {h0 h : AHP} {i i2 : Nat} {L : ES} {a e x : Nat} (hs : RVs h0 h i L) : RVs h0 (AT (rowI h 194 (r3F (h.1 194) L.length a e x)) i2 0) i2 (L ++ [(a, e, x)]) := by
  refine ⟨(VF_r3 hs.1).at, AT_7, AT_8, fun k hk => ?_⟩
  rw [len_sn] at hk
  rw [AT_r (by decide), rowI_at, getD_sn hk]
  by_cases q : k = L.length
  · subst q
    rw [if_pos rfl]
    exact ⟨(if_neg (by omega)).trans ((if_neg (by omega)).trans (if_pos rfl)), (if_neg (by omega)).trans (if_pos rfl), if_pos rfl⟩
  · rw [if_neg q, r3F_lo (by omega), r3F_lo (by omega), r3F_lo (by omega)]
    exact hs.2.2.2 k (by omega)
section RVL
variable {d : Nat} {h0 h : AHP} {TK : Nat → Tk} {n : Nat} {Q : Option Value → AHP → Prop}
theorem rv_sg {p n1 : Nat} {L : ES} {x2 : Option Value} (hR0 : RQ h0 TK n) (hs : RVs h0 h p L) (hp : p ≤ n) (hq0 : sgF TK p = 0 → ∀ h2, RVs h0 h2 (p + 1) L → TT (d + 6) 187 11 [some (.ref 183), some (.int (nI n1)), x2] [] h2 Q) (hq1 : ¬ sgF TK p = 0 → ∀ h2, RVF h0 h2 n (sgF TK p) → TT (d + 6) 187 11 [some (.ref 183), some (.int (nI n1)), x2] [] h2 Q) : TT (d + 6) 187 156 [some (.ref 183), some (.int (nI n1)), x2] [] h Q := by
  have hR := hs.1.rq hR0
  rw [← hs.id]
  unfold sgF at hq0 hq1
  by_cases hw : isS TK 59 p 0
  · rw [cI_t hw] at hq0
    exact r_v156Y hR hp hw (hq0 rfl _ (RVs_at hs))
  · rw [cI_f hw] at hq1
    exact r_v156N hR hp hw (hq1 (wrF_p (by decide)) _ (RVF_at hs.1 hp (wr0_b hR.2.2.2.1 (by decide))))
theorem rv_sf {F n1 : Nat} {x2 : Option Value} (hR0 : RQ h0 TK n) (hs : RVF h0 h n F) (hF : ¬ F = 0) (hq : ∀ h2, RVF h0 h2 n F → TT (d + 6) 187 11 [some (.ref 183), some (.int (nI n1)), x2] [] h2 Q) : TT (d + 6) 187 156 [some (.ref 183), some (.int (nI n1)), x2] [] h Q := by
  obtain ⟨g0, hF5, i, hi, h7, h8⟩ := hs
  have hR := g0.rq hR0
  rw [← AT_id h7 h8]
  exact r_v156F hR hi hF5 hF (hq _ (RVF_at g0 hi hF5))
/-- names, as the reference holds them -/
def NW (h : AHP) (W : Nat → List Nat) (m : Nat) : Prop := h.1 183 16 = nI m ∧ m ≤ 7 ∧ ∀ k, k < m → okW (W k) ∧ h.2.1 192 k = lN (n37 (W k))
theorem NW_fi {W : Nat → List Nat} {m p : Nat} (hR : RQ h TK n) (hp : p ≤ n) (hW : NW h W m) (hN : nmP TK p) : ∀ k, k < m → (h.2.1 192 k = h.2.1 187 p ↔ W k = (TK p).2.2.2.1) := by
  intro k hk
  have hw := (hR.2.1 p hp).2.2.1 hN.1
  have hok := ((hR.2.2.2.1 p).2.2.2 hN.1).1
  rw [hw, (hW.2.2 k hk).2]
  exact n37_eq (hW.2.2 k hk).1 hok
theorem r_vline {i m : Nat} {W : Nat → List Nat} {L : ES} {x2 : Option Value} (hR0 : RQ h0 TK n) (hE : (TK n).1 = 0) (hW : NW h0 W m) (hs : RVs h0 h i L) (hL : vOK m L) (hi : i ≤ n) (hn0 : ¬ (TK i).1 = 0) (hq0 : (vL W m TK i L).1 = 0 → ∀ h2 x2, RVs h0 h2 (vL W m TK i L).2.1 (vL W m TK i L).2.2 → TT (d + 6) 187 11 [some (.ref 183), some (.int (nI (vL W m TK i L).2.2.length)), x2] [] h2 Q) (hq1 : ¬ (vL W m TK i L).1 = 0 → ∀ h2 n1 x2, RVF h0 h2 n (vL W m TK i L).1 → TT (d + 6) 187 11 [some (.ref 183), some (.int (nI n1)), x2] [] h2 Q) : TT (d + 6) 187 11 [some (.ref 183), some (.int (nI L.length)), x2] [] h Q := by
  have hR := hs.1.rq hR0
  have hB := hR.2.2.2.1
  have hi1 : i + 1 ≤ n := lt_end hE hi hn0
  have hgF := hs.1
  have hm : h.1 183 16 = nI m := by rw [hs.1.2.2.1 16 (by decide) (by decide)]; exact hW.1
  have hW' : NW h W m := ⟨hm, hW.2.1, fun k hk => by rw [hs.1.1]; exact hW.2.2 k hk⟩
  have hid := hs.id
  have e4 : rowI h 194 (h.1 194) = h := rowI_id
  unfold vL at hq0 hq1
  by_cases c1 : ¬ whP TK 7 i 0 5
  · rw [cI_t c1] at hq1
    rw [← hid]
    exact r_v1 hR hi hn0 c1 (fun x => rv_sf hR0 (RVF_at hgF hi (wr0_b hB (by decide))) (wrF_p (by decide)) (fun h2 q => hq1 (wrF_p (by decide)) h2 _ x q))
  rw [cI_f c1] at hq0 hq1
  have c1' := Classical.not_not.mp c1
  have c5 := c1'.2.2
  by_cases c2 : L.length = 40
  · rw [cI_t c2] at hq1
    rw [← hid]
    exact r_v5 hR hi hn0 c1' c2 (fun x => rv_sf hR0 (RVF_at hgF hi (wr0_b hB (by decide))) (wrF_p (by decide)) (fun h2 q => hq1 (wrF_p (by decide)) h2 _ x q))
  rw [cI_f c2] at hq0 hq1
  have h40 : L.length < 40 := by have := hL.1; omega
  rw [← hid, ← e4]
  by_cases c3 : (TK i).2.2.1 = 7 ∨ (TK i).2.2.1 = 11
  · rw [cI_t c3] at hq0 hq1
    rcases c3 with q | q
    · rw [show (TK i).2.2.1 - 7 = 0 by omega] at hq0
      exact r_b0 (r := h.1 194) hR hi hn0 hi1 h40 ⟨rfl, c1'.2.1, q⟩ (fun x => rv_sg hR0 (RVs_ln (i2 := i + 1) (a := 0) (e := 0) (x := 0) hs) hi1 (fun hF h2 hs2 => by have := hq0 hF h2 x hs2; rw [show (L ++ [((0 : Nat), (0 : Nat), (0 : Nat))]).length = L.length + 1 from len_sn] at this; exact this) (fun hF h2 q2 => hq1 hF h2 _ x q2))
    · rw [show (TK i).2.2.1 - 7 = 4 by omega] at hq0
      exact r_b4 (r := h.1 194) hR hi hn0 hi1 h40 ⟨rfl, c1'.2.1, q⟩ (fun x => rv_sg hR0 (RVs_ln (i2 := i + 1) (a := 4) (e := 0) (x := 0) hs) hi1 (fun hF h2 hs2 => by have := hq0 hF h2 x hs2; rw [show (L ++ [((4 : Nat), (0 : Nat), (0 : Nat))]).length = L.length + 1 from len_sn] at this; exact this) (fun hF h2 q2 => hq1 hF h2 _ x q2))
  rw [cI_f c3] at hq0 hq1
  have hfi := fun hN => NW_fi (p := i + 1) hR hi1 hW' hN
  by_cases c4 : (TK i).2.2.1 = 8
  · rw [cI_t c4] at hq0 hq1
    by_cases d1 : ¬ nmP TK (i + 1)
    · have ee : ebF W m TK (i + 1) = wrF TK 1 (i + 1) 0 := cI_t d1
      have e0 : ¬ ebF W m TK (i + 1) = 0 := by rw [ee]; exact wrF_p (by decide)
      rw [cI_f e0, ee] at hq1
      exact r_b11 (r := h.1 194) hR hi hn0 hi1 h40 ⟨rfl, c1'.2.1, c4⟩ hm hW.2.1 d1 (fun x => rv_sf hR0 (RVF_at (VF_r3 hgF) hi1 (wr0_b hB (by decide))) (wrF_p (by decide)) (fun h2 q => hq1 (wrF_p (by decide)) h2 _ x q))
    have d1' := Classical.not_not.mp d1
    have ixs := ix_s (W := W) (w := (TK (i + 1)).2.2.2.1) m 0
    rw [Nat.zero_add] at ixs
    by_cases d2 : ¬ ixV W (TK (i + 1)).2.2.2.1 m 0 < m
    · have ee : ebF W m TK (i + 1) = wrF TK 2 (i + 1) 0 := (cI_f d1).trans (cI_t d2)
      have e0 : ¬ ebF W m TK (i + 1) = 0 := by rw [ee]; exact wrF_p (by decide)
      rw [cI_f e0, ee] at hq1
      have hu : ¬ ∃ k, k < m ∧ h.2.1 192 k = h.2.1 187 (i + 1) := fun ⟨k, k1, k2⟩ => ixs.2.2.2 k (Nat.zero_le _) (by omega) ((hfi d1' k k1).mp k2)
      exact r_b12 (r := h.1 194) hR hi hn0 hi1 h40 ⟨rfl, c1'.2.1, c4⟩ hm hW.2.1 d1' hu (fun x => rv_sf hR0 (RVF_at (VF_r3 hgF) hi1 (wr0_b hB (by decide))) (wrF_p (by decide)) (fun h2 q => hq1 (wrF_p (by decide)) h2 _ x q))
    have d2' := Classical.not_not.mp d2
    have ee : ebF W m TK (i + 1) = 0 := (cI_f d1).trans (cI_f d2)
    rw [cI_t ee] at hq0 hq1
    have hi2 : i + 2 ≤ n := lt_end hE hi1 (by rw [d1'.1]; decide)
    exact r_b1Y (r := h.1 194) hR hi hn0 hi1 h40 ⟨rfl, c1'.2.1, c4⟩ hm hW.2.1 d1' d2' ((hfi d1' _ d2').mpr (ixs.2.2.1 d2')) (fun a q => (FIp_ix (hfi d1') q).1 d2') (fun x => rv_sg hR0 (RVs_ln (i2 := i + 2) (a := 1) (e := ixV W (TK (i + 1)).2.2.2.1 m 0) (x := 0) hs) hi2 (fun hF h2 hs2 => by have := hq0 hF h2 x hs2; rw [show (L ++ [((1 : Nat), ixV W (TK (i + 1)).2.2.2.1 m 0, (0 : Nat))]).length = L.length + 1 from len_sn] at this; exact this) (fun hF h2 q2 => hq1 hF h2 _ x q2))
  rw [cI_f c4] at hq0 hq1
  rcases (show (TK i).2.2.1 = 9 ∨ (TK i).2.2.1 = 10 by omega) with ca | ca
  · rw [show (TK i).2.2.1 - 7 = 2 by omega] at hq0 hq1
    by_cases d1 : ¬ nmP TK (i + 1)
    · have ee : ebF W m TK (i + 1) = wrF TK 1 (i + 1) 0 := cI_t d1
      have e0 : ¬ ebF W m TK (i + 1) = 0 := by rw [ee]; exact wrF_p (by decide)
      rw [cI_f e0, ee] at hq1
      exact r_b21 (r := h.1 194) hR hi hn0 hi1 h40 ⟨rfl, c1'.2.1, ca⟩ hm hW.2.1 d1 (fun x => rv_sf hR0 (RVF_at (VF_r3 hgF) hi1 (wr0_b hB (by decide))) (wrF_p (by decide)) (fun h2 q => hq1 (wrF_p (by decide)) h2 _ x q))
    have d1' := Classical.not_not.mp d1
    have ixs := ix_s (W := W) (w := (TK (i + 1)).2.2.2.1) m 0
    rw [Nat.zero_add] at ixs
    by_cases d2 : ¬ ixV W (TK (i + 1)).2.2.2.1 m 0 < m
    · have ee : ebF W m TK (i + 1) = wrF TK 2 (i + 1) 0 := (cI_f d1).trans (cI_t d2)
      have e0 : ¬ ebF W m TK (i + 1) = 0 := by rw [ee]; exact wrF_p (by decide)
      rw [cI_f e0, ee] at hq1
      have hu : ¬ ∃ k, k < m ∧ h.2.1 192 k = h.2.1 187 (i + 1) := fun ⟨k, k1, k2⟩ => ixs.2.2.2 k (Nat.zero_le _) (by omega) ((hfi d1' k k1).mp k2)
      exact r_b22 (r := h.1 194) hR hi hn0 hi1 h40 ⟨rfl, c1'.2.1, ca⟩ hm hW.2.1 d1' hu (fun x => rv_sf hR0 (RVF_at (VF_r3 hgF) hi1 (wr0_b hB (by decide))) (wrF_p (by decide)) (fun h2 q => hq1 (wrF_p (by decide)) h2 _ x q))
    have d2' := Classical.not_not.mp d2
    have ee : ebF W m TK (i + 1) = 0 := (cI_f d1).trans (cI_f d2)
    rw [cI_t ee] at hq0 hq1
    have hi2 : i + 2 ≤ n := lt_end hE hi1 (by rw [d1'.1]; decide)
    by_cases d3 : nuP TK 0 11 (i + 2) 0
    · have en : nbF TK 2 (i + 2) = sgF TK (i + 3) := cI_t d3
      rw [en] at hq0 hq1
      have hi3 : i + 3 ≤ n := lt_end hE hi2 (by rw [d3.2.1]; decide)
      exact r_b2Y (r := h.1 194) hR hi hn0 hi1 h40 ⟨rfl, c1'.2.1, ca⟩ hm hW.2.1 d1' d2' ((hfi d1' _ d2').mpr (ixs.2.2.1 d2')) (fun a q => (FIp_ix (hfi d1') q).1 d2') hi2 d3 (fun x => rv_sg hR0 (RVs_ln (i2 := i + 3) (a := 2) (e := ixV W (TK (i + 1)).2.2.2.1 m 0) (x := (TK (i + 2)).2.2.1) hs) hi3 (fun hF h2 hs2 => by have := hq0 hF h2 x hs2; rw [show (L ++ [((2 : Nat), ixV W (TK (i + 1)).2.2.2.1 m 0, (TK (i + 2)).2.2.1)]).length = L.length + 1 from len_sn] at this; exact this) (fun hF h2 q2 => hq1 hF h2 _ x q2))
    · have en : nbF TK 2 (i + 2) = wrF TK (nmF TK (i + 2)) (i + 2) 0 := cI_f d3
      rw [en] at hq1
      exact r_b2N (r := h.1 194) hR hi hn0 hi1 h40 ⟨rfl, c1'.2.1, ca⟩ hm hW.2.1 d1' d2' ((hfi d1' _ d2').mpr (ixs.2.2.1 d2')) (fun a q => (FIp_ix (hfi d1') q).1 d2') hi2 d3 (fun x => rv_sf hR0 (RVF_at (VF_r3 hgF) hi2 (wr0_b hB nmF_5.2)) (wrF_p nmF_5.1) (fun h2 q => hq1 (wrF_p nmF_5.1) h2 _ x q))
  · rw [show (TK i).2.2.1 - 7 = 3 by omega] at hq0 hq1
    by_cases d1 : ¬ nmP TK (i + 1)
    · have ee : ebF W m TK (i + 1) = wrF TK 1 (i + 1) 0 := cI_t d1
      have e0 : ¬ ebF W m TK (i + 1) = 0 := by rw [ee]; exact wrF_p (by decide)
      rw [cI_f e0, ee] at hq1
      exact r_b31 (r := h.1 194) hR hi hn0 hi1 h40 ⟨rfl, c1'.2.1, ca⟩ hm hW.2.1 d1 (fun x => rv_sf hR0 (RVF_at (VF_r3 hgF) hi1 (wr0_b hB (by decide))) (wrF_p (by decide)) (fun h2 q => hq1 (wrF_p (by decide)) h2 _ x q))
    have d1' := Classical.not_not.mp d1
    have ixs := ix_s (W := W) (w := (TK (i + 1)).2.2.2.1) m 0
    rw [Nat.zero_add] at ixs
    by_cases d2 : ¬ ixV W (TK (i + 1)).2.2.2.1 m 0 < m
    · have ee : ebF W m TK (i + 1) = wrF TK 2 (i + 1) 0 := (cI_f d1).trans (cI_t d2)
      have e0 : ¬ ebF W m TK (i + 1) = 0 := by rw [ee]; exact wrF_p (by decide)
      rw [cI_f e0, ee] at hq1
      have hu : ¬ ∃ k, k < m ∧ h.2.1 192 k = h.2.1 187 (i + 1) := fun ⟨k, k1, k2⟩ => ixs.2.2.2 k (Nat.zero_le _) (by omega) ((hfi d1' k k1).mp k2)
      exact r_b32 (r := h.1 194) hR hi hn0 hi1 h40 ⟨rfl, c1'.2.1, ca⟩ hm hW.2.1 d1' hu (fun x => rv_sf hR0 (RVF_at (VF_r3 hgF) hi1 (wr0_b hB (by decide))) (wrF_p (by decide)) (fun h2 q => hq1 (wrF_p (by decide)) h2 _ x q))
    have d2' := Classical.not_not.mp d2
    have ee : ebF W m TK (i + 1) = 0 := (cI_f d1).trans (cI_f d2)
    rw [cI_t ee] at hq0 hq1
    have hi2 : i + 2 ≤ n := lt_end hE hi1 (by rw [d1'.1]; decide)
    by_cases d3 : nuP TK 1 9 (i + 2) 0
    · have en : nbF TK 3 (i + 2) = sgF TK (i + 3) := cI_t d3
      rw [en] at hq0 hq1
      have hi3 : i + 3 ≤ n := lt_end hE hi2 (by rw [d3.2.1]; decide)
      exact r_b3Y (r := h.1 194) hR hi hn0 hi1 h40 ⟨rfl, c1'.2.1, ca⟩ hm hW.2.1 d1' d2' ((hfi d1' _ d2').mpr (ixs.2.2.1 d2')) (fun a q => (FIp_ix (hfi d1') q).1 d2') hi2 d3 (fun x => rv_sg hR0 (RVs_ln (i2 := i + 3) (a := 3) (e := ixV W (TK (i + 1)).2.2.2.1 m 0) (x := (TK (i + 2)).2.2.1) hs) hi3 (fun hF h2 hs2 => by have := hq0 hF h2 x hs2; rw [show (L ++ [((3 : Nat), ixV W (TK (i + 1)).2.2.2.1 m 0, (TK (i + 2)).2.2.1)]).length = L.length + 1 from len_sn] at this; exact this) (fun hF h2 q2 => hq1 hF h2 _ x q2))
    · have en : nbF TK 3 (i + 2) = wrF TK (nmF TK (i + 2)) (i + 2) 0 := cI_f d3
      rw [en] at hq1
      exact r_b3N (r := h.1 194) hR hi hn0 hi1 h40 ⟨rfl, c1'.2.1, ca⟩ hm hW.2.1 d1' d2' ((hfi d1' _ d2').mpr (ixs.2.2.1 d2')) (fun a q => (FIp_ix (hfi d1') q).1 d2') hi2 d3 (fun x => rv_sf hR0 (RVF_at (VF_r3 hgF) hi2 (wr0_b hB nmF_5.2)) (wrF_p nmF_5.1) (fun h2 q => hq1 (wrF_p nmF_5.1) h2 _ x q))
end RVL
theorem r_vlines {d : Nat} {h0 : AHP} {TK : Nat → Tk} {n m : Nat} {W : Nat → List Nat} {Q : Option Value → AHP → Prop} (hR0 : RQ h0 TK n) (hE : (TK n).1 = 0) (hW : NW h0 W m) : ∀ (k i : Nat) (L : ES) (h : AHP) (x2 : Option Value), n - i < k → i ≤ n → vOK m L → RVs h0 h i L → ((vRun W m TK k i L).1 = 0 → ∀ h2 i2 x2, RVs h0 h2 i2 (vRun W m TK k i L).2 → vOK m (vRun W m TK k i L).2 → TT (d + 6) 187 165 [some (.ref 183), some (.int (nI (vRun W m TK k i L).2.length)), x2] [] h2 Q) → (¬ (vRun W m TK k i L).1 = 0 → ∀ h2 n1 x2, RVF h0 h2 n (vRun W m TK k i L).1 → TT (d + 6) 187 165 [some (.ref 183), some (.int (nI n1)), x2] [] h2 Q) → TT (d + 6) 187 11 [some (.ref 183), some (.int (nI L.length)), x2] [] h Q := by
  intro k
  induction k with
  | zero => intro i L h x2 h1; omega
  | succ k ih =>
    intro i L h x2 hk hi hL hs hq0 hq1
    have hR := hs.1.rq hR0
    rw [vRun] at hq0 hq1
    by_cases c1 : (TK i).1 = 0
    · rw [cI_t c1] at hq0
      rw [← hs.id]
      refine r_v11E hR hi c1 ?_
      rw [hs.id]
      exact hq0 rfl h i x2 hs hL
    rw [cI_f c1] at hq0 hq1
    refine r_vline hR0 hE hW hs hL hi c1 (fun hF h2 y2 hs2 => ?_) (fun hF h2 n1 y2 hs2 => ?_)
    · rw [cI_t hF] at hq0 hq1
      have g1 := vL_go hE hi c1 hL hF
      exact ih _ _ h2 y2 (by omega) g1.2.1 g1.2.2.1 hs2 hq0 hq1
    · rw [cI_f hF] at hq1
      have hq2 := hq1 hF h2 n1 y2 hs2
      obtain ⟨g0, hF5, i2, hi2, h7, h8⟩ := hs2
      rw [← AT_id h7 h8] at hq2 ⊢
      exact r_v11F (g0.rq hR0) hi2 hF5 hF hq2
set_option maxRecDepth 8000 in
theorem r_v165F {d : Nat} {h : AHP} {TK : Nat → Tk} {n i f : Nat} (hR : RQ h TK n) (hi : i ≤ n) (hf : f < 100000) (h0 : ¬ f = 0) {n1 : Nat} {x2 : Option Value} {Q : Option Value → AHP → Prop} (hq : Q (some (.int (nI f))) (AT h i f)) : TT (d + 6) 187 165 [some (.ref 183), some (.int (nI n1)), x2] [] (AT h i f) Q := by
  have hS := hR.1
  have hB := hR.2.2.2.1
  have hn := hR.2.2.1
  refine t_go (op := o_aload 166 0) (fe_X12_evening 165) (fun _ _ => rfl) ?_
  refine t_go (op := o_getI 169 11 8) (fe_X12_evening 166) (g_getI hS (show (lay 183).1 = 11 by decide) (by decide)) ?_
  rw [show (AT h i f).1 183 8 = nI f from AT_8]
  refine t_ite (op := o_if 172 177 (fun x => x ≤ 0) (fun _ => inferInstance)) (fe_X12_evening 169) g_if (fun c1 => ?_) (fun c1 => ?_)
  · exact absurd ((le_0 hf).mp c1) h0
  · refine t_go (op := o_aload 173 0) (fe_X12_evening 172) (fun _ _ => rfl) ?_
    refine t_go (op := o_getI 176 11 8) (fe_X12_evening 173) (g_getI hS (show (lay 183).1 = 11 by decide) (by decide)) ?_
    rw [show (AT h i f).1 183 8 = nI f from AT_8]
    refine t_ret (op := o_iret) (fe_X12_evening 176) (fun _ _ => rfl) ?_
    exact hq
set_option maxRecDepth 8000 in
theorem r_v165Y {d : Nat} {h : AHP} {n1 : Nat} {x2 : Option Value} (hS : Std h) (h8 : h.1 183 8 = nI 0) {Q : Option Value → AHP → Prop} (hq : TT (d + 6) 187 186 [some (.ref 183), some (.int (nI n1)), some (.int (nI 0))] [] (sI h 194 0 (nI n1)) Q) : TT (d + 6) 187 165 [some (.ref 183), some (.int (nI n1)), x2] [] h Q := by
  refine t_go (op := o_aload 166 0) (fe_X12_evening 165) (fun _ _ => rfl) ?_
  refine t_go (op := o_getI 169 11 8) (fe_X12_evening 166) (g_getI hS (show (lay 183).1 = 11 by decide) (by decide)) ?_
  rw [h8]
  refine t_ite (op := o_if 172 177 (fun x => x ≤ 0) (fun _ => inferInstance)) (fe_X12_evening 169) g_if (fun c1 => ?_) (fun c1 => ?_)
  · refine t_go (op := o_aload 178 0) (fe_X12_evening 177) (fun _ _ => rfl) ?_
    refine t_go (op := o_getR 181 11 19) (fe_X12_evening 178) (g_getR hS (show (lay 183).1 = 11 by decide) (by decide) (fr_11_19 hS) (by decide)) ?_
    refine t_go (op := o_ci 182 0) (fe_X12_evening 181) (fun _ _ => rfl) ?_
    refine t_go (op := o_iload 183 1) (fe_X12_evening 182) (fun _ _ => rfl) ?_
    refine t_go (op := o_iast 184) (fe_X12_evening 183) (g_iastN hS (show lay 194 = (20, 250) by decide) (nIl 0) (by omega) (by decide)) ?_
    refine t_go (op := o_ci 185 0) (fe_X12_evening 184) (fun _ _ => rfl) ?_
    refine t_go (op := o_istore 186 2) (fe_X12_evening 185) (fun _ _ => rfl) ?_
    exact hq
  · exact absurd (Int32.le_refl _) c1
set_option maxRecDepth 8000 in
theorem lr_vc {d : Nat} {h : AHP} {n1 : Nat} (hS0 : Std h) (h40 : n1 ≤ 40) {Q : Option Value → AHP → Prop} : ∀ (j i : Nat) (S : AHP), i + j = (3 * n1) → (S.2 = h.2 ∧ (∀ a, a ≠ 194 → S.1 a = h.1 a) ∧ S.1 194 0 = h.1 194 0 ∧ (∀ j, 121 ≤ j → S.1 194 j = h.1 194 j) ∧ ∀ j, j < i → S.1 194 (1 + j) = h.1 194 (125 + j)) → (∀ S2, (S2.2 = h.2 ∧ (∀ a, a ≠ 194 → S2.1 a = h.1 a) ∧ S2.1 194 0 = h.1 194 0 ∧ ∀ j, j < 3 * n1 → S2.1 194 (1 + j) = h.1 194 (125 + j)) → Q (some (.int 0)) S2) → TT (d + 6) 187 186 [some (.ref 183), some (.int (nI n1)), some (.int (nI i))] [] S Q := by
  intro j
  induction j with
  | zero =>
    intro i S hi hg hq
    have hN : i = (3 * n1) := by omega
    have hS : Std S := by
      unfold Std at hS0 ⊢
      rw [hg.1]
      exact hS0
    refine t_go (op := o_iload 187 2) (fe_X12_evening 186) (fun _ _ => rfl) ?_
    refine t_go (op := o_ci 188 3) (fe_X12_evening 187) (fun _ _ => rfl) ?_
    refine t_go (op := o_iload 189 1) (fe_X12_evening 188) (fun _ _ => rfl) ?_
    refine t_go (op := o_i2 190 (fun x y => x * y)) (fe_X12_evening 189) (fun _ _ => rfl) ?_
    rw [show (fun x y : Int32 => x * y) 3 (nI n1) = nI (3 * n1) from nIm (nIl 3) rfl]
    refine t_ite (op := o_icmp 193 216 (fun x y => y ≤ x) (fun _ _ => inferInstance)) (fe_X12_evening 190) g_icmp (fun c1 => ?_) (fun c1 => ?_)
    · refine t_go (op := o_ci 217 0) (fe_X12_evening 216) (fun _ _ => rfl) ?_
      refine t_ret (op := o_iret) (fe_X12_evening 217) (fun _ _ => rfl) ?_
      exact hq _ ⟨hg.1, hg.2.1, hg.2.2.1, fun j hj => hg.2.2.2.2 j (by omega)⟩
    · exact absurd (by rw [hN]; exact Int32.le_refl _) c1
  | succ j ih =>
    intro i S hi hg hq
    have hi7 : i < (3 * n1) := by omega
    have hS : Std S := by
      unfold Std at hS0 ⊢
      rw [hg.1]
      exact hS0
    refine t_go (op := o_iload 187 2) (fe_X12_evening 186) (fun _ _ => rfl) ?_
    refine t_go (op := o_ci 188 3) (fe_X12_evening 187) (fun _ _ => rfl) ?_
    refine t_go (op := o_iload 189 1) (fe_X12_evening 188) (fun _ _ => rfl) ?_
    refine t_go (op := o_i2 190 (fun x y => x * y)) (fe_X12_evening 189) (fun _ _ => rfl) ?_
    rw [show (fun x y : Int32 => x * y) 3 (nI n1) = nI (3 * n1) from nIm (nIl 3) rfl]
    refine t_ite (op := o_icmp 193 216 (fun x y => y ≤ x) (fun _ _ => inferInstance)) (fe_X12_evening 190) g_icmp (fun c1 => ?_) (fun c1 => ?_)
    · exact absurd c1 (nI_ge hi7 (by omega))
    · refine t_go (op := o_aload 194 0) (fe_X12_evening 193) (fun _ _ => rfl) ?_
      refine t_go (op := o_getR 197 11 19) (fe_X12_evening 194) (g_getR hS (show (lay 183).1 = 11 by decide) (by decide) (fr_11_19 hS) (by decide)) ?_
      refine t_go (op := o_ci 198 1) (fe_X12_evening 197) (fun _ _ => rfl) ?_
      refine t_go (op := o_iload 199 2) (fe_X12_evening 198) (fun _ _ => rfl) ?_
      refine t_go (op := o_i2 200 (fun x y => x + y)) (fe_X12_evening 199) (fun _ _ => rfl) ?_
      refine t_go (op := o_aload 201 0) (fe_X12_evening 200) (fun _ _ => rfl) ?_
      refine t_go (op := o_getR 204 11 19) (fe_X12_evening 201) (g_getR hS (show (lay 183).1 = 11 by decide) (by decide) (fr_11_19 hS) (by decide)) ?_
      refine t_go (op := o_ci 206 125) (fe_X12_evening 204) (fun _ _ => rfl) ?_
      refine t_go (op := o_iload 207 2) (fe_X12_evening 206) (fun _ _ => rfl) ?_
      refine t_go (op := o_i2 208 (fun x y => x + y)) (fe_X12_evening 207) (fun _ _ => rfl) ?_
      refine t_go (op := o_iald 209) (fe_X12_evening 208) (g_ialdN hS (show lay 194 = (20, 250) by decide) (nIa (nIl 125) rfl) (by omega) (by decide)) ?_
      refine t_go (op := o_iast 210) (fe_X12_evening 209) (g_iastN hS (show lay 194 = (20, 250) by decide) (nIa (nIl 1) rfl) (by omega) (by decide)) ?_
      refine t_go (op := o_iinc 213 2 1) (fe_X12_evening 210) (fun _ _ => rfl) ?_
      refine t_go (op := o_goto 186) (fe_X12_evening 213) (fun _ _ => rfl) ?_
      rw [nI_1]
      exact ih (i + 1) _ (by omega) ⟨hg.1, fun a ha => (sI_ne ha).trans (hg.2.1 a ha), (sI_nr (by omega)).trans hg.2.2.1, fun j hj => (sI_nr (by omega)).trans (hg.2.2.2.1 j hj), fun j hj => by
        by_cases q : j = i
        · subst q; rw [sI_eq]; exact hg.2.2.2.1 _ (by omega)
        · rw [sI_nr (by omega)]; exact hg.2.2.2.2 j (by omega)⟩ hq
set_option maxRecDepth 8000 in
theorem r_vA {d : Nat} {k : AHP} {ch : Nat → Nat} {len : Nat} {Q : Option Value → AHP → Prop} (hS : Std k) (hC : CHr (k.1 184) ch len) (hlen : len ≤ 1000) (hl : k.1 183 2 = nI len) (hq : ∀ k1, CutQ (sI (sI k 183 0 0) 183 2 0) ch len none k1 → TT (d + 6) 187 11 [some (.ref 183), some (.int (nI 0)), none] [] k1 Q) : MM (d + 6) 187 [.ref 183] k (fun v h2 => Q v h2) := by
  refine ⟨Nat.le_of_ble_eq_true rfl, ?_⟩
  refine t_go (op := o_aload 1 0) (fe_X12_evening 0) (fun _ _ => rfl) ?_
  refine t_go (op := o_ci 2 0) (fe_X12_evening 1) (fun _ _ => rfl) ?_
  refine t_go (op := o_putI 5 11 0) (fe_X12_evening 2) (g_putI hS (show (lay 183).1 = 11 by decide) (by decide)) ?_
  refine t_go (op := o_aload 6 0) (fe_X12_evening 5) (fun _ _ => rfl) ?_
  refine t_call (op := o_callV 9 165 1 11) (fe_X12_evening 6) (g_callV hS (show (lay 183).1 = 11 by decide) (by decide) rfl rfl rfl (Nat.le_of_ble_eq_true rfl)) ?_
  refine M_mono ?_ (r_cutAll (k := sI k 183 0 0) (ch := ch) (len := len) hS (by rw [sI_ne (by decide)]; exact hC) hlen (by rw [sI_nr (by decide)]; exact hl))
  intro v k1 hq1
  obtain rfl := hq1.1
  refine t_go (op := o_ci 10 0) (fe_X12_evening 9) (fun _ _ => rfl) ?_
  refine t_go (op := o_istore 11 1) (fe_X12_evening 10) (fun _ _ => rfl) ?_
  exact hq _ hq1
/-- what the reference changes while it reads an evening -/
def FV4 (k h : AHP) : Prop := h.2.2 = k.2.2 ∧ (∀ a, a ≠ 187 → h.2.1 a = k.2.1 a) ∧ (∀ a, a ≠ 183 → a ≠ 185 → a ≠ 186 → a ≠ 194 → h.1 a = k.1 a) ∧ (∀ j, j ≠ 0 → j ≠ 2 → j ≠ 3 → j ≠ 7 → j ≠ 8 → h.1 183 j = k.1 183 j) ∧ h.1 183 2 = 0
theorem FV4_of {k k1 h : AHP} (hc : Cf (sI (sI k 183 0 0) 183 2 0) k1) (hg : VF k1 h) : FV4 k h ∧ ∀ j, j < 125 → h.1 194 j = k.1 194 j := by
  obtain ⟨a1, a2, a3, a4⟩ := hc
  obtain ⟨b1, b2, b3, b4⟩ := hg
  have r : ∀ a, a ≠ 183 → a ≠ 185 → a ≠ 186 → k1.1 a = k.1 a := fun a q1 q2 q3 => by rw [a3 a q2 q3 q1, sI_ne q1, sI_ne q1]
  refine ⟨⟨by rw [b1]; exact a1, fun a q1 => by rw [b1]; exact a2 a q1, fun a q1 q2 q3 q4 => (b2 a q1 q4).trans (r a q1 q2 q3), fun j q0 q2 q3 q7 q8 => ?_, ?_⟩, fun j hj => by rw [b4 j hj, r 194 (by decide) (by decide) (by decide)]⟩
  · rw [b3 j q7 q8, a4 j q3 q7 q8, sI_nr q2, sI_nr q0]
  · rw [b3 2 (by decide) (by decide), a4 2 (by decide) (by decide) (by decide), sI_eq]
theorem r_evening {d : Nat} {k : AHP} {ch : Nat → Nat} {len n m : Nat} {W : Nat → List Nat} {Q : Option Value → AHP → Prop} (hS : Std k) (hC : CHr (k.1 184) ch len) (hlen : len ≤ 1000) (hl : k.1 183 2 = nI len) (hWd : WdR k) (hW : NW k W m) (hB : ∀ j, TKb (tkT ch len j)) (hN : endN ch len n) {R : Nat × ES} (hRR : R = vRun W m (tkT ch len) (n + 1) 0 []) (hq1 : ¬ R.1 = 0 → ∀ h3, FV4 k h3 → (∀ j, j < 125 → h3.1 194 j = k.1 194 j) → Q (some (.int (nI R.1))) h3) (hq0 : R.1 = 0 → vOK m R.2 → ∀ h3, FV4 k h3 → h3.1 194 0 = nI R.2.length → (∀ i, i < R.2.length → h3.1 194 (1 + 3 * i) = nI (R.2.getD i (0, 0, 0)).1 ∧ h3.1 194 (2 + 3 * i) = nI (R.2.getD i (0, 0, 0)).2.1 ∧ h3.1 194 (3 + 3 * i) = nI (R.2.getD i (0, 0, 0)).2.2) → Q (some (.int 0)) h3) : MM (d + 6) 187 [.ref 183] k Q := by
  refine r_vA hS hC hlen hl (fun k1 hcq => ?_)
  obtain ⟨_, hcf, ⟨n1, cu1, cu2, cu3, cu4⟩, _, e7, e8⟩ := hcq
  have en : n1 = n := endN_one ⟨cu1, cu2, cu3⟩ hN
  subst en
  have hn : n1 ≤ 1000 := Nat.le_trans cu1 hlen
  have hS1 : Std k1 := hcf.std (k := sI (sI k 183 0 0) 183 2 0) hS
  have hR0 : RQ k1 (tkT ch len) n1 := ⟨hS1, cu4, hn, hB, fun j hj => by rw [hcf.2.1 188 (by decide)]; exact hWd j hj⟩
  have hW1 : NW k1 W m := ⟨by rw [hcf.2.2.2 16 (by decide) (by decide) (by decide), sI_nr (by decide), sI_nr (by decide)]; exact hW.1, hW.2.1, fun j hj => by rw [hcf.2.1 192 (by decide)]; exact hW.2.2 j hj⟩
  have hs0 : RVs k1 k1 0 [] := ⟨VF.rf, e7, e8, fun j hj => absurd hj (Nat.not_lt_zero _)⟩
  refine r_vlines hR0 cu2 hW1 (n1 + 1) 0 [] k1 none (by omega) (Nat.zero_le _) ⟨by decide, fun j hj => absurd hj (Nat.not_lt_zero _)⟩ hs0 (fun hF h4 i2 x2 hs hok => ?_) (fun hF h4 n2 x2 hs => ?_)
  · rw [← hRR] at hF hs hok ⊢
    have h40 := hok.1
    refine r_v165Y (hs.1.std hS1) hs.2.2.1 ?_
    refine lr_vc (h := sI h4 194 0 (nI R.2.length)) (hs.1.std hS1) h40 (3 * R.2.length) 0 _ (by omega) ⟨rfl, fun _ _ => rfl, rfl, fun _ _ => rfl, fun j hj => absurd hj (Nat.not_lt_zero _)⟩ (fun S2 hS2 => ?_)
    obtain ⟨a1, a2, a3, a4⟩ := hS2
    have fr := (FV4_of hcf hs.1).1
    refine hq0 hF hok S2 ⟨by rw [a1]; exact fr.1, fun a q => by rw [a1]; exact fr.2.1 a q, fun a q1 q2 q3 q4 => by rw [a2 a q4, sI_ne q4]; exact fr.2.2.1 a q1 q2 q3 q4, fun j q1 q2 q3 q4 q5 => by rw [a2 183 (by decide), sI_ne (by decide)]; exact fr.2.2.2.1 j q1 q2 q3 q4 q5, by rw [a2 183 (by decide), sI_ne (by decide)]; exact fr.2.2.2.2⟩ (by rw [a3, sI_eq]) (fun i hi => ?_)
    have hv := hs.2.2.2 i hi
    rw [a4 (3 * i) (by omega), show 2 + 3 * i = 1 + (3 * i + 1) by omega, a4 (3 * i + 1) (by omega), show 3 + 3 * i = 1 + (3 * i + 2) by omega, a4 (3 * i + 2) (by omega), sI_nr (by omega), sI_nr (by omega), sI_nr (by omega), show 125 + (3 * i + 1) = 126 + 3 * i by omega, show 125 + (3 * i + 2) = 127 + 3 * i by omega]
    exact hv
  · rw [← hRR] at hF hs
    obtain ⟨g0, hF5, i, hi, q7, q8⟩ := hs
    rw [← AT_id q7 q8]
    refine r_v165F (g0.rq hR0) hi hF5 hF ?_
    rw [AT_id q7 q8]
    exact hq1 hF h4 (FV4_of hcf g0).1 (FV4_of hcf g0).2
