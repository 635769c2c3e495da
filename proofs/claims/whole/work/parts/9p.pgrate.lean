/-! ===== both read a grate: what holds of both ===== -/
def endN (ch : Nat → Nat) (len n : Nat) : Prop := n ≤ len ∧ (tkT ch len n).1 = 0 ∧ ∀ j, j < n → ¬ (tkT ch len j).1 = 0
theorem endN_one {ch : Nat → Nat} {len n n2 : Nat} (h : endN ch len n) (h2 : endN ch len n2) : n = n2 := by
  rcases Nat.lt_trichotomy n n2 with q | q | q
  · exact absurd h.2.1 (h2.2.2 n q)
  · exact q
  · exact absurd h2.2.1 (h.2.2 n2 q)
theorem endN_ex {ch : Nat → Nat} {len : Nat} : ∃ n, endN ch len n := by
  have gen : ∀ k, (∃ n, n < k ∧ endN ch len n) ∨ (∀ j, j < k → ¬ (tkT ch len j).1 = 0) := by
    intro k
    induction k with
    | zero => exact Or.inr (fun j hj => absurd hj (Nat.not_lt_zero _))
    | succ k ih =>
      rcases ih with ⟨n, h1, h2⟩ | h1
      · exact Or.inl ⟨n, by omega, h2⟩
      · by_cases q : (tkT ch len k).1 = 0
        · exact Or.inl ⟨k, by omega, Nat.le_trans (posT_grow k h1) (posT_le k), q, h1⟩
        · refine Or.inr (fun j hj => ?_)
          by_cases e : j = k
          · rw [e]; exact q
          · exact h1 j (by omega)
  rcases gen (len + 1) with ⟨n, _, h⟩ | h
  · exact ⟨n, h⟩
  · have := posT_grow (len + 1) h
    have := posT_le (ch := ch) (len := len) (len + 1)
    omega
/-- where nothing was read: all stands as it did -/
theorem CI_old {T : Nat} {h h3 : AHP} {g2 v2 : Nat} (hC : CI T h) (hS : Std h3) (hz : NZ h3) (hg2 : (lay g2).1 = 3) (h8 : h.2.2.1 1 8 = g2) (hv2 : (lay v2).1 = 0) (h10 : h.2.2.1 1 10 = v2)
  (eR : ∀ a i, ¬ (a = 2 ∧ i = 6) → h3.2.2.1 a i = h.2.2.1 a i) (eJ : ∀ a, a ≠ 2 → a ≠ 187 → a ≠ 193 → a ≠ g2 + 1 → h3.2.1 a = h.2.1 a)
  (eI : ∀ a, a ≠ 2 → a ≠ 4 → a ≠ 183 → a ≠ 185 → a ≠ 186 → a ≠ 189 → a ≠ 190 → a ≠ 191 → a ≠ 194 → (a < g2 ∨ g2 + 12 < a) → (a < v2 ∨ v2 + 3 < a) → h3.1 a = h.1 a)
  (e3 : h3.1 183 16 = h.1 183 16 ∧ h3.1 183 23 = h.1 183 23) (e9 : ∀ j, j < 50 → h3.1 189 j = h.1 189 j) (e0 : ∀ j, j < 1100 → h3.1 190 j = h.1 190 j ∧ h3.1 191 j = h.1 191 j) (e4 : ∀ j, j < 124 → h3.1 194 j = h.1 194 j)
  (eT : h3.1 2 1 = 0 ∧ h3.1 183 2 = 0) (hV : FV 7 (fs h3 (g2 + 3))) : CI (T + 1) h3 := by
  obtain ⟨hS0, _, g, n, m, v, ln, tn, N, u, len, c1, c2, c3, c4, c5, c6, c7⟩ := hC
  obtain ⟨hg, h7, ⟨g2', hg2', hne, h8', hV2⟩, hn, hl, hm, hP, hVg, hRg, hN1, hN2, hN3⟩ := c1
  obtain ⟨hv, h9, ⟨v2', hv2', hnv, h10'⟩, hln, hLV, hLN⟩ := c2
  have eg : g2' = g2 := h8'.symm.trans h8
  have ev : v2' = v2 := h10'.symm.trans h10
  subst eg ev
  have gi := grate_scr hg
  have gi2 := grate_scr hg2'
  have vi := even_id hv
  have vi2 := even_id hv2'
  have rr : ∀ a, a ≠ 2 → a ≠ 4 → a ≠ 183 → a ≠ 185 → a ≠ 186 → a ≠ 189 → a ≠ 190 → a ≠ 191 → a ≠ 194 → a < 149 → h3.1 a = h.1 a := fun a q1 q2 q3 q4 q5 q6 q7 q8 q9 q10 => eI a q1 q2 q3 q4 q5 q6 q7 q8 q9 (by omega) (by omega)
  have rg : ∀ a, g ≤ a → a ≤ g + 12 → h3.1 a = h.1 a := fun a q1 q2 => eI a (by omega) (by omega) (by omega) (by omega) (by omega) (by omega) (by omega) (by omega) (by omega) (by omega) (by omega)
  have rv : ∀ a, v ≤ a → a ≤ v + 3 → h3.1 a = h.1 a := fun a q1 q2 => eI a (by omega) (by omega) (by omega) (by omega) (by omega) (by omega) (by omega) (by omega) (by omega) (by omega) (by omega)
  have rh : ∀ a, 195 ≤ a → h3.1 a = h.1 a := fun a q1 => eI a (by omega) (by omega) (by omega) (by omega) (by omega) (by omega) (by omega) (by omega) (by omega) (by omega) (by omega)
  have hm7 : m ≤ 7 := hP.1.2.2.1
  have hfg : fs h3 (g + 3) = fs h (g + 3) := fs_rows fun a q1 q2 => rg a (by omega) (by omega)
  refine ⟨hS, hz, g, n, m, v, ln, tn, N, u, 0, ⟨hg, ?_, ⟨g2', hg2', hne, ?_, hV⟩, hn, ?_, ?_, ?_, ?_, ?_, ?_, fun e he => ?_, fun j hj => ?_⟩, ⟨hv, ?_, ⟨v2', hv2', hnv, ?_⟩, ?_, ?_, ?_⟩, ⟨?_, ?_⟩, ⟨?_, ?_, ?_⟩, ?_, ?_, ⟨by decide, eT.1, eT.2, fun i hi => absurd hi (Nat.not_lt_zero _)⟩⟩
  · rw [eR 1 7 (by decide)]; exact h7
  · rw [eR 1 8 (by decide)]; exact h8'
  · rw [rg (g + 8) (by omega) (by omega)]; exact hl
  · rw [rg g (by omega) (by omega)]; exact hm
  · refine CP_rows hg (h := h) (fun a ha => rg a (by omega) (by omega)) ?_
    obtain ⟨⟨p1, p2, p3, p4, p5, p6⟩, q, q1, q2, q3, q4⟩ := hP
    refine ⟨⟨hS, by rw [e9 0 (by decide)]; exact p2, p3, fun e he => by rw [e9 _ (by omega)]; exact p4 e he, by rw [e9 2 (by decide)]; exact p5, ?_⟩, q, q1, q2, by rw [e9 1 (by decide)]; exact q3, fun t ht => ?_⟩
    · rcases p6 with ⟨w1, w2⟩ | ⟨w1, w2, w3, w4, w5, w6⟩
      · exact Or.inl ⟨w1, by rw [e9 3 (by decide)]; exact w2⟩
      · exact Or.inr ⟨w1, w2, by rw [e9 3 (by decide)]; exact w3, w4, fun i hi => by rw [(e0 i (by omega)).1, (e0 i (by omega)).2]; exact w5 i hi, by rw [(e0 n (by omega)).1]; exact w6⟩
    · have := Nat.mod_lt t (show 0 < q by omega)
      rw [e9 _ (by omega)]; exact q4 t ht
  · rw [hfg]; exact hVg
  · rw [hfg]
    obtain ⟨r1, r2, r3⟩ := hRg
    refine ⟨fun e he => ?_, r2, r3⟩
    rw [e9 _ (by omega), e9 _ (by omega), e9 _ (by omega)]; exact r1 e he
  · rw [e3.1]; exact hN1
  · obtain ⟨w, w1, w2, w3⟩ := hN2 e he
    exact ⟨w, w1, by rw [eJ (g + 1) (by omega) (by omega) (by omega) (by omega)]; exact w2, by rw [eJ 192 (by decide) (by decide) (by decide) (by omega)]; exact w3⟩
  · rw [eJ 188 (by decide) (by decide) (by decide) (by omega)]; exact hN3 j hj
  · rw [eR 1 9 (by decide)]; exact h9
  · rw [eR 1 10 (by decide)]; exact h10'
  · rw [rv v (by omega) (by omega)]; exact hln
  · rw [rv (v + 1) (by omega) (by omega), rv (v + 2) (by omega) (by omega), rv (v + 3) (by omega) (by omega)]; exact hLV
  · rw [rv (v + 1) (by omega) (by omega), rv (v + 2) (by omega) (by omega), rv (v + 3) (by omega) (by omega)]
    have hb := hLV.1
    refine ⟨by rw [e4 0 (by decide)]; exact hLN.1, fun i hi => ?_⟩
    rw [e4 _ (by omega), e4 _ (by omega), e4 _ (by omega)]; exact hLN.2 i hi
  · rw [show fs h3 5 = fs h 5 from fs_rows fun a q1 q2 => rr a (by omega) (by omega) (by omega) (by omega) (by omega) (by omega) (by omega) (by omega) (by omega) (by omega)]; exact FW_up c3.1
  · rw [show fs h3 5 = fs h 5 from fs_rows fun a q1 q2 => rr a (by omega) (by omega) (by omega) (by omega) (by omega) (by omega) (by omega) (by omega) (by omega) (by omega), rh 197 (by decide)]; exact c3.2
  · rw [rr 10 (by decide) (by decide) (by decide) (by decide) (by decide) (by decide) (by decide) (by decide) (by decide) (by decide)]; exact c4.1
  · rw [rr 11 (by decide) (by decide) (by decide) (by decide) (by decide) (by decide) (by decide) (by decide) (by decide) (by decide), rr 12 (by decide) (by decide) (by decide) (by decide) (by decide) (by decide) (by decide) (by decide) (by decide) (by decide), rr 13 (by decide) (by decide) (by decide) (by decide) (by decide) (by decide) (by decide) (by decide) (by decide) (by decide)]; exact c4.2.1
  · rw [rr 11 (by decide) (by decide) (by decide) (by decide) (by decide) (by decide) (by decide) (by decide) (by decide) (by decide), rr 12 (by decide) (by decide) (by decide) (by decide) (by decide) (by decide) (by decide) (by decide) (by decide) (by decide), rr 13 (by decide) (by decide) (by decide) (by decide) (by decide) (by decide) (by decide) (by decide) (by decide) (by decide), rh 197 (by decide)]; exact c4.2.2
  · have c5' := PaC_up c5
    unfold PaC at c5' ⊢
    have ek : kf h3 N u = kf h N u := funext fun a => kf_w (fun a h2 h3 => rr a (by omega) (by omega) (by omega) (by omega) (by omega) (by omega) (by omega) (by omega) (by omega) (by omega)) N u a
    rw [rr 14 (by decide) (by decide) (by decide) (by decide) (by decide) (by decide) (by decide) (by decide) (by decide) (by decide), e3.2, ek, rh 197 (by decide)]
    exact c5'
  · have c6' := MaC_up c6
    intro q hq
    have r2 : ∀ a, 99 ≤ a → a < 135 → h3.1 a = h.1 a := fun a q1 q2 => rr a (by omega) (by omega) (by omega) (by omega) (by omega) (by omega) (by omega) (by omega) (by omega) (by omega)
    rw [rr 18 (by decide) (by decide) (by decide) (by decide) (by decide) (by decide) (by decide) (by decide) (by decide) (by decide), rh 198 (by decide), show fs h3 (99 + 9 * q) = fs h (99 + 9 * q) from fs_rows fun a q1 q2 => r2 a (by omega) (by omega), r2 (104 + 9 * q) (by omega) (by omega), r2 (105 + 9 * q) (by omega) (by omega), r2 (106 + 9 * q) (by omega) (by omega), r2 (107 + 9 * q) (by omega) (by omega), rh 197 (by decide)]
    exact c6' q hq
theorem nI_l0 {n : Nat} (h : n < 100000) : nI n ≤ 0 ↔ n = 0 := le_0 h
/-- the draughts, as both hold them -/
theorem RD_of {h3 h4 : AHP} {g : Nat} {ds : List Nat} (hd : ds.length ≤ 12) (hk : KGd h3 g ds) (hr : GRd h4 ds) (e : ∀ j, j < 50 → h3.1 189 j = h4.1 189 (50 + j)) : RD h3 (drV h3 g) := by
  obtain ⟨k1, k2⟩ := hk
  obtain ⟨r1, r2, r3⟩ := hr
  by_cases q : ds = []
  · refine ⟨1, by decide, by decide, by rw [e 1 (by decide), r1, if_pos q], fun t ht => ?_⟩
    rw [Nat.mod_one, e 32 (by decide), r3 q]
    unfold drV
    rw [k1, q, if_pos (by decide)]
  · have hl : 0 < ds.length := by
      cases ds with
      | nil => exact absurd rfl q
      | cons x l => exact Nat.succ_pos _
    refine ⟨ds.length, hl, hd, by rw [e 1 (by decide), r1, if_neg q], fun t ht => ?_⟩
    have hlt := Nat.mod_lt t hl
    rw [e _ (by omega), show 50 + (32 + t % ds.length) = 82 + t % ds.length by omega, r2 _ hlt]
    unfold drV
    rw [k1, if_neg (fun w => by have := (nI_l0 (by omega)).mp w; omega), if_pos (nI_pos' (by omega)), nI_mod (by omega) hl (by omega), if_neg (fun w => by have := (nI_leI (a := 12) (by decide) (by omega)).mp w; omega), nI_clamp (by omega), k2 _ hlt]
theorem RLw_of {h3 h4 : AHP} {g : Nat} {cs : List (Nat × Nat)} (ho : cs = [] ∨ (cs.length ≤ 1000 ∧ (∀ x ∈ cs, cdV x) ∧ okl cs 0 ∧ dpl cs 0 = 1)) (hk : KGl h3 g cs) (hr : GRl h4 cs) (e : ∀ j, j < 50 → h3.1 189 j = h4.1 189 (50 + j)) (e0 : ∀ j, j < (if cs = [] then 0 else cs.length + 1) → h3.1 190 j = h4.1 190 (1100 + j) ∧ h3.1 191 j = h4.1 191 (1100 + j)) : RLw h3 (h3.1 (g + 9)) cs.length := by
  obtain ⟨r1, r2, r3⟩ := hr
  by_cases q : cs = []
  · exact Or.inl ⟨by rw [q]; rfl, by rw [e 3 (by decide), r1, if_pos q]⟩
  · rcases ho with w | ⟨o1, o2, o3, o4⟩
    · exact absurd w q
    rw [if_neg q] at e0
    refine Or.inr ⟨law_ne o4, o1, by rw [e 3 (by decide), r1, if_neg q], WFL_of hk.2 o3 o4, fun i hi => ?_, by rw [(e0 _ (by omega)).1]; exact r3 q⟩
    rw [hk.2 i hi, (e0 i (by omega)).1, (e0 i (by omega)).2, (r2 i hi).1, (r2 i hi).2]
    refine o2 _ ?_
    rw [List.getD_eq_getElem?_getD, List.getElem?_eq_getElem hi]
    exact List.getElem_mem hi
theorem RG_of {k h4 : AHP} {es : List Em} {F : FS} (hl : es.length ≤ 7) (hr : GRe h4 es) (hB : BG es F) (e : ∀ j, j < 50 → k.1 189 j = h4.1 189 (50 + j)) : RG k es.length F := by
  refine ⟨fun i hi => ?_, fun i h1 h2 => ?_, hB.2.2.1, hB.2.2.2⟩
  · have h7 := hB.1 i (by omega)
    rw [if_pos hi, if_pos hi, if_pos hi] at h7
    have r := hr.2 i hi
    rw [e _ (by omega), e _ (by omega), e _ (by omega), show 50 + (4 + 4 * i + 1) = 54 + 4 * i + 1 by omega, show 50 + (4 + 4 * i + 2) = 54 + 4 * i + 2 by omega, show 50 + (4 + 4 * i + 3) = 54 + 4 * i + 3 by omega, r.2.2.1, r.2.2.2.1, r.2.2.2.2, h7.1, h7.2.1, h7.2.2]
    exact ⟨rfl, rfl, rfl⟩
  · have h7 := hB.1 i h2
    rw [if_neg (by omega), if_neg (by omega), if_neg (by omega)] at h7
    exact h7
/-- a grate that was read -/
theorem CI_new {T : Nat} {h3 h4 : AHP} {g g2 v v2 N : Nat} {G : GS} (hS : Std h3) (hz : NZ h3) (hG : gOK G) (hg2 : (lay g2).1 = 3) (h7 : h3.2.2.1 1 7 = g2) (hg : (lay g).1 = 3) (hne : g ≠ g2) (h8 : h3.2.2.1 1 8 = g) (hV : FV 7 (fs h3 (g + 3))) (kg : KG h3 g2 G) (rg : GR h4 G)
  (e9 : ∀ j, j < 50 → h3.1 189 j = h4.1 189 (50 + j)) (e0 : ∀ j, j < cdl G → h3.1 190 j = h4.1 190 (1100 + j) ∧ h3.1 191 j = h4.1 191 (1100 + j)) (e2 : ∀ j, j < G.1.length → h3.2.1 192 j = h4.2.1 193 j) (hW : WdR h3) (h16 : h3.1 183 16 = nI G.1.length)
  (hv : (lay v).1 = 0) (h9 : h3.2.2.1 1 9 = v) (hv2 : (lay v2).1 = 0) (hnv : v2 ≠ v) (h10 : h3.2.2.1 1 10 = v2) (hl : h3.1 v 3 = 0) (hl2 : h3.1 194 0 = 0) (hf : fs h3 5 = fs h3 (g2 + 3)) (hr : RB (h3.1 197) 0 (fs h3 5)) (ht : h3.1 10 3 = 0 ∧ h3.1 197 23 = 0) (hN : h3.1 14 4 = nI N) (hNT : N ≤ T) (hu : h3.1 14 5 = 0 ∧ h3.1 183 23 = 0) (hm : ∀ q, q < 4 → h3.1 18 q = 0 ∧ h3.1 198 q = 0) (eT : h3.1 2 1 = 0 ∧ h3.1 183 2 = 0) : CI (T + 1) h3 := by
  obtain ⟨⟨k1, k2, k3⟩, kd, kc, kl⟩ := kg
  obtain ⟨re, rd, rc, rl⟩ := rg
  have hes : esOK G.1 := ⟨hG.1, hG.2.1, hG.2.2.1⟩
  have hFV := BG_FV hes k3
  have hn : G.2.2.2.length ≤ 1000 := by
    rcases hG.2.2.2.2.2 with q | q
    · rw [q]; decide
    · exact q.1
  refine ⟨hS, hz, g2, G.2.2.2.length, G.1.length, v, 0, 0, N, 0, 0, ⟨hg2, h7, ⟨g, hg, hne, h8, hV⟩, hn, kl.1, k1, ⟨⟨hS, by rw [e9 0 (by decide)]; exact re.1, hG.1, fun e he => ?_, by rw [e9 2 (by decide), rc, kc.1], RLw_of hG.2.2.2.2.2 kl rl e9 e0⟩, RD_of hG.2.2.2.1 kd rd e9⟩, hFV, RG_of hG.1 re k3 e9, h16, fun e he => ⟨_, (hG.2.1 e he).1, (k2 e he).1, by rw [e2 e he]; exact (re.2 e he).1⟩, hW⟩, ⟨hv, h9, ⟨v2, hv2, hnv, h10⟩, hl, ⟨by decide, fun i hi => absurd hi (Nat.not_lt_zero _)⟩, hl2, fun i hi => absurd hi (Nat.not_lt_zero _)⟩, ⟨⟨by rw [hf]; exact hFV, 0, Nat.zero_le _, by rw [hf]; exact k3.2.2.1⟩, hr⟩, ⟨ht.1, ⟨by decide, fun i hi => absurd hi (Nat.not_lt_zero _)⟩, ht.2, fun i hi => absurd hi (Nat.not_lt_zero _)⟩, ⟨hN, hu.1, by decide, Nat.zero_le _, by omega, hu.2, fun a ha => absurd ha (Nat.not_lt_zero _), fun a ha => absurd ha (Nat.not_lt_zero _)⟩, fun q hq => Or.inl (hm q hq), ⟨by decide, eT.1, eT.2, fun i hi => absurd hi (Nat.not_lt_zero _)⟩⟩
  rw [e9 _ (by have := hG.1; omega), show 50 + (4 + 4 * e) = 54 + 4 * e by omega, (re.2 e he).2.1, (k2 e he).2]
