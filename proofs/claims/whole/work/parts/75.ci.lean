/-! ===== both objects, held against each other ===== -/
def n32 (w : List Nat) : Nat := w.foldl (fun a c => a * 32 + c) 0
def n37 (w : List Nat) : Nat := w.foldl (fun a c => a * 37 + c) 0
def okW (w : List Nat) : Prop := 1 ≤ w.length ∧ w.length ≤ 8 ∧ ∀ c ∈ w, 1 ≤ c ∧ c ≤ 26
/-- the words of the language -/
def KW : List (List Nat) := [[5, 13, 2, 5, 18], [1, 20], [8, 5, 1, 20], [6, 21, 5, 12], [4, 18, 1, 21, 7, 8, 20], [3, 1, 20, 3, 8, 5, 19], [23, 1, 18, 13, 19], [8, 15, 21, 18], [16, 15, 11, 5], [20, 15, 14, 7, 19], [6, 5, 5, 4], [2, 1, 14, 11], [3, 15, 1, 12], [19, 20, 9, 3, 11], [19, 12, 1, 3, 11], [9, 18, 15, 14], [14, 15, 20], [1, 14, 4], [15, 18], [7, 12, 15, 23], [14, 5, 1, 18], [1, 9, 18], [12, 5, 6, 20]]
def KWi (i : Nat) : List Nat := KW.getD i []
def NmC (h : AHP) (g m : Nat) : Prop := h.1 183 16 = nI m ∧ (∀ e, e < m → ∃ w, okW w ∧ h.2.1 (g + 1) e = lN (n32 w) ∧ h.2.1 192 e = lN (n37 w)) ∧ ∀ j, j < 23 → h.2.1 188 j = lN (n37 (KWi j))
def GrC (h : AHP) (g n m : Nat) : Prop := (lay g).1 = 3 ∧ h.2.2.1 1 7 = g ∧ (∃ g2, (lay g2).1 = 3 ∧ g2 ≠ g ∧ h.2.2.1 1 8 = g2 ∧ FV 7 (fs h (g2 + 3))) ∧ n ≤ 1000 ∧ h.1 (g + 8) 3 = nI n ∧ h.1 g 4 = nI m ∧ CP h h g n m ∧ FV m (fs h (g + 3)) ∧ RG h m (fs h (g + 3)) ∧ NmC h g m
def EvC (h : AHP) (v ln m : Nat) : Prop := (lay v).1 = 0 ∧ h.2.2.1 1 9 = v ∧ (∃ v2, (lay v2).1 = 0 ∧ v2 ≠ v ∧ h.2.2.1 1 10 = v2) ∧ h.1 v 3 = nI ln ∧ LV m ln (h.1 (v + 1)) (h.1 (v + 2)) (h.1 (v + 3)) ∧ LN h ln (h.1 (v + 1)) (h.1 (v + 2)) (h.1 (v + 3))
def FiC (h : AHP) (m T : Nat) : Prop := FW m T (fs h 5) ∧ RB (h.1 197) 0 (fs h 5)
def ToC (h : AHP) (m tn : Nat) : Prop := h.1 10 3 = nI tn ∧ TV m tn (h.1 11) (h.1 12) (h.1 13) ∧ RT (h.1 197) 0 tn (h.1 11) (h.1 12) (h.1 13)
def kf (h : AHP) (N u a : Nat) : FS := fs h (19 + 5 * ((N - u + a) % 16))
def PaC (h : AHP) (m T N u : Nat) : Prop := h.1 14 4 = nI N ∧ h.1 14 5 = nI u ∧ u ≤ 16 ∧ u ≤ N ∧ N ≤ T ∧ h.1 183 23 = nI u ∧ (∀ a, a < u → FW m T (kf h N u a)) ∧ RP (h.1 197) u (kf h N u)
def MaC (h : AHP) (m T : Nat) : Prop := ∀ q, q < 4 → (h.1 18 q = 0 ∧ h.1 198 q = 0) ∨ (h.1 18 q = 1 ∧ h.1 198 q = 1 ∧ FW m T (fs h (99 + 9 * q)) ∧ RB (h.1 197) (42 * (1 + q)) (fs h (99 + 9 * q)) ∧ ∃ tq, h.1 (104 + 9 * q) 3 = nI tq ∧ TV m tq (h.1 (105 + 9 * q)) (h.1 (106 + 9 * q)) (h.1 (107 + 9 * q)) ∧ RT (h.1 197) (42 * (1 + q)) tq (h.1 (105 + 9 * q)) (h.1 (106 + 9 * q)) (h.1 (107 + 9 * q)))
def okC (x : Int32) : Prop := ∃ c : Nat, x = nI c ∧ (c = 10 ∨ (32 ≤ c ∧ c ≤ 126))
def TaC (h : AHP) (len : Nat) : Prop := len ≤ 1000 ∧ h.1 2 1 = nI len ∧ h.1 183 2 = nI len ∧ ∀ i, i < len → h.1 3 i = h.1 184 i ∧ okC (h.1 3 i)
def CI (T : Nat) (h : AHP) : Prop := Std h ∧ NZ h ∧ ∃ g n m v ln tn N u len, GrC h g n m ∧ EvC h v ln m ∧ FiC h m T ∧ ToC h m tn ∧ PaC h m T N u ∧ MaC h m T ∧ TaC h len
/-- what questions may change -/
abbrev scrW (a : Nat) : Prop := scrX a ∨ a = 183 ∨ a = 195 ∨ a = 196 ∨ a = 197 ∨ a = 199 ∨ a = 200
def Wq (h k : AHP) : Prop := k.2.2 = h.2.2 ∧ (∀ a, a ≠ 135 → a ≠ 183 → k.2.1 a = h.2.1 a) ∧ (∀ a, ¬ scrW a → k.1 a = h.1 a) ∧ (∀ i, i ≠ 0 → k.1 183 i = h.1 183 i) ∧ ∀ i, i < 882 → k.1 197 i = h.1 197 i
theorem Wq.rf {h : AHP} : Wq h h := ⟨rfl, fun _ _ _ => rfl, fun _ _ => rfl, fun _ _ => rfl, fun _ _ => rfl⟩
theorem Wq.tr {h k m : AHP} (h1 : Wq h k) (h2 : Wq k m) : Wq h m := ⟨h2.1.trans h1.1, fun a ha hb => (h2.2.1 a ha hb).trans (h1.2.1 a ha hb), fun a ha => (h2.2.2.1 a ha).trans (h1.2.2.1 a ha), fun i hi => (h2.2.2.2.1 i hi).trans (h1.2.2.2.1 i hi), fun i hi => (h2.2.2.2.2 i hi).trans (h1.2.2.2.2 i hi)⟩
theorem X.w {h k : AHP} (h1 : X h k) : Wq h k := ⟨h1.1, fun a ha _ => h1.2.1 a ha, fun a ha => h1.2.2 a (fun q => ha (Or.inl q)), fun i _ => by rw [h1.2.2 183 (by omega)], fun i _ => by rw [h1.2.2 197 (by omega)]⟩
theorem Zf.w {h k : AHP} (h1 : Zf trl h k) : Wq h k := ⟨h1.1, fun a _ _ => h1.g a, fun a ha => h1.row (by omega), h1.2.2.2.1, fun i hi => h1.2.2.2.2 i (fun q => by have := q.1; omega)⟩
theorem W_200 {h : AHP} {r : Nat → Int32} : Wq h (rowI h 200 r) := ⟨rfl, fun _ _ _ => rfl, fun a ha => rowI_ne (by omega), fun i _ => by rw [rowI_ne (by decide)], fun i _ => by rw [rowI_ne (by decide)]⟩
theorem W_g {h : AHP} {u : Int64} : Wq h (sJ h 183 27 u) := ⟨rfl, fun a _ hb => up2_ne hb, fun _ _ => rfl, fun _ _ => rfl, fun _ _ => rfl⟩
theorem W_thr {h : AHP} {v : Int32} : Wq h (sI h 183 0 v) := (Zf_thr Zf.rf).w
theorem Wq.std {h k : AHP} (h1 : Wq h k) (hS : Std h) : Std k := by
  unfold Std at hS ⊢
  rw [h1.1]
  exact hS
theorem Wq.row {h k : AHP} (h1 : Wq h k) {a : Nat} (ha : ¬ scrW a) : k.1 a = h.1 a := h1.2.2.1 a ha
theorem W_fs {h k : AHP} {f : Nat} (h1 : Wq h k) (hf : f + 5 ≤ 136 ∨ (148 < f ∧ f + 5 ≤ 159) ∨ (160 < f ∧ f + 5 ≤ 172)) : fs k f = fs h f := fs_rows fun a h2 h3 => h1.row (by omega)
theorem W_RB {h k : AHP} {b : Nat} {F : FS} (h1 : Wq h k) (hb : b + 23 ≤ 882) (hB : RB (h.1 197) b F) : RB (k.1 197) b F := by
  refine ⟨fun e he => ⟨?_, ?_, ?_⟩, ?_, ?_⟩
  · rw [h1.2.2.2.2 _ (by omega)]; exact (hB.1 e he).1
  · rw [h1.2.2.2.2 _ (by omega)]; exact (hB.1 e he).2.1
  · rw [h1.2.2.2.2 _ (by omega)]; exact (hB.1 e he).2.2
  · rw [h1.2.2.2.2 _ (by omega)]; exact hB.2.1
  · rw [h1.2.2.2.2 _ (by omega)]; exact hB.2.2
theorem W_RT {h k : AHP} {b tn : Nat} {E H L : Nat → Int32} (h1 : Wq h k) (hb : b + 42 ≤ 882) (ht : tn ≤ 6) (hB : RT (h.1 197) b tn E H L) : RT (k.1 197) b tn E H L := by
  refine ⟨by rw [h1.2.2.2.2 _ (by omega)]; exact hB.1, fun j hj => ?_⟩
  rw [h1.2.2.2.2 _ (by omega), h1.2.2.2.2 _ (by omega), h1.2.2.2.2 _ (by omega)]
  exact hB.2 j hj
theorem W_CPk {h k k0 : AHP} {g n m : Nat} (h1 : Wq h k) (hP : CP h k0 g n m) : CP k k0 g n m := by
  have hS := hP.1.1
  unfold CP RH RD RLw at hP ⊢
  rw [h1.row (a := 189) (by omega), h1.row (a := 190) (by omega), h1.row (a := 191) (by omega)]
  exact ⟨⟨h1.std hS, hP.1.2⟩, hP.2⟩
theorem CP_rows {h k k0 : AHP} {g n m : Nat} (hg : (lay g).1 = 3) (e : ∀ a, (a = g ∨ a = g + 2 ∨ a = g + 9 ∨ a = g + 12) → k.1 a = h.1 a) (hP : CP k0 h g n m) : CP k0 k g n m := by
  have ed : ∀ t, drV k g t = drV h g t := fun t => by unfold drV; rw [e g (by omega), e (g + 12) (by omega)]
  unfold CP at hP ⊢
  rw [e g (by omega), e (g + 2) (by omega), e (g + 9) (by omega), show drV k g = drV h g from funext ed]
  exact hP
theorem g_w {g : Nat} (hg : (lay g).1 = 3) : ¬ scrW g ∧ ¬ scrW (g + 2) ∧ ¬ scrW (g + 8) ∧ ¬ scrW (g + 9) ∧ ¬ scrW (g + 12) := by
  rcases grate_scr hg with q | q <;> subst q <;> omega
theorem W_CP {h k : AHP} {g n m : Nat} (h1 : Wq h k) (hg : (lay g).1 = 3) (hP : CP h h g n m) : CP k k g n m := by
  refine CP_rows hg (fun a ha => h1.row ?_) (W_CPk h1 hP)
  have := g_w hg
  rcases ha with q | q | q | q <;> subst q <;> omega
theorem W_RG {h k : AHP} {m : Nat} {F : FS} (h1 : Wq h k) (hG : RG h m F) : RG k m F := by
  unfold RG
  rw [h1.row (a := 189) (by omega)]
  exact hG
theorem W_LN {h k : AHP} {ln : Nat} {A E X : Nat → Int32} (h1 : Wq h k) (hL : LN h ln A E X) : LN k ln A E X := by
  unfold LN
  rw [h1.row (a := 194) (by omega)]
  exact hL
theorem g_3 {g : Nat} (hg : (lay g).1 = 3) : g + 3 + 5 ≤ 136 ∨ (148 < g + 3 ∧ g + 3 + 5 ≤ 159) ∨ (160 < g + 3 ∧ g + 3 + 5 ≤ 172) := by
  rcases grate_scr hg with q | q <;> subst q <;> omega
theorem W_GrC {h k : AHP} {g n m : Nat} (h1 : Wq h k) (hG : GrC h g n m) : GrC k g n m := by
  obtain ⟨hg, h7, ⟨g2, hg2, hne, h8, hV2⟩, hn, hl, hm, hP, hV, hR, hN1, hN2, hN3⟩ := hG
  have hw := g_w hg
  refine ⟨hg, by rw [h1.1]; exact h7, ⟨g2, hg2, hne, by rw [h1.1]; exact h8, by rw [W_fs h1 (g_3 hg2)]; exact hV2⟩, hn, by rw [h1.row hw.2.2.1]; exact hl, by rw [h1.row hw.1]; exact hm, W_CP h1 hg hP, by rw [W_fs h1 (g_3 hg)]; exact hV, by rw [W_fs h1 (g_3 hg)]; exact W_RG h1 hR, by rw [h1.2.2.2.1 16 (by decide)]; exact hN1, fun e he => ?_, fun j hj => by rw [h1.2.1 188 (by decide) (by decide)]; exact hN3 j hj⟩
  obtain ⟨w, w1, w2, w3⟩ := hN2 e he
  exact ⟨w, w1, by rw [h1.2.1 (g + 1) (by rcases grate_scr hg with q | q <;> subst q <;> omega) (by rcases grate_scr hg with q | q <;> subst q <;> omega)]; exact w2, by rw [h1.2.1 192 (by decide) (by decide)]; exact w3⟩
theorem v_w {v : Nat} (hv : (lay v).1 = 0) : ¬ scrW v ∧ ¬ scrW (v + 1) ∧ ¬ scrW (v + 2) ∧ ¬ scrW (v + 3) := by
  rcases even_id hv with q | q <;> subst q <;> omega
theorem W_EvC {h k : AHP} {v ln m : Nat} (h1 : Wq h k) (hE : EvC h v ln m) : EvC k v ln m := by
  obtain ⟨hv, h9, ⟨v2, hv2, hne, h10⟩, hl, hV, hL⟩ := hE
  have hw := v_w hv
  refine ⟨hv, by rw [h1.1]; exact h9, ⟨v2, hv2, hne, by rw [h1.1]; exact h10⟩, by rw [h1.row hw.1]; exact hl, ?_, ?_⟩
  · rw [h1.row hw.2.1, h1.row hw.2.2.1, h1.row hw.2.2.2]; exact hV
  · rw [h1.row hw.2.1, h1.row hw.2.2.1, h1.row hw.2.2.2]; exact W_LN h1 hL
theorem W_FiC {h k : AHP} {m T : Nat} (h1 : Wq h k) (hF : FiC h m T) : FiC k m T := by
  unfold FiC
  rw [W_fs h1 (by omega)]
  exact ⟨hF.1, W_RB h1 (by omega) hF.2⟩
theorem W_ToC {h k : AHP} {m tn : Nat} (h1 : Wq h k) (hF : ToC h m tn) : ToC k m tn := by
  unfold ToC
  rw [h1.row (a := 10) (by omega), h1.row (a := 11) (by omega), h1.row (a := 12) (by omega), h1.row (a := 13) (by omega)]
  exact ⟨hF.1, hF.2.1, W_RT h1 (by omega) hF.2.1.1 hF.2.2⟩
theorem kf_w {h k : AHP} (e : ∀ a, 19 ≤ a → a < 99 → k.1 a = h.1 a) (N u a : Nat) : kf k N u a = kf h N u a := by
  have h16 : (N - u + a) % 16 < 16 := Nat.mod_lt _ (by decide)
  exact fs_rows fun b h2 h3 => e b (by omega) (by omega)
theorem W_PaC {h k : AHP} {m T N u : Nat} (h1 : Wq h k) (hF : PaC h m T N u) : PaC k m T N u := by
  obtain ⟨a1, a2, a3, a4, a5, a6, a7, a8⟩ := hF
  have ek : kf k N u = kf h N u := funext fun a => kf_w (fun a h2 h3 => h1.row (by omega)) N u a
  unfold PaC
  rw [h1.row (a := 14) (by omega), h1.2.2.2.1 23 (by decide), ek]
  exact ⟨a1, a2, a3, a4, a5, a6, a7, fun a ha => W_RB h1 (by omega) (a8 a ha)⟩
theorem W_MaC {h k : AHP} {m T : Nat} (h1 : Wq h k) (hF : MaC h m T) : MaC k m T := by
  intro q hq
  rw [h1.row (a := 18) (by omega), h1.row (a := 198) (by omega), W_fs h1 (f := 99 + 9 * q) (by omega), h1.row (a := 104 + 9 * q) (by omega), h1.row (a := 105 + 9 * q) (by omega), h1.row (a := 106 + 9 * q) (by omega), h1.row (a := 107 + 9 * q) (by omega)]
  rcases hF q hq with h2 | ⟨h2, h3, h4, h5, tq, h6, h7, h8⟩
  · exact Or.inl h2
  · exact Or.inr ⟨h2, h3, h4, W_RB h1 (by omega) h5, tq, h6, h7, W_RT h1 (by omega) h7.1 h8⟩
theorem W_TaC {h k : AHP} {len : Nat} (h1 : Wq h k) (hF : TaC h len) : TaC k len := by
  unfold TaC
  rw [h1.row (a := 2) (by omega), h1.row (a := 3) (by omega), h1.row (a := 184) (by omega), h1.2.2.2.1 2 (by decide)]
  exact hF
theorem FW_up {m T : Nat} {F : FS} (h : FW m T F) : FW m (T + 1) F := FW_le h (by omega)
theorem PaC_up {h : AHP} {m T N u : Nat} (hF : PaC h m T N u) : PaC h m (T + 1) N u := ⟨hF.1, hF.2.1, hF.2.2.1, hF.2.2.2.1, by have := hF.2.2.2.2.1; omega, hF.2.2.2.2.2.1, fun a ha => FW_up (hF.2.2.2.2.2.2.1 a ha), hF.2.2.2.2.2.2.2⟩
theorem MaC_up {h : AHP} {m T : Nat} (hF : MaC h m T) : MaC h m (T + 1) := by
  intro q hq
  rcases hF q hq with h2 | ⟨h2, h3, h4, h5⟩
  · exact Or.inl h2
  · exact Or.inr ⟨h2, h3, FW_up h4, h5⟩
theorem CI_W {T : Nat} {h k : AHP} (h1 : Wq h k) (hz : NZ k) (hC : CI T h) : CI (T + 1) k := by
  obtain ⟨hS, _, g, n, m, v, ln, tn, N, u, len, c1, c2, c3, c4, c5, c6, c7⟩ := hC
  exact ⟨h1.std hS, hz, g, n, m, v, ln, tn, N, u, len, W_GrC h1 c1, W_EvC h1 c2, ⟨FW_up (W_FiC h1 c3).1, (W_FiC h1 c3).2⟩, W_ToC h1 c4, PaC_up (W_PaC h1 c5), MaC_up (W_MaC h1 c6), W_TaC h1 c7⟩
theorem GrC_law {h : AHP} {g n m : Nat} (hG : GrC h g n m) : LawOK h g n := by
  obtain ⟨_, _, _, hn, hl, _, hP, _⟩ := hG
  refine ⟨hl, hn, fun r2 r3 a b c e => ?_⟩
  rcases hP.1.2.2.2.2.2 with ⟨h0, _⟩ | ⟨_, _, _, hW, _⟩
  · subst h0; rfl
  · exact law_ind hW r2 r3 a b c e
/-- a call of the one, then the same call of the other: the same answer, and both hold to each other -/
def PairI (d kx km : Nat) (as : List Value) (h : AHP) (T : Nat) : Prop := MM d kx (.ref 1 :: as) h (fun v h2 => ∃ a, v = some (.int a) ∧ MM d km (.ref 183 :: as) h2 (fun v2 h3 => v2 = some (.int a) ∧ CI (T + 1) h3))
theorem q_pair {d kx km T : Nat} {as : List Value} {h : AHP} {a : Int32} (hC : CI T h) (hc : MM d kx (.ref 1 :: as) h (fun v h2 => v = some (.int a) ∧ Wq h h2)) (hr : ∀ h2, Wq h h2 → MM d km (.ref 183 :: as) h2 (fun v h3 => v = some (.int a) ∧ Wq h2 h3)) : PairI d kx km as h T := by
  refine M_mono ?_ (M_nz hC.2.1 hc)
  rintro _ h2 ⟨⟨rfl, hw⟩, hz⟩
  refine ⟨a, rfl, M_mono ?_ (M_nz hz (hr h2 hw))⟩
  rintro _ h3 ⟨⟨rfl, hw3⟩, hz3⟩
  exact ⟨rfl, CI_W (hw.tr hw3) hz3 hC⟩
theorem M_w {d k : Nat} {as : List Value} {h : AHP} {a : Int32} (hm : MM d k as h (fun v h2 => v = some (.int a) ∧ X h h2)) : MM d k as h (fun v h2 => v = some (.int a) ∧ Wq h h2) := M_mono (fun _ _ q => ⟨q.1, q.2.w⟩) hm
theorem M_wz {d k : Nat} {as : List Value} {h : AHP} {a : Int32} (hm : MM d k as h (fun v h2 => v = some (.int a) ∧ Zf trl h h2)) : MM d k as h (fun v h2 => v = some (.int a) ∧ Wq h h2) := M_mono (fun _ _ q => ⟨q.1, q.2.w⟩) hm
theorem M_we {d k : Nat} {as : List Value} {h : AHP} {a : Int32} (hm : MM d k as h (fun v h2 => v = some (.int a) ∧ h2 = h)) : MM d k as h (fun v h2 => v = some (.int a) ∧ Wq h h2) := M_mono (fun _ _ q => ⟨q.1, by rw [q.2]; exact Wq.rf⟩) hm
theorem M_wt {d k : Nat} {as : List Value} {h : AHP} {a : Int32} (hm : MM d k as h (fun v h2 => v = some (.int a) ∧ h2 = sI h 183 0 0)) : MM d k as h (fun v h2 => v = some (.int a) ∧ Wq h h2) := M_mono (fun _ _ q => ⟨q.1, by rw [q.2]; exact W_thr⟩) hm
theorem of_range {x a b : Int32} {A B : Nat} (h : ¬ x < a ∧ ¬ b < x) (ha : a = nI A) (hb : b = nI B) (hA : A < 2 ^ 31) (hB : B < 2 ^ 31) : ∃ q : Nat, A ≤ q ∧ q ≤ B ∧ x = nI q := by
  have h1 : nI A ≤ x := by rw [← ha]; exact Int32.not_lt.mp h.1
  have h2 : x ≤ nI B := by rw [← hb]; exact Int32.not_lt.mp h.2
  have i1 := Int32.le_iff_toInt_le.mp h1
  have i2 := Int32.le_iff_toInt_le.mp h2
  rw [nI_toInt hA] at i1
  rw [nI_toInt hB] at i2
  refine ⟨x.toInt.toNat, by omega, by omega, Int32.toInt_inj.mp ?_⟩
  rw [nI_toInt (by omega)]
  omega
theorem of_lt {x : Int32} {m : Nat} (h : ¬ x < 0 ∧ x < nI m) (hm : m ≤ 7) : ∃ e : Nat, e < m ∧ x = nI e := by
  have h1 : (0 : Int32) ≤ x := Int32.not_lt.mp h.1
  have i1 := Int32.le_iff_toInt_le.mp h1
  have i2 := Int32.lt_iff_toInt_lt.mp h.2
  rw [nI_toInt (by omega)] at i2
  have e0 : (0 : Int32).toInt = 0 := rfl
  refine ⟨x.toInt.toNat, by omega, Int32.toInt_inj.mp ?_⟩
  rw [nI_toInt (by omega)]
  omega
theorem has_lt {m : Nat} {F : FS} {x : Int32} (hV : FV m F) (hh : hasF F x) : ∃ e : Nat, e < m ∧ e < 7 ∧ x = nI e := by
  have h7 : ∃ e : Nat, 0 ≤ e ∧ e ≤ 6 ∧ x = nI e := of_range (a := 0) (b := 6) (A := 0) (B := 6) ⟨hh.1, fun q => hh.2.1 (by
    have i1 := Int32.lt_iff_toInt_lt.mp q
    have e6 : (6 : Int32).toInt = 6 := rfl
    have e7 : (7 : Int32).toInt = 7 := rfl
    exact Int32.le_iff_toInt_le.mpr (by omega))⟩ rfl rfl (by decide) (by decide)
  obtain ⟨e, _, h6, rfl⟩ := h7
  exact ⟨e, (FV_in hV (by omega) hh).1, by omega, rfl⟩
