/-! ===== the reference holds what was read of a grate ===== -/
def GF (h0 h : AHP) : Prop := h.2.2 = h0.2.2 ∧ (∀ a, a ≠ 193 → h.2.1 a = h0.2.1 a) ∧ (∀ a, a ≠ 183 → a ≠ 189 → a ≠ 190 → a ≠ 191 → h.1 a = h0.1 a) ∧ (∀ j, j ≠ 7 → j ≠ 8 → j ≠ 13 → j ≠ 17 → j ≠ 18 → h.1 183 j = h0.1 183 j) ∧ (∀ j, j < 50 → h.1 189 j = h0.1 189 j) ∧ ∀ j, j < 1100 → h.1 190 j = h0.1 190 j ∧ h.1 191 j = h0.1 191 j
theorem GF.rf {h : AHP} : GF h h := ⟨rfl, fun _ _ => rfl, fun _ _ _ _ _ => rfl, fun _ _ _ _ _ _ => rfl, fun _ _ => rfl, fun _ _ => ⟨rfl, rfl⟩⟩
theorem GF.std {h0 h : AHP} (hg : GF h0 h) (hS : Std h0) : Std h := ⟨by rw [hg.1]; exact hS.1, fun q hq => by rw [hg.1]; exact hS.2 q hq⟩
theorem GF.rq {h0 h : AHP} {TK : Nat → Tk} {n : Nat} (hg : GF h0 h) (hR : RQ h0 TK n) : RQ h TK n := by
  obtain ⟨r1, r2, r3, r4, r5⟩ := hR
  refine ⟨hg.std r1, fun j hj => ?_, r3, r4, fun j hj => by rw [hg.2.1 188 (by decide)]; exact r5 j hj⟩
  have := r2 j hj
  unfold TkR at this ⊢
  rw [hg.2.1 187 (by decide), hg.2.2.1 185 (by decide) (by decide) (by decide) (by decide), hg.2.2.1 186 (by decide) (by decide) (by decide) (by decide)]
  exact this
theorem GF.s3 {h0 h : AHP} {k : Nat} {x : Int32} (hg : GF h0 h) (hk : k = 7 ∨ k = 8 ∨ k = 13 ∨ k = 17 ∨ k = 18) : GF h0 (sI h 183 k x) :=
  ⟨hg.1, hg.2.1, fun a q1 q2 q3 q4 => by rw [sI_ne q1]; exact hg.2.2.1 a q1 q2 q3 q4, fun j q1 q2 q3 q4 q5 => by rw [sI_nr (by omega)]; exact hg.2.2.2.1 j q1 q2 q3 q4 q5, fun j hj => by rw [sI_ne (by decide)]; exact hg.2.2.2.2.1 j hj, fun j hj => by rw [sI_ne (by decide), sI_ne (by decide)]; exact hg.2.2.2.2.2 j hj⟩
theorem GF.at {h0 h : AHP} {i f : Nat} (hg : GF h0 h) : GF h0 (AT h i f) := (hg.s3 (by decide)).s3 (by decide)
theorem GF.s9 {h0 h : AHP} {k : Nat} {x : Int32} (hg : GF h0 h) (hk : 50 ≤ k) : GF h0 (sI h 189 k x) :=
  ⟨hg.1, hg.2.1, fun a q1 q2 q3 q4 => by rw [sI_ne q2]; exact hg.2.2.1 a q1 q2 q3 q4, fun j q1 q2 q3 q4 q5 => by rw [sI_ne (by decide)]; exact hg.2.2.2.1 j q1 q2 q3 q4 q5, fun j hj => by rw [sI_nr (by omega)]; exact hg.2.2.2.2.1 j hj, fun j hj => by rw [sI_ne (by decide), sI_ne (by decide)]; exact hg.2.2.2.2.2 j hj⟩
theorem GF.sj {h0 h : AHP} {k : Nat} {x : Int64} (hg : GF h0 h) : GF h0 (sJ h 193 k x) :=
  ⟨hg.1, fun a ha => by rw [← hg.2.1 a ha]; exact up2_ne ha, hg.2.2.1, hg.2.2.2.1, hg.2.2.2.2.1, hg.2.2.2.2.2⟩
theorem GF.row {h0 h : AHP} {r : Nat → Int32} (hg : GF h0 h) (hr : ∀ j, j < 50 → r j = h.1 189 j) : GF h0 (rowI h 189 r) :=
  ⟨hg.1, hg.2.1, fun a q1 q2 q3 q4 => by rw [rowI_ne q2]; exact hg.2.2.1 a q1 q2 q3 q4, fun j q1 q2 q3 q4 q5 => by rw [rowI_ne (by decide)]; exact hg.2.2.2.1 j q1 q2 q3 q4 q5, fun j hj => by rw [rowI_at, hr j hj]; exact hg.2.2.2.2.1 j hj, fun j hj => by rw [rowI_ne (by decide), rowI_ne (by decide)]; exact hg.2.2.2.2.2 j hj⟩
theorem GF.rs {h0 h h2 : AHP} {s : St} (hg : GF h0 h) (hs : RS h h2 s) : GF h0 h2 := by
  obtain ⟨f1, f2, f3, f4⟩ := hs.1
  refine ⟨by rw [f1]; exact hg.1, fun a ha => by rw [f1]; exact hg.2.1 a ha, fun a q1 q2 q3 q4 => by rw [f2 a q1 q3 q4]; exact hg.2.2.1 a q1 q2 q3 q4, fun j q1 q2 q3 q4 q5 => by rw [f3 j q1 q2 q3]; exact hg.2.2.2.1 j q1 q2 q3 q4 q5, fun j hj => by rw [f2 189 (by decide) (by decide) (by decide)]; exact hg.2.2.2.2.1 j hj, fun j hj => by rw [(f4 j hj).1, (f4 j hj).2]; exact hg.2.2.2.2.2 j hj⟩
def onc (G : GS) : Nat := (if G.2.1 = [] then 0 else 1) + (if G.2.2.1 = 0 then 0 else 2) + (if G.2.2.2 = [] then 0 else 4)
def cdl (G : GS) : Nat := if G.2.2.2 = [] then 0 else G.2.2.2.length + 1
def GRe (h : AHP) (es : List Em) : Prop := h.1 189 50 = nI es.length ∧ ∀ e, e < es.length → h.2.1 193 e = lN (n37 (es.getD e em0).1) ∧ h.1 189 (54 + 4 * e) = nI (es.getD e em0).2.1 ∧ h.1 189 (54 + 4 * e + 1) = nI (es.getD e em0).2.2.1 ∧ h.1 189 (54 + 4 * e + 2) = nI (es.getD e em0).2.2.2.1 ∧ h.1 189 (54 + 4 * e + 3) = nI (es.getD e em0).2.2.2.2
def GRd (h : AHP) (ds : List Nat) : Prop := h.1 189 51 = nI (if ds = [] then 1 else ds.length) ∧ (∀ j, j < ds.length → h.1 189 (82 + j) = nI (ds.getD j 0)) ∧ (ds = [] → h.1 189 82 = 0)
def GRl (h : AHP) (cs : List (Nat × Nat)) : Prop := h.1 189 53 = (if cs = [] then -1 else 0) ∧ (∀ j, j < cs.length → h.1 190 (1100 + j) = nI (cs.getD j (0, 0)).1 ∧ h.1 191 (1100 + j) = nI (cs.getD j (0, 0)).2) ∧ (¬ cs = [] → h.1 190 (1100 + cs.length) = 0)
def GR (h : AHP) (G : GS) : Prop := GRe h G.1 ∧ GRd h G.2.1 ∧ h.1 189 52 = nI (if G.2.2.1 = 0 then 5 else G.2.2.1) ∧ GRl h G.2.2.2
def RGs (h0 h : AHP) (i : Nat) (G : GS) : Prop := GF h0 h ∧ h.1 183 7 = nI i ∧ h.1 183 8 = nI 0 ∧ h.1 183 13 = nI (cdl G) ∧ h.1 183 17 = nI G.1.length ∧ h.1 183 18 = nI (onc G) ∧ GR h G
def RFs (h0 h : AHP) (n F : Nat) : Prop := GF h0 h ∧ F < 100000 ∧ ∃ i, i ≤ n ∧ h.1 183 7 = nI i ∧ h.1 183 8 = nI F
theorem RGs.id {h0 h : AHP} {i : Nat} {G : GS} (hs : RGs h0 h i G) : AT h i 0 = h := AT_id hs.2.1 hs.2.2.1
/-- the rows of what was read, seen alone -/
theorem GR_rows {h h2 : AHP} {G : GS} (e1 : h2.1 189 = h.1 189) (e2 : h2.1 190 = h.1 190) (e3 : h2.1 191 = h.1 191) (e4 : h2.2.1 193 = h.2.1 193) (hg : GR h G) : GR h2 G := by
  unfold GR GRe GRd GRl at hg ⊢
  rw [e1, e2, e3, e4]
  exact hg
theorem GR_at {h : AHP} {i f : Nat} {G : GS} (hg : GR h G) : GR (AT h i f) G := GR_rows (AT_r (by decide)) (AT_r (by decide)) (AT_r (by decide)) rfl hg
theorem RGs_at {h0 h : AHP} {i i2 : Nat} {G : GS} (hs : RGs h0 h i G) : RGs h0 (AT h i2 0) i2 G :=
  ⟨hs.1.at, AT_7, AT_8, by rw [AT_o (by decide) (by decide)]; exact hs.2.2.2.1, by rw [AT_o (by decide) (by decide)]; exact hs.2.2.2.2.1, by rw [AT_o (by decide) (by decide)]; exact hs.2.2.2.2.2.1, GR_at hs.2.2.2.2.2.2⟩
theorem RFs_at {h0 h : AHP} {n i F : Nat} (hg : GF h0 h) (hi : i ≤ n) (hF : F < 100000) : RFs h0 (AT h i F) n F := ⟨hg.at, hF, i, hi, AT_7, AT_8⟩
theorem emH_9 {h : AHP} {i m : Nat} {nm : Int64} {a b c e : Int32} {j : Nat} : (emH h i m nm a b c e).1 189 j = if j = 50 then nI (m + 1) else if j = 54 + 4 * m + 3 then e else if j = 54 + 4 * m + 2 then c else if j = 54 + 4 * m + 1 then b else if j = 54 + 4 * m then a else h.1 189 j := by
  simp [emH, sI, sJ, up2]
theorem emH_r {h : AHP} {i m : Nat} {nm : Int64} {a b c e : Int32} {r : Nat} (h3 : r ≠ 183) (h9 : r ≠ 189) : (emH h i m nm a b c e).1 r = h.1 r := by
  funext j
  simp [emH, sI, sJ, up2, h3, h9]
theorem emH_3 {h : AHP} {i m : Nat} {nm : Int64} {a b c e : Int32} {j : Nat} (h7 : j ≠ 7) (h8 : j ≠ 8) (h17 : j ≠ 17) : (emH h i m nm a b c e).1 183 j = h.1 183 j := by
  simp [emH, sI, sJ, up2, h7, h8, h17]
theorem emH_17 {h : AHP} {i m : Nat} {nm : Int64} {a b c e : Int32} : (emH h i m nm a b c e).1 183 17 = nI (m + 1) := by
  simp [emH, sI, sJ, up2]
theorem emH_7 {h : AHP} {i m : Nat} {nm : Int64} {a b c e : Int32} : (emH h i m nm a b c e).1 183 7 = nI i ∧ (emH h i m nm a b c e).1 183 8 = nI 0 := by
  constructor <;> simp [emH, sI, sJ, up2]
theorem emH_J {h : AHP} {i m : Nat} {nm : Int64} {a b c e : Int32} {j : Nat} : (emH h i m nm a b c e).2.1 193 j = if j = m then nm else h.2.1 193 j := by
  simp [emH, sI, sJ, up2]
theorem GF_em {h0 h : AHP} {i m : Nat} {nm : Int64} {a b c e : Int32} (hg : GF h0 h) : GF h0 (emH h i m nm a b c e) := by
  unfold emH
  exact ((((((((hg.at).s9 (by omega)).s9 (by omega)).s9 (by omega)).s9 (by omega)).sj).s3 (by decide)).s9 (by omega))
theorem RGs_em {h0 h : AHP} {i i2 : Nat} {G : GS} {w : List Nat} {a b c e : Nat} (hs : RGs h0 h i G) (hl : G.1.length < 7) : RGs h0 (emH h i2 G.1.length (lN (n37 w)) (nI a) (nI b) (nI c) (nI e)) i2 (G.1 ++ [(w, a, b, c, e)], G.2) := by
  obtain ⟨g0, g1, g2, g3, g4, g5, ⟨g6, g7⟩, g8, g9, g10⟩ := hs
  refine ⟨GF_em g0, emH_7.1, emH_7.2, by rw [emH_3 (by decide) (by decide) (by decide)]; exact g3, by rw [emH_17]; exact congrArg nI len_sn.symm, by rw [emH_3 (by decide) (by decide) (by decide)]; exact g5, ⟨by rw [emH_9, if_pos rfl]; exact congrArg nI len_sn.symm, fun k hk => ?_⟩, ?_, ?_, ?_⟩
  · have hk' : k < G.1.length + 1 := by rw [← len_sn]; exact hk
    show _ = lN (n37 ((G.1 ++ [(w, a, b, c, e)]).getD k em0).1) ∧ _
    rw [getD_sn hk', emH_J, emH_9, emH_9, emH_9, emH_9]
    by_cases q : k = G.1.length
    · subst q
      rw [if_pos rfl, if_pos rfl]
      refine ⟨rfl, ?_, ?_, ?_, ?_⟩
      · rw [if_neg (by omega), if_neg (by omega), if_neg (by omega), if_neg (by omega), if_pos rfl]
      · rw [if_neg (by omega), if_neg (by omega), if_neg (by omega), if_pos rfl]
      · rw [if_neg (by omega), if_neg (by omega), if_pos rfl]
      · rw [if_neg (by omega), if_pos rfl]
    · have := g7 k (by omega)
      rw [if_neg q, if_neg q]
      refine ⟨this.1, ?_, ?_, ?_, ?_⟩
      · rw [if_neg (by omega), if_neg (by omega), if_neg (by omega), if_neg (by omega), if_neg (by omega)]; exact this.2.1
      · rw [if_neg (by omega), if_neg (by omega), if_neg (by omega), if_neg (by omega), if_neg (by omega)]; exact this.2.2.1
      · rw [if_neg (by omega), if_neg (by omega), if_neg (by omega), if_neg (by omega), if_neg (by omega)]; exact this.2.2.2.1
      · rw [if_neg (by omega), if_neg (by omega), if_neg (by omega), if_neg (by omega), if_neg (by omega)]; exact this.2.2.2.2
  · have ge : ∀ j, (j = 51 ∨ 82 ≤ j) → (emH h i2 G.1.length (lN (n37 w)) (nI a) (nI b) (nI c) (nI e)).1 189 j = h.1 189 j := fun j hj => by rw [emH_9, if_neg (by omega), if_neg (by omega), if_neg (by omega), if_neg (by omega), if_neg (by omega)]
    refine ⟨by rw [ge _ (by omega)]; exact g8.1, fun j hj => by rw [ge _ (by omega)]; exact g8.2.1 j hj, fun q => by rw [ge _ (by omega)]; exact g8.2.2 q⟩
  · rw [emH_9, if_neg (by omega), if_neg (by omega), if_neg (by omega), if_neg (by omega), if_neg (by omega)]; exact g9
  · refine ⟨by rw [emH_9, if_neg (by omega), if_neg (by omega), if_neg (by omega), if_neg (by omega), if_neg (by omega)]; exact g10.1, fun j hj => by rw [emH_r (by decide) (by decide), emH_r (by decide) (by decide)]; exact g10.2.1 j hj, fun q => by rw [emH_r (by decide) (by decide)]; exact g10.2.2 q⟩
theorem drW_lo {r : Nat → Int32} {ds : List Nat} : ∀ (a j : Nat), j < a → drW r a ds j = r j := by
  induction ds generalizing r with
  | nil => intro a j h; rfl
  | cons x l ih =>
    intro a j h
    show drW (fup r a (nI x)) (a + 1) l j = r j
    rw [ih (a + 1) j (by omega)]
    exact if_neg (by omega)
theorem drW_at {ds : List Nat} : ∀ (r : Nat → Int32) (a j : Nat), j < ds.length → drW r a ds (a + j) = nI (ds.getD j 0) := by
  induction ds with
  | nil => intro r a j h; exact absurd h (Nat.not_lt_zero _)
  | cons x l ih =>
    intro r a j h
    show drW (fup r a (nI x)) (a + 1) l (a + j) = _
    cases j with
    | zero =>
      show drW (fup r a (nI x)) (a + 1) l a = nI x
      rw [drW_lo (a + 1) a (by omega)]; exact if_pos rfl
    | succ j =>
      rw [show a + (j + 1) = a + 1 + j by omega]
      exact ih _ (a + 1) j (Nat.lt_of_succ_lt_succ h)
theorem rowI_J {h : AHP} {a : Nat} {r : Nat → Int32} : (rowI h a r).2 = h.2 := rfl
theorem RGs_dr {h0 h : AHP} {i i2 o2 : Nat} {G : GS} {ds : List Nat} (hs : RGs h0 h i G) (hl : G.1.length ≤ 7) (hd : G.2.1 = []) (hne : ¬ ds = []) (ho : o2 = onc G + 1) : RGs h0 (AT (rowI (sI h 183 18 (nI o2)) 189 (fup (drW (h.1 189) 82 ds) 51 (nI ds.length))) i2 0) i2 (G.1, ds, G.2.2) := by
  obtain ⟨g0, g1, g2, g3, g4, g5, ⟨g6, g7⟩, g8, g9, g10⟩ := hs
  have lo : ∀ j, j < 82 → j ≠ 51 → fup (drW (h.1 189) 82 ds) 51 (nI ds.length) j = h.1 189 j := fun j h1 h2 => (if_neg h2).trans (drW_lo 82 j h1)
  have er : (AT (rowI (sI h 183 18 (nI o2)) 189 (fup (drW (h.1 189) 82 ds) 51 (nI ds.length))) i2 0).1 189 = fup (drW (h.1 189) 82 ds) 51 (nI ds.length) := by rw [AT_r (by decide), rowI_at]
  have ea : ∀ a, a ≠ 183 → a ≠ 189 → (AT (rowI (sI h 183 18 (nI o2)) 189 (fup (drW (h.1 189) 82 ds) 51 (nI ds.length))) i2 0).1 a = h.1 a := fun a h1 h2 => by rw [AT_r h1, rowI_ne h2, sI_ne h1]
  have e3 : ∀ j, j ≠ 7 → j ≠ 8 → j ≠ 18 → (AT (rowI (sI h 183 18 (nI o2)) 189 (fup (drW (h.1 189) 82 ds) 51 (nI ds.length))) i2 0).1 183 j = h.1 183 j := fun j h1 h2 h4 => by rw [AT_o h1 h2, rowI_ne (by decide), sI_nr h4]
  refine ⟨((g0.s3 (by decide)).row (fun j hj => by rw [lo j (by omega) (by omega), sI_ne (by decide)])).at, AT_7, AT_8, by rw [e3 _ (by decide) (by decide) (by decide)]; exact g3, by rw [e3 _ (by decide) (by decide) (by decide)]; exact g4, ?_, ⟨by rw [er, lo 50 (by decide) (by decide)]; exact g6, fun e he => ?_⟩, ⟨?_, fun j hj => ?_, fun q => absurd q hne⟩, by rw [er, lo 52 (by decide) (by decide)]; exact g9, ⟨by rw [er, lo 53 (by decide) (by decide)]; exact g10.1, fun j hj => by rw [ea _ (by decide) (by decide), ea _ (by decide) (by decide)]; exact g10.2.1 j hj, fun q => by rw [ea _ (by decide) (by decide)]; exact g10.2.2 q⟩⟩
  · rw [AT_o (by decide) (by decide), rowI_ne (by decide), sI_eq, ho]
    unfold onc
    show nI _ = nI ((if ds = [] then 0 else 1) + (if G.2.2.1 = 0 then 0 else 2) + (if G.2.2.2 = [] then 0 else 4))
    rw [if_pos hd, if_neg hne]
    congr 1
    omega
  · have := g7 e he
    have he7 : e < 7 := Nat.lt_of_lt_of_le he hl
    rw [er, lo (54 + 4 * e) (by omega) (by omega), lo (54 + 4 * e + 1) (by omega) (by omega), lo (54 + 4 * e + 2) (by omega) (by omega), lo (54 + 4 * e + 3) (by omega) (by omega)]
    exact this
  · rw [er]
    show (if 51 = 51 then nI ds.length else _) = nI (if ds = [] then 1 else ds.length)
    rw [if_pos rfl, if_neg hne]
  · rw [er]
    show (if 82 + j = 51 then _ else drW (h.1 189) 82 ds (82 + j)) = _
    rw [if_neg (by omega)]
    exact drW_at _ 82 j hj
theorem RGs_ca {h0 h : AHP} {i i2 o2 c : Nat} {G : GS} (hs : RGs h0 h i G) (hl : G.1.length ≤ 7) (hd : G.2.2.1 = 0) (hc : ¬ c = 0) (ho : o2 = onc G + 2) : RGs h0 (AT (sI (sI h 183 18 (nI o2)) 189 52 (nI c)) i2 0) i2 (G.1, G.2.1, c, G.2.2.2) := by
  obtain ⟨g0, g1, g2, g3, g4, g5, ⟨g6, g7⟩, g8, g9, g10⟩ := hs
  have er : ∀ j, (AT (sI (sI h 183 18 (nI o2)) 189 52 (nI c)) i2 0).1 189 j = if j = 52 then nI c else h.1 189 j := fun j => by simp [sI, up2]
  have ea : ∀ a, a ≠ 183 → a ≠ 189 → (AT (sI (sI h 183 18 (nI o2)) 189 52 (nI c)) i2 0).1 a = h.1 a := fun a h1 h2 => by rw [AT_r h1, sI_ne h2, sI_ne h1]
  have e3 : ∀ j, j ≠ 7 → j ≠ 8 → j ≠ 18 → (AT (sI (sI h 183 18 (nI o2)) 189 52 (nI c)) i2 0).1 183 j = h.1 183 j := fun j h1 h2 h4 => by rw [AT_o h1 h2, sI_ne (by decide), sI_nr h4]
  refine ⟨((g0.s3 (by decide)).s9 (by decide)).at, AT_7, AT_8, by rw [e3 _ (by decide) (by decide) (by decide)]; exact g3, by rw [e3 _ (by decide) (by decide) (by decide)]; exact g4, ?_, ⟨by rw [er, if_neg (by decide)]; exact g6, fun e he => ?_⟩, ⟨by rw [er, if_neg (by decide)]; exact g8.1, fun j hj => by rw [er, if_neg (by omega)]; exact g8.2.1 j hj, fun q => by rw [er, if_neg (by decide)]; exact g8.2.2 q⟩, ?_, ⟨by rw [er, if_neg (by decide)]; exact g10.1, fun j hj => by rw [ea _ (by decide) (by decide), ea _ (by decide) (by decide)]; exact g10.2.1 j hj, fun q => by rw [ea _ (by decide) (by decide)]; exact g10.2.2 q⟩⟩
  · rw [AT_o (by decide) (by decide), sI_ne (by decide), sI_eq, ho]
    unfold onc
    show nI _ = nI ((if G.2.1 = [] then 0 else 1) + (if c = 0 then 0 else 2) + (if G.2.2.2 = [] then 0 else 4))
    rw [if_pos hd, if_neg hc]
    congr 1
    omega
  · have := g7 e he
    rw [er, er, er, er, if_neg (by omega), if_neg (by omega), if_neg (by omega), if_neg (by omega)]
    exact this
  · rw [er, if_pos rfl]
    show _ = nI (if c = 0 then 5 else c)
    rw [if_neg hc]
theorem RGs_lw {h0 h h2 : AHP} {i o2 : Nat} {G : GS} {s : St} {j2 : Nat} (hs : RGs h0 h i G) (hd : G.2.2.2 = []) (hne : ¬ s.2.2 = []) (hf : s.2.1 = 0) (ho : o2 = onc G + 4) (hr : RS (AT (sI (sI h 183 18 (nI o2)) 189 53 (nI 0)) j2 0) h2 (emS 0 0 s)) : RGs h0 h2 s.1 (G.1, G.2.1, G.2.2.1, s.2.2) := by
  obtain ⟨g0, g1, g2, g3, g4, g5, ⟨g6, g7⟩, g8, g9, g10⟩ := hs
  obtain ⟨⟨f1, f2, f3, f4⟩, r7, r8, r13, rc⟩ := hr
  have er : ∀ j, h2.1 189 j = if j = 53 then nI 0 else h.1 189 j := fun j => by rw [f2 189 (by decide) (by decide) (by decide)]; simp [sI, up2]
  have eJ : h2.2.1 = h.2.1 := by rw [f1]; rfl
  have el : (emS 0 0 s).2.2 = s.2.2 ++ [(0, 0)] := rfl
  refine ⟨GF.rs (((g0.s3 (by decide)).s9 (by decide)).at) ⟨⟨f1, f2, f3, f4⟩, r7, r8, r13, rc⟩, r7, ?_, ?_, ?_, ?_, ⟨by rw [er, if_neg (by decide)]; exact g6, fun e he => ?_⟩, ⟨by rw [er, if_neg (by decide)]; exact g8.1, fun j hj => by rw [er, if_neg (by omega)]; exact g8.2.1 j hj, fun q => by rw [er, if_neg (by decide)]; exact g8.2.2 q⟩, by rw [er, if_neg (by decide)]; exact g9, ⟨?_, fun j hj => ?_, fun _ => ?_⟩⟩
  · rw [r8]; show nI s.2.1 = nI 0; rw [hf]
  · rw [r13, el, len_sn]
    unfold cdl
    show _ = nI (if s.2.2 = [] then 0 else s.2.2.length + 1)
    rw [if_neg hne]
  · rw [f3 17 (by decide) (by decide) (by decide), AT_o (by decide) (by decide), sI_ne (by decide), sI_nr (by decide)]; exact g4
  · rw [f3 18 (by decide) (by decide) (by decide), AT_o (by decide) (by decide), sI_ne (by decide), sI_eq, ho]
    unfold onc
    show nI _ = nI ((if G.2.1 = [] then 0 else 1) + (if G.2.2.1 = 0 then 0 else 2) + (if s.2.2 = [] then 0 else 4))
    rw [if_pos hd, if_neg hne]
  · have := g7 e he
    rw [eJ, er, er, er, er, if_neg (by omega), if_neg (by omega), if_neg (by omega), if_neg (by omega)]
    exact this
  · rw [er, if_pos rfl]
    show _ = (if s.2.2 = [] then -1 else 0)
    rw [if_neg hne]; rfl
  · have hj' : j < s.2.2.length := hj
    have := rc j (by rw [el, len_sn]; omega)
    rw [el, getD_old hj] at this
    exact this
  · have := rc s.2.2.length (by rw [el, len_sn]; omega)
    rw [el, getD_snoc] at this
    exact this.1
theorem eF_congr {TK : Nat → Tk} {i m : Nat} {a a2 b b2 : Prop} (h1 : nmP TK (i + 1) → (a ↔ a2)) (h2 : nuP TK 0 11 (i + 4) 0 → (b ↔ b2)) : eF TK i m a b = eF TK i m a2 b2 := by
  unfold eF
  by_cases c1 : m = 7
  · rw [cI_t c1, cI_t c1]
  rw [cI_f c1, cI_f c1]
  by_cases c2 : ¬ nmP TK (i + 1)
  · rw [cI_t c2, cI_t c2]
  rw [cI_f c2, cI_f c2]
  have e1 : a = a2 := propext (h1 (Classical.not_not.mp c2))
  subst e1
  by_cases c3 : a
  · rw [cI_t c3, cI_t c3]
  rw [cI_f c3, cI_f c3]
  by_cases c4 : ¬ whP TK 12 (i + 2) 0 4
  · rw [cI_t c4, cI_t c4]
  rw [cI_f c4, cI_f c4]
  by_cases c5 : ¬ isWd TK 1 (i + 3) 0
  · rw [cI_t c5, cI_t c5]
  rw [cI_f c5, cI_f c5]
  by_cases c6 : ¬ nuP TK 0 11 (i + 4) 0
  · rw [cI_t c6, cI_t c6]
  have e2 : b = b2 := propext (h2 (Classical.not_not.mp c6))
  rw [e2]
theorem n37_eq {w u : List Nat} (h1 : okW w) (h2 : okW u) : lN (n37 w) = lN (n37 u) ↔ w = u := by
  have b1 := n37_lt 8 w h1.2.1 h1.2.2
  have b2 := n37_lt 8 u h2.2.1 h2.2.2
  rw [fb_eq (by omega) (by omega)]
  exact ⟨fun q => n37_inj 8 w u h1.2.1 h1.2.2 h2.2.2 q, fun q => by rw [q]⟩
theorem n32_eq {w u : List Nat} (h1 : okW w) (h2 : okW u) : lN (n32 w) = lN (n32 u) ↔ w = u := by
  have b1 := n32_lt 8 w h1.2.1 h1.2.2
  have b2 := n32_lt 8 u h2.2.1 h2.2.2
  rw [fb_eq (by omega) (by omega)]
  exact ⟨fun q => n32_inj 8 w u h1.2.1 h1.2.2 h2.2.2 q, fun q => by rw [q]⟩
theorem bit_0 : ∀ o, o < 8 → ∀ k, k < 3 → (((nI o >>> (nI k &&& 31)) &&& 1 = 1) ↔ o / 2 ^ k % 2 = 1) := by decide +kernel
theorem bor_0 : ∀ o, o < 8 → ∀ k, k < 3 → o / 2 ^ k % 2 = 0 → nI o ||| ((1 : Int32) <<< (nI k &&& 31)) = nI (o + 2 ^ k) := by decide +kernel
theorem onc_b {G : GS} : onc G < 8 ∧ (onc G / 2 ^ 0 % 2 = 1 ↔ ¬ G.2.1 = []) ∧ (onc G / 2 ^ 1 % 2 = 1 ↔ ¬ G.2.2.1 = 0) ∧ (onc G / 2 ^ 2 % 2 = 1 ↔ ¬ G.2.2.2 = []) := by
  unfold onc
  by_cases a : G.2.1 = []
  · by_cases b : G.2.2.1 = 0
    · by_cases c : G.2.2.2 = []
      · rw [if_pos a, if_pos b, if_pos c]; simp [a, b, c]
      · rw [if_pos a, if_pos b, if_neg c]; simp [a, b, c]
    · by_cases c : G.2.2.2 = []
      · rw [if_pos a, if_neg b, if_pos c]; simp [a, b, c]
      · rw [if_pos a, if_neg b, if_neg c]; simp [a, b, c]
  · by_cases b : G.2.2.1 = 0
    · by_cases c : G.2.2.2 = []
      · rw [if_neg a, if_pos b, if_pos c]; simp [a, b, c]
      · rw [if_neg a, if_pos b, if_neg c]; simp [a, b, c]
    · by_cases c : G.2.2.2 = []
      · rw [if_neg a, if_neg b, if_pos c]; simp [a, b, c]
      · rw [if_neg a, if_neg b, if_neg c]; simp [a, b, c]
