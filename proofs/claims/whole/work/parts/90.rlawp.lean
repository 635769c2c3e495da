/-! ===== the reference reads a law ===== -/
def Rf (h0 h : AHP) : Prop := h.2 = h0.2 ∧ (∀ a, a ≠ 183 → a ≠ 190 → a ≠ 191 → h.1 a = h0.1 a) ∧ (∀ j, j ≠ 7 → j ≠ 8 → j ≠ 13 → h.1 183 j = h0.1 183 j) ∧ ∀ j, j < 1100 → h.1 190 j = h0.1 190 j ∧ h.1 191 j = h0.1 191 j
def RS (h0 h : AHP) (s : St) : Prop := Rf h0 h ∧ h.1 183 7 = nI s.1 ∧ h.1 183 8 = nI s.2.1 ∧ h.1 183 13 = nI s.2.2.length ∧ ∀ j, j < s.2.2.length → h.1 190 (1100 + j) = nI (s.2.2.getD j (0, 0)).1 ∧ h.1 191 (1100 + j) = nI (s.2.2.getD j (0, 0)).2
theorem RS.std {h0 h : AHP} {s : St} (hS : Std h0) (hs : RS h0 h s) : Std h := ⟨by rw [hs.1.1]; exact hS.1, fun q hq => by rw [hs.1.1]; exact hS.2 q hq⟩
theorem RS.rq {h0 h : AHP} {s : St} {TK : Nat → Tk} {n : Nat} (hR : RQ h0 TK n) (hs : RS h0 h s) : RQ h TK n := by
  obtain ⟨r1, r2, r3, r4, r5⟩ := hR
  refine ⟨hs.std r1, fun j hj => ?_, r3, r4, fun j hj => by rw [hs.1.1]; exact r5 j hj⟩
  have := r2 j hj
  unfold TkR at this ⊢
  rw [hs.1.1, hs.1.2.1 185 (by decide) (by decide) (by decide), hs.1.2.1 186 (by decide) (by decide) (by decide)]
  exact this
theorem RS.id {h0 h : AHP} {s : St} (hs : RS h0 h s) : AT h s.1 s.2.1 = h := AT_id hs.2.1 hs.2.2.1
theorem RS_at {h0 h : AHP} {s : St} {i f : Nat} (hs : RS h0 h s) : RS h0 (AT h i f) (i, f, s.2.2) := by
  obtain ⟨⟨f1, f2, f3, f4⟩, _, _, h13, hc⟩ := hs
  refine ⟨⟨f1, fun a h1 h2 h3 => by rw [AT_r h1]; exact f2 a h1 h2 h3, fun j h1 h2 h3 => by rw [AT_o h1 h2]; exact f3 j h1 h2 h3, fun j hj => by rw [AT_r (by decide), AT_r (by decide)]; exact f4 j hj⟩, AT_7, AT_8, by rw [AT_o (by decide) (by decide)]; exact h13, fun j hj => by rw [AT_r (by decide), AT_r (by decide)]; exact hc j hj⟩
theorem RS_n1 {h0 h : AHP} {s : St} (hs : RS h0 h s) : RS h0 (sI h 183 7 ((fun x y : Int32 => x + y) (nI s.1) 1)) (nx1 s) := by
  have h1 := RS_at (i := s.1 + 1) (f := s.2.1) hs
  have h2 : sI h 183 7 ((fun x y : Int32 => x + y) (nI s.1) 1) = AT h (s.1 + 1) s.2.1 := by
    rw [← AT_7s (i := s.1), hs.id]
    exact congrArg (sI h 183 7) (nI_1 s.1)
  rw [h2]
  exact h1
theorem getD_snoc {α : Type} {l : List α} {x d : α} : (l ++ [x]).getD l.length d = x := by simp [List.getD]
theorem getD_old {α : Type} {l : List α} {x d : α} {j : Nat} (hj : j < l.length) : (l ++ [x]).getD j d = l.getD j d := by simp [List.getD, List.getElem?_append, hj]
theorem RS_em {h0 h : AHP} {s : St} {a b : Nat} (hs : RS h0 h s) : RS h0 (sI (sI (sI h 190 (1100 + s.2.2.length) (nI a)) 191 (1100 + s.2.2.length) (nI b)) 183 13 (nI (s.2.2.length + 1))) (emS a b s) := by
  obtain ⟨⟨f1, f2, f3, f4⟩, h7, h8, h13, hc⟩ := hs
  have e9 : (emS a b s).2.2 = s.2.2 ++ [(a, b)] := rfl
  refine ⟨⟨f1, fun x h1 h2 h3 => by rw [sI_ne h1, sI_ne h3, sI_ne h2]; exact f2 x h1 h2 h3, fun j h1 h2 h3 => by rw [sI_nr h3, sI_ne (by decide), sI_ne (by decide)]; exact f3 j h1 h2 h3, fun j hj => ⟨?_, ?_⟩⟩, ?_, ?_, ?_, fun j hj => ?_⟩
  · rw [sI_ne (by decide), sI_ne (by decide), sI_nr (by omega)]; exact (f4 j hj).1
  · rw [sI_ne (by decide), sI_nr (by omega), sI_ne (by decide)]; exact (f4 j hj).2
  · rw [sI_nr (by decide), sI_ne (by decide), sI_ne (by decide)]; exact h7
  · rw [sI_nr (by decide), sI_ne (by decide), sI_ne (by decide)]; exact h8
  · rw [sI_eq, e9, List.length_append, List.length_singleton]
  · rw [e9] at hj ⊢
    rw [List.length_append, List.length_singleton] at hj
    rw [sI_ne (by decide), sI_ne (a := 183) (by decide), sI_ne (a := 191) (by decide)]
    by_cases hl : j = s.2.2.length
    · subst hl
      rw [getD_snoc, sI_eq, sI_eq]
      exact ⟨rfl, rfl⟩
    · rw [getD_old (by omega), sI_nr (by omega), sI_nr (by omega), sI_ne (by decide)]
      exact hc j (by omega)
def okR (TK : Nat → Tk) (n : Nat) (s : St) : Prop := s.1 ≤ n ∧ s.2.1 < 100000 ∧ s.2.2.length ≤ s.1
theorem w_isSign {d : Nat} {h0 h : AHP} {TK : Nat → Tk} {n : Nat} {s : St} (hR : RQ h0 TK n) (hs : RS h0 h s) (hk : okR TK n s) {c : Nat} (hc : c < 10000) : MM d 167 [.ref 183, .int (nI c)] h (fun v h2 => v = some (.int (b2i (isS TK c s.1 s.2.1))) ∧ h2 = h) := by
  have q := r_isSign (d := d) (c := c) (hs.rq hR) hk.1 hk.2.1 hc
  rw [hs.id] at q
  exact q
theorem w_isWord {d : Nat} {h0 h : AHP} {TK : Nat → Tk} {n : Nat} {s : St} (hR : RQ h0 TK n) (hs : RS h0 h s) (hk : okR TK n s) {c : Nat} (hc : c < 23) : MM d 168 [.ref 183, .int (nI c)] h (fun v h2 => v = some (.int (b2i (isWd TK c s.1 s.2.1))) ∧ h2 = h) := by
  have q := r_isWord (d := d) (c := c) (hs.rq hR) hk.1 hk.2.1 hc
  rw [hs.id] at q
  exact q
theorem w_wordHere {d : Nat} {h0 h : AHP} {TK : Nat → Tk} {n : Nat} {s : St} (hR : RQ h0 TK n) (hs : RS h0 h s) (hk : okR TK n s) {b cnt : Nat} (hb : b + cnt ≤ 23) : MM (d + 1) 177 [.ref 183, .int (nI b), .int (nI cnt)] h (fun v h2 => v = some (.int (whV TK b s.1 s.2.1 cnt)) ∧ h2 = h) := by
  have q := r_wordHere (d := d) (b := b) (cnt := cnt) (hs.rq hR) hk.1 hk.2.1 hb
  rw [hs.id] at q
  exact q
theorem w_wrong {d : Nat} {h0 h : AHP} {TK : Nat → Tk} {n : Nat} {s : St} (hR : RQ h0 TK n) (hs : RS h0 h s) (hk : okR TK n s) {c : Nat} : MM d 166 [.ref 183, .int (nI c)] h (fun v h2 => v = none ∧ RS h0 h2 (wrS TK c s)) := by
  have q := r_wrong (d := d) (c := c) (hs.rq hR) hk.1 hk.2.1
  rw [hs.id] at q
  refine M_mono ?_ q
  rintro _ h2 ⟨rfl, rfl⟩
  exact ⟨rfl, RS_at hs⟩
theorem w_takeSign {d : Nat} {h0 h : AHP} {TK : Nat → Tk} {n : Nat} {s : St} (hR : RQ h0 TK n) (hs : RS h0 h s) (hk : okR TK n s) {c : Nat} (hc : c < 10000) : MM (d + 1) 169 [.ref 183, .int (nI c)] h (fun v h2 => v = none ∧ RS h0 h2 (tSS TK c s)) := by
  have q := r_takeSign (d := d) (c := c) (hs.rq hR) hk.1 hk.2.1 hc
  rw [hs.id] at q
  refine M_mono ?_ q
  rintro _ h2 ⟨rfl, h3, h4⟩
  refine ⟨rfl, ?_⟩
  unfold tSS
  by_cases hw : isS TK c s.1 s.2.1
  · rw [cI_t hw, h3 hw]; exact RS_at hs
  · rw [cI_f hw, h4 hw]; exact RS_at hs
theorem w_hasSign {d : Nat} {h0 h : AHP} {TK : Nat → Tk} {n : Nat} {s : St} (hR : RQ h0 TK n) (hs : RS h0 h s) (hk : okR TK n s) {c : Nat} (hc : c < 10000) : MM (d + 1) 170 [.ref 183, .int (nI c)] h (fun v h2 => v = some (.int (b2i (isS TK c s.1 s.2.1))) ∧ (isS TK c s.1 s.2.1 → RS h0 h2 (nx1 s)) ∧ (¬ isS TK c s.1 s.2.1 → h2 = h)) := by
  have q := r_hasSign (d := d) (c := c) (hs.rq hR) hk.1 hk.2.1 hc
  rw [hs.id] at q
  refine M_mono ?_ q
  rintro _ h2 ⟨rfl, h3, h4⟩
  exact ⟨rfl, fun hw => by rw [h3 hw]; exact RS_at hs, h4⟩
theorem w_hasWord {d : Nat} {h0 h : AHP} {TK : Nat → Tk} {n : Nat} {s : St} (hR : RQ h0 TK n) (hs : RS h0 h s) (hk : okR TK n s) {c : Nat} (hc : c < 23) : MM (d + 1) 171 [.ref 183, .int (nI c)] h (fun v h2 => v = some (.int (b2i (isWd TK c s.1 s.2.1))) ∧ (isWd TK c s.1 s.2.1 → RS h0 h2 (nx1 s)) ∧ (¬ isWd TK c s.1 s.2.1 → h2 = h)) := by
  have q := r_hasWord (d := d) (c := c) (hs.rq hR) hk.1 hk.2.1 hc
  rw [hs.id] at q
  refine M_mono ?_ q
  rintro _ h2 ⟨rfl, h3, h4⟩
  exact ⟨rfl, fun hw => by rw [h3 hw]; exact RS_at hs, h4⟩
theorem w_emit {d : Nat} {h0 h : AHP} {s : St} (hS : Std h0) (hs : RS h0 h s) (hq : s.2.2.length < 1100) {a b : Nat} : MM d 188 [.ref 183, .int (nI a), .int (nI b)] h (fun v h2 => v = none ∧ RS h0 h2 (emS a b s)) := by
  refine M_mono ?_ (r_emit (hs.std hS) hs.2.2.2.1 hq)
  rintro _ h2 ⟨rfl, rfl⟩
  exact ⟨rfl, RS_em hs⟩
