/-! ===== tokens ===== -/
def iL (c : Nat) : Bool := Nat.ble 97 c && Nat.ble c 122
def iD (c : Nat) : Bool := Nat.ble 48 c && Nat.ble c 57
def iB (c : Nat) : Bool := Nat.beq c 10 || Nat.beq c 32
def iG (c : Nat) : Bool := Nat.beq c 40 || Nat.beq c 41 || Nat.beq c 59 || Nat.beq c 61 || Nat.beq c 60 || Nat.beq c 43 || Nat.beq c 45 || Nat.beq c 42
/-- where a run of signs ends -/
def rnE (P : Nat → Bool) (ch : Nat → Nat) : Nat → Nat → Nat
  | 0, p => p
  | j + 1, p => if P (ch p) = true then rnE P ch j (p + 1) else p
theorem rnE_le {P : Nat → Bool} {ch : Nat → Nat} : ∀ (j p : Nat), p ≤ rnE P ch j p ∧ rnE P ch j p ≤ p + j := by
  intro j
  induction j with
  | zero => intro p; exact ⟨Nat.le_refl _, Nat.le_refl _⟩
  | succ j ih =>
    intro p
    rw [rnE]
    split
    · have := ih (p + 1); omega
    · omega
theorem rnE_in {P : Nat → Bool} {ch : Nat → Nat} : ∀ (j p i : Nat), p ≤ i → i < rnE P ch j p → P (ch i) = true := by
  intro j
  induction j with
  | zero => intro p i h1 h2; rw [rnE] at h2; omega
  | succ j ih =>
    intro p i h1 h2
    rw [rnE] at h2
    by_cases hp : P (ch p) = true
    · rw [if_pos hp] at h2
      by_cases e : i = p
      · rw [e]; exact hp
      · exact ih (p + 1) i (by omega) h2
    · rw [if_neg hp] at h2; omega
theorem rnE_end {P : Nat → Bool} {ch : Nat → Nat} : ∀ (j p : Nat), rnE P ch j p < p + j → ¬ P (ch (rnE P ch j p)) = true := by
  intro j
  induction j with
  | zero => intro p h; rw [rnE] at h; omega
  | succ j ih =>
    intro p h
    rw [rnE] at h ⊢
    by_cases hp : P (ch p) = true
    · rw [if_pos hp] at h ⊢; exact ih (p + 1) (by omega)
    · rw [if_neg hp]; exact hp
/-- letters as numbers -/
def lts (ch : Nat → Nat) : Nat → Nat → List Nat
  | 0, _ => []
  | j + 1, p => (ch p - 96) :: lts ch j (p + 1)
theorem lts_len {ch : Nat → Nat} : ∀ (j p : Nat), (lts ch j p).length = j := by
  intro j
  induction j with
  | zero => intro p; rfl
  | succ j ih => intro p; rw [lts, List.length_cons, ih]
theorem lts_snoc {ch : Nat → Nat} : ∀ (j p : Nat), lts ch (j + 1) p = lts ch j p ++ [ch (p + j) - 96] := by
  intro j
  induction j with
  | zero => intro p; rfl
  | succ j ih =>
    intro p
    rw [lts, ih (p + 1), lts, List.cons_append, show p + 1 + j = p + (j + 1) by omega]
theorem lts_mem {ch : Nat → Nat} {c : Nat} : ∀ (j p : Nat), c ∈ lts ch j p → ∃ i, p ≤ i ∧ i < p + j ∧ c = ch i - 96 := by
  intro j
  induction j with
  | zero => intro p h; cases h
  | succ j ih =>
    intro p h
    rw [lts] at h
    rcases List.mem_cons.mp h with e | h
    · exact ⟨p, by omega, by omega, e⟩
    · obtain ⟨i, h1, h2, h3⟩ := ih (p + 1) h
      exact ⟨i, by omega, by omega, h3⟩
theorem n32_snoc {w : List Nat} {c : Nat} : n32 (w ++ [c]) = n32 w * 32 + c := by unfold n32; rw [List.foldl_append]; rfl
theorem n37_snoc {w : List Nat} {c : Nat} : n37 (w ++ [c]) = n37 w * 37 + c := by unfold n37; rw [List.foldl_append]; rfl
def okL (w : List Nat) : Prop := ∀ c ∈ w, 1 ≤ c ∧ c ≤ 26
theorem okL_snoc {w : List Nat} {c : Nat} (h : okL (w ++ [c])) : okL w ∧ 1 ≤ c ∧ c ≤ 26 := ⟨fun x hx => h x (List.mem_append_left _ hx), h c (List.mem_append_right _ (List.mem_singleton.mpr rfl))⟩
theorem snoc_of {w : List Nat} (h : w ≠ []) : ∃ u c, w = u ++ [c] := ⟨w.dropLast, w.getLast h, (List.dropLast_concat_getLast h).symm⟩
theorem n32_pos {w : List Nat} (h : okL w) (hn : w ≠ []) : 1 ≤ n32 w := by
  obtain ⟨u, c, rfl⟩ := snoc_of hn
  rw [n32_snoc]
  have := (okL_snoc h).2.1
  omega
theorem n37_pos {w : List Nat} (h : okL w) (hn : w ≠ []) : 1 ≤ n37 w := by
  obtain ⟨u, c, rfl⟩ := snoc_of hn
  rw [n37_snoc]
  have := (okL_snoc h).2.1
  omega
theorem n32_inj : ∀ (k : Nat) (w u : List Nat), w.length ≤ k → okL w → okL u → n32 w = n32 u → w = u := by
  intro k
  induction k with
  | zero =>
    intro w u hk hw hu e
    have : w = [] := List.length_eq_zero_iff.mp (by omega)
    subst this
    by_cases hn : u = []
    · exact hn.symm
    · have h1 := n32_pos hu hn
      rw [← e] at h1
      exact absurd h1 (by decide)
  | succ k ih =>
    intro w u hk hw hu e
    by_cases hw0 : w = []
    · subst hw0
      by_cases hn : u = []
      · exact hn.symm
      · have h1 := n32_pos hu hn
        rw [← e] at h1
        exact absurd h1 (by decide)
    · by_cases hu0 : u = []
      · subst hu0
        have h1 := n32_pos hw hw0
        rw [e] at h1
        exact absurd h1 (by decide)
      · obtain ⟨w2, c, rfl⟩ := snoc_of hw0
        obtain ⟨u2, d, rfl⟩ := snoc_of hu0
        rw [n32_snoc, n32_snoc] at e
        have h1 := okL_snoc hw
        have h2 := okL_snoc hu
        rw [List.length_append, List.length_singleton] at hk
        have h3 : c = d := by omega
        have h4 := ih w2 u2 (by omega) h1.1 h2.1 (by omega)
        rw [h3, h4]
theorem n37_inj : ∀ (k : Nat) (w u : List Nat), w.length ≤ k → okL w → okL u → n37 w = n37 u → w = u := by
  intro k
  induction k with
  | zero =>
    intro w u hk hw hu e
    have : w = [] := List.length_eq_zero_iff.mp (by omega)
    subst this
    by_cases hn : u = []
    · exact hn.symm
    · have h1 := n37_pos hu hn
      rw [← e] at h1
      exact absurd h1 (by decide)
  | succ k ih =>
    intro w u hk hw hu e
    by_cases hw0 : w = []
    · subst hw0
      by_cases hn : u = []
      · exact hn.symm
      · have h1 := n37_pos hu hn
        rw [← e] at h1
        exact absurd h1 (by decide)
    · by_cases hu0 : u = []
      · subst hu0
        have h1 := n37_pos hw hw0
        rw [e] at h1
        exact absurd h1 (by decide)
      · obtain ⟨w2, c, rfl⟩ := snoc_of hw0
        obtain ⟨u2, d, rfl⟩ := snoc_of hu0
        rw [n37_snoc, n37_snoc] at e
        have h1 := okL_snoc hw
        have h2 := okL_snoc hu
        rw [List.length_append, List.length_singleton] at hk
        have h3 : c = d := by omega
        have h4 := ih w2 u2 (by omega) h1.1 h2.1 (by omega)
        rw [h3, h4]
theorem n32_lt : ∀ (k : Nat) (w : List Nat), w.length ≤ k → okL w → n32 w < 32 ^ k := by
  intro k
  induction k with
  | zero =>
    intro w hk _
    have : w = [] := List.length_eq_zero_iff.mp (by omega)
    subst this; decide
  | succ k ih =>
    intro w hk hw
    by_cases hw0 : w = []
    · subst hw0; exact Nat.pow_pos (by decide)
    · obtain ⟨w2, c, rfl⟩ := snoc_of hw0
      rw [List.length_append, List.length_singleton] at hk
      have h1 := okL_snoc hw
      have h2 := ih w2 (by omega) h1.1
      rw [n32_snoc, Nat.pow_succ]
      omega
theorem n37_lt : ∀ (k : Nat) (w : List Nat), w.length ≤ k → okL w → n37 w < 37 ^ k := by
  intro k
  induction k with
  | zero =>
    intro w hk _
    have : w = [] := List.length_eq_zero_iff.mp (by omega)
    subst this; decide
  | succ k ih =>
    intro w hk hw
    by_cases hw0 : w = []
    · subst hw0; exact Nat.pow_pos (by decide)
    · obtain ⟨w2, c, rfl⟩ := snoc_of hw0
      rw [List.length_append, List.length_singleton] at hk
      have h1 := okL_snoc hw
      have h2 := ih w2 (by omega) h1.1
      rw [n37_snoc, Nat.pow_succ]
      omega
def kwF : List (List Nat) → List Nat → Nat → Nat
  | [], _, i => i
  | u :: l, w, i => if u = w then i else kwF l w (i + 1)
def kw (w : List Nat) : Nat := kwF KW w 0
theorem kw_at : ∀ i, i < 23 → kw (KWi i) = i := by decide +kernel
theorem kwF_le {w : List Nat} : ∀ (l : List (List Nat)) (i : Nat), i ≤ kwF l w i ∧ kwF l w i ≤ i + l.length ∧ (kwF l w i < i + l.length → l.getD (kwF l w i - i) [] = w) ∧ (∀ j, j < l.length → i + j < kwF l w i → ¬ l.getD j [] = w) := by
  intro l
  induction l with
  | nil => intro i; exact ⟨Nat.le_refl _, Nat.le_refl _, fun h => by simp [kwF] at h, fun j h => by simp at h⟩
  | cons u l ih =>
    intro i
    rw [kwF]
    by_cases hu : u = w
    · rw [if_pos hu]
      refine ⟨Nat.le_refl _, Nat.le_add_right _ _, fun _ => by rw [Nat.sub_self]; exact hu, fun j _ h => by omega⟩
    · rw [if_neg hu]
      obtain ⟨h1, h2, h3, h4⟩ := ih (i + 1)
      refine ⟨by omega, by rw [List.length_cons]; omega, fun h => ?_, fun j hj h => ?_⟩
      · rw [List.length_cons] at h
        have h5 := h3 (by omega)
        rw [show kwF l w (i + 1) - i = (kwF l w (i + 1) - (i + 1)) + 1 by omega]
        exact h5
      · cases j with
        | zero => exact hu
        | succ j => rw [List.length_cons] at hj; exact h4 j (by omega) (by omega)
theorem kw_le (w : List Nat) : kw w ≤ 23 := by have := (kwF_le (w := w) KW 0).2.1; rw [show KW.length = 23 from rfl] at this; exact by unfold kw; omega
theorem kw_in {w : List Nat} {i : Nat} (hi : i < 23) : KWi i = w ↔ kw w = i := by
  constructor
  · intro e; rw [← e]; exact kw_at i hi
  · intro e
    have h1 := (kwF_le (w := w) KW 0).2.2.1
    have h2 : kwF KW w 0 = i := e
    rw [h2, show KW.length = 23 from rfl] at h1
    exact h1 (by omega)
theorem KW_ok : ∀ i, i < 23 → okW (KWi i) := by unfold okW; decide +kernel
/-- a token: sort, place, number (of the word), word, where the next is looked for -/
abbrev Tk : Type := Nat × Nat × Nat × List Nat × Nat
def numN (ch : Nat → Nat) : Nat → Nat → Nat → Nat
  | 0, _, a => a
  | j + 1, p, a => numN ch j (p + 1) (10 * a + (ch p - 48))
def tokA (ch : Nat → Nat) (len q : Nat) : Tk :=
  if len ≤ q then (0, q, 0, [], q)
  else if iL (ch q) = true then (if rnE iL ch (len - q) q - q ≤ 8 then (1, q, kw (lts ch (rnE iL ch (len - q) q - q) q), lts ch (rnE iL ch (len - q) q - q) q, rnE iL ch (len - q) q) else (4, q, 0, [], rnE iL ch (len - q) q))
  else if iD (ch q) = true then (if rnE iD ch (len - q) q - q ≤ 4 then (2, q, numN ch (rnE iD ch (len - q) q - q) q 0, [], rnE iD ch (len - q) q) else (4, q, 0, [], rnE iD ch (len - q) q))
  else if iG (ch q) = true then (3, q, ch q, [], q + 1) else (4, q, 0, [], q + 1)
def tokN (ch : Nat → Nat) (len p : Nat) : Tk := tokA ch len (rnE iB ch (len - p) p)
def posT (ch : Nat → Nat) (len : Nat) : Nat → Nat
  | 0 => 0
  | i + 1 => (tokN ch len (posT ch len i)).2.2.2.2
def tkT (ch : Nat → Nat) (len i : Nat) : Tk := tokN ch len (posT ch len i)
theorem posT_1 {ch : Nat → Nat} {len i : Nat} : posT ch len (i + 1) = (tkT ch len i).2.2.2.2 := rfl
theorem tokA_nx {ch : Nat → Nat} {len q : Nat} (hq : q ≤ len) : (tokA ch len q).2.1 = q ∧ (tokA ch len q).2.2.2.2 ≤ len ∧ ((tokA ch len q).1 = 0 ↔ q = len) ∧ (q < len → q < (tokA ch len q).2.2.2.2) ∧ (q = len → (tokA ch len q).2.2.2.2 = len) := by
  unfold tokA
  by_cases h0 : len ≤ q
  · rw [if_pos h0]; exact ⟨rfl, hq, ⟨fun _ => by omega, fun _ => rfl⟩, fun h => by omega, fun h => h⟩
  · rw [if_neg h0]
    have hL := rnE_le (P := iL) (ch := ch) (len - q) q
    have hD := rnE_le (P := iD) (ch := ch) (len - q) q
    by_cases h1 : iL (ch q) = true
    · have h2 : q < rnE iL ch (len - q) q := by
        rw [show len - q = (len - q - 1) + 1 by omega, rnE, if_pos h1]
        have := (rnE_le (P := iL) (ch := ch) (len - q - 1) (q + 1)).1
        omega
      rw [if_pos h1]
      split
      · exact ⟨rfl, by show rnE iL ch (len - q) q ≤ len; omega, ⟨fun h => (by cases h), fun h => by omega⟩, fun _ => h2, fun h => by omega⟩
      · exact ⟨rfl, by show rnE iL ch (len - q) q ≤ len; omega, ⟨fun h => (by cases h), fun h => by omega⟩, fun _ => h2, fun h => by omega⟩
    · rw [if_neg h1]
      by_cases h3 : iD (ch q) = true
      · have h2 : q < rnE iD ch (len - q) q := by
          rw [show len - q = (len - q - 1) + 1 by omega, rnE, if_pos h3]
          have := (rnE_le (P := iD) (ch := ch) (len - q - 1) (q + 1)).1
          omega
        rw [if_pos h3]
        split
        · exact ⟨rfl, by show rnE iD ch (len - q) q ≤ len; omega, ⟨fun h => (by cases h), fun h => by omega⟩, fun _ => h2, fun h => by omega⟩
        · exact ⟨rfl, by show rnE iD ch (len - q) q ≤ len; omega, ⟨fun h => (by cases h), fun h => by omega⟩, fun _ => h2, fun h => by omega⟩
      · rw [if_neg h3]
        split
        · exact ⟨rfl, by show q + 1 ≤ len; omega, ⟨fun h => (by cases h), fun h => by omega⟩, fun _ => Nat.lt_succ_self q, fun h => by omega⟩
        · exact ⟨rfl, by show q + 1 ≤ len; omega, ⟨fun h => (by cases h), fun h => by omega⟩, fun _ => Nat.lt_succ_self q, fun h => by omega⟩
theorem posT_le {ch : Nat → Nat} {len : Nat} : ∀ i, posT ch len i ≤ len := by
  intro i
  induction i with
  | zero => exact Nat.zero_le _
  | succ i ih =>
    have h1 := rnE_le (P := iB) (ch := ch) (len - posT ch len i) (posT ch len i)
    exact (tokA_nx (ch := ch) (len := len) (by omega)).2.1
theorem tk_pl {ch : Nat → Nat} {len i : Nat} : (tkT ch len i).2.1 = rnE iB ch (len - posT ch len i) (posT ch len i) ∧ posT ch len i ≤ (tkT ch len i).2.1 ∧ (tkT ch len i).2.1 ≤ len ∧ ((tkT ch len i).1 = 0 ↔ (tkT ch len i).2.1 = len) ∧ (¬ (tkT ch len i).1 = 0 → (tkT ch len i).2.1 < posT ch len (i + 1)) ∧ ((tkT ch len i).1 = 0 → posT ch len (i + 1) = len) := by
  have h0 := posT_le (ch := ch) (len := len) i
  have h1 := rnE_le (P := iB) (ch := ch) (len - posT ch len i) (posT ch len i)
  have h2 := tokA_nx (ch := ch) (len := len) (q := rnE iB ch (len - posT ch len i) (posT ch len i)) (by omega)
  rw [posT_1]
  unfold tkT tokN
  rw [h2.1]
  refine ⟨rfl, by omega, by omega, h2.2.2.1, fun h => h2.2.2.2.1 ?_, fun h => h2.2.2.2.2 (h2.2.2.1.mp h)⟩
  have : ¬ rnE iB ch (len - posT ch len i) (posT ch len i) = len := fun e => h (h2.2.2.1.mpr e)
  omega
theorem posT_grow {ch : Nat → Nat} {len : Nat} : ∀ i, (∀ j, j < i → ¬ (tkT ch len j).1 = 0) → i ≤ posT ch len i := by
  intro i
  induction i with
  | zero => intro _; exact Nat.zero_le _
  | succ i ih =>
    intro h
    have h1 := ih fun j hj => h j (by omega)
    have h2 := (tk_pl (ch := ch) (len := len) (i := i))
    have h3 := h2.2.2.2.2.1 (h i (by omega))
    omega
/-- behind the end is the end -/
theorem tk_end {ch : Nat → Nat} {len i : Nat} (h : (tkT ch len i).1 = 0) : (tkT ch len (i + 1)).1 = 0 := by
  have h1 := (tk_pl (ch := ch) (len := len) (i := i)).2.2.2.2.2 h
  have h2 := tk_pl (ch := ch) (len := len) (i := i + 1)
  exact h2.2.2.2.1.mpr (by omega)
/-- the signs of a row -/
def CHr (r : Nat → Int32) (ch : Nat → Nat) (len : Nat) : Prop := ∀ i, i < len → r i = nI (ch i) ∧ (ch i = 10 ∨ (32 ≤ ch i ∧ ch i ≤ 126))
theorem CHr_of {r : Nat → Int32} {len : Nat} (h : ∀ i, i < len → okC (r i)) : CHr r (fun i => (r i).toNatClampNeg) len := by
  intro i hi
  obtain ⟨c, e, hc⟩ := h i hi
  show r i = nI (r i).toNatClampNeg ∧ ((r i).toNatClampNeg = 10 ∨ (32 ≤ (r i).toNatClampNeg ∧ (r i).toNatClampNeg ≤ 126))
  rw [e, nI_clamp (by omega)]
  exact ⟨rfl, hc⟩
