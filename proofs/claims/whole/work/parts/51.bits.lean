/-! ===== bits (rows of kit/laws/BITS, turned) ===== -/
def bt (x : Int32) (i : Nat) : Bool := x.toBitVec.getLsbD i
theorem b_ext {x y : Int32} (h : ∀ i, i < 32 → bt x i = bt y i) : x = y := Int32.toBitVec_inj.mp (BitVec.eq_of_getLsbD_eq (fun i hi => h i hi))
theorem b_or (x y : Int32) (i : Nat) : bt (x ||| y) i = (bt x i || bt y i) := by unfold bt; rw [Int32.toBitVec_or, BitVec.getLsbD_or]
theorem b_and (x y : Int32) (i : Nat) : bt (x &&& y) i = (bt x i && bt y i) := by unfold bt; rw [Int32.toBitVec_and, BitVec.getLsbD_and]
theorem b_xor (x y : Int32) (i : Nat) : bt (x ^^^ y) i = (bt x i ^^ bt y i) := by unfold bt; rw [Int32.toBitVec_xor, BitVec.getLsbD_xor]
theorem b_big {x : Int32} {i : Nat} (h : 32 ≤ i) : bt x i = false := BitVec.getLsbD_of_ge _ _ h
theorem b_m1 : ∀ i, i < 32 → bt (-1) i = true := by decide +kernel
theorem b_0 (i : Nat) : bt 0 i = false := BitVec.getLsbD_zero
theorem s_l : ∀ n, n < 32 → ((nI n &&& 31).toBitVec.smod 32).toNat = n := by decide +kernel
theorem b_shl (n : Nat) (hn : n < 32) (x : Int32) {i : Nat} (hi : i < 32) : bt (x <<< (nI n &&& 31)) i = (decide (n ≤ i) && bt x (i - n)) := by
  unfold bt
  rw [Int32.toBitVec_shiftLeft]
  show (x.toBitVec <<< ((nI n &&& 31).toBitVec.smod 32).toNat).getLsbD i = _
  rw [s_l n hn, BitVec.getLsbD_shiftLeft]
  rcases Nat.lt_or_ge i n with h | h
  · simp [h, Nat.not_le.mpr h]
  · simp [hi, h, Nat.not_lt.mpr h]
theorem b_sshr (n : Nat) (hn : n < 32) (x : Int32) {i : Nat} (hi : i < 32) : bt (x >>> (nI n &&& 31)) i = if n + i < 32 then bt x (n + i) else bt x 31 := by
  unfold bt
  rw [Int32.toBitVec_shiftRight]
  show (x.toBitVec.sshiftRight ((nI n &&& 31).toBitVec.smod 32).toNat).getLsbD i = _
  rw [s_l n hn, BitVec.getLsbD_sshiftRight, BitVec.msb_eq_getLsbD_last]
  simp [hi]
theorem b_1 : ∀ i, i < 32 → bt 1 i = decide (i = 0) := by decide +kernel
theorem b_one {n i : Nat} (hn : n < 32) (hi : i < 32) : bt ((1 : Int32) <<< (nI n &&& 31)) i = decide (i = n) := by
  rw [b_shl n hn 1 hi, b_1 (i - n) (by omega)]
  by_cases h : i = n
  · simp [h]
  · by_cases h2 : n ≤ i
    · simp [h, h2]; omega
    · simp [h, h2]
theorem bit_and {x : Int32} {n : Nat} (hn : n < 32) : (x >>> (nI n &&& 31)) &&& 1 = if bt x n = true then 1 else 0 := by
  apply b_ext
  intro i hi
  rw [b_and, b_sshr n hn x hi, b_1 i hi]
  by_cases h : i = 0
  · subst h
    by_cases hb : bt x n = true
    · simp [hb, hn, b_1]
    · simp [hb, hn, b_0]
  · by_cases hb : bt x n = true
    · simp [h, hb, b_1 i hi]
    · simp [h, hb, b_0]
theorem bitI_bt {x : Int32} {n : Nat} (hn : n < 32) : bitI x (nI n) ↔ bt x n = true := by
  unfold bitI
  rw [bit_and hn]
  by_cases hb : bt x n = true
  · simp [hb]
  · simp [hb]
/-- a set of bits, one place behind another -/
noncomputable def setS (P : Nat → Prop) (e : Nat) (s : Int32) : Int32 := @ite _ (P e) (Classical.propDecidable _) (s ||| (1 <<< (nI e &&& 31))) s
noncomputable def dcd (P : Prop) : Bool := @decide P (Classical.propDecidable P)
theorem dcd_t {P : Prop} (h : P) : dcd P = true := @decide_eq_true P (Classical.propDecidable P) h
theorem dcd_f {P : Prop} (h : ¬ P) : dcd P = false := @decide_eq_false P (Classical.propDecidable P) h
theorem dcd_iff {P : Prop} : dcd P = true ↔ P := by
  by_cases h : P
  · exact ⟨fun _ => h, fun _ => dcd_t h⟩
  · exact ⟨fun q => absurd ((dcd_f h).symm.trans q) (by decide), fun q => absurd q h⟩
theorem set_bt {P : Nat → Prop} : ∀ (j i : Nat) (s : Int32) (a : Nat), i + j ≤ 32 → a < 32 → bt (it (setS P) j i s) a = (bt s a || (decide (i ≤ a) && decide (a < i + j) && dcd (P a))) := by
  intro j
  induction j with
  | zero => intro i s a _ _; rw [show it (setS P) 0 i s = s from rfl]; by_cases h : i ≤ a <;> simp [h]; omega
  | succ j ih =>
    intro i s a h1 ha
    rw [it_step, ih (i + 1) _ a (by omega) ha]
    by_cases hp : P i
    · rw [setS, if_pos hp, b_or, b_one (by omega) ha]
      by_cases hai : a = i
      · subst hai; simp [dcd_t hp]
      · by_cases h2 : i ≤ a
        · have h3 : i + 1 ≤ a := by omega
          simp [hai, h2, h3]
          by_cases h4 : a < i + 1 + j
          · simp [h4, show a < i + (j + 1) by omega]
          · simp [h4, show ¬ a < i + (j + 1) by omega]
        · simp [hai, h2, show ¬ i + 1 ≤ a by omega]
    · rw [setS, if_neg hp]
      by_cases hai : a = i
      · subst hai; simp [dcd_f hp]
      · by_cases h2 : i ≤ a
        · have h3 : i + 1 ≤ a := by omega
          simp [h2, h3]
          by_cases h4 : a < i + 1 + j
          · simp [h4, show a < i + (j + 1) by omega]
          · simp [h4, show ¬ a < i + (j + 1) by omega]
        · simp [h2, show ¬ i + 1 ≤ a by omega]
noncomputable def setB (P : Nat → Prop) : Int32 := it (setS P) 7 0 0
theorem setB_bt {P : Nat → Prop} {a : Nat} (ha : a < 32) : bt (setB P) a = (decide (a < 7) && dcd (P a)) := by
  rw [setB, set_bt 7 0 0 a (by omega) ha, b_0]; simp
theorem setB_bit {P : Nat → Prop} {a : Nat} (ha : a < 7) : bitI (setB P) (nI a) ↔ P a := by
  rw [bitI_bt (by omega), setB_bt (by omega)]; simp [ha, dcd_iff]
theorem setB_ext {P Q : Nat → Prop} (h : ∀ a, a < 7 → (P a ↔ Q a)) : setB P = setB Q := by
  apply b_ext
  intro i hi
  rw [setB_bt hi, setB_bt hi]
  by_cases h7 : i < 7
  · rw [show P i = Q i from propext (h i h7)]
  · simp [h7]
theorem setB_of {x : Int32} {P : Nat → Prop} (h : ∀ a, a < 32 → bt x a = (decide (a < 7) && dcd (P a))) : x = setB P := by
  apply b_ext
  intro i hi
  rw [h i hi, setB_bt hi]
/-- how many of a row of truths -/
def cntN (f : Nat → Bool) : Nat → Nat
  | 0 => 0
  | n + 1 => cntN f n + (if f n = true then 1 else 0)
theorem cnt_ext {f g : Nat → Bool} : ∀ n, (∀ i, i < n → f i = g i) → cntN f n = cntN g n := by
  intro n
  induction n with
  | zero => intro _; rfl
  | succ n ih => intro h; rw [cntN, cntN, ih fun i hi => h i (by omega), h n (by omega)]
theorem cnt_le {f : Nat → Bool} : ∀ n, cntN f n ≤ n := by
  intro n
  induction n with
  | zero => exact Nat.le_refl _
  | succ n ih => rw [cntN]; split <;> omega
theorem cnt_upd {f g : Nat → Bool} {c : Nat} (hf : f c = false) (hg : ∀ i, i ≠ c → g i = f i) : ∀ n, cntN g n = cntN f n + (if c < n ∧ g c = true then 1 else 0) := by
  intro n
  induction n with
  | zero => simp [cntN]
  | succ n ih =>
    rw [cntN, cntN, ih]
    by_cases hn : n = c
    · subst hn
      rw [hf]
      by_cases h1 : g n = true
      · simp [h1]
      · simp [h1]
    · rw [hg n hn]
      by_cases h1 : g c = true
      · by_cases h2 : c < n
        · simp [h1, h2, show c < n + 1 by omega]; omega
        · simp [h1, h2, show ¬ c < n + 1 by omega]
      · simp [h1]
theorem bc_dec2 : ∀ a, a < 64 → ∀ b, b < 64 → bcI (nI (64 * a + b)) = nI (cntN (bt (nI (64 * a + b))) 12) := by decide +kernel
theorem bc_dec (x : Nat) (hx : x < 4096) : bcI (nI x) = nI (cntN (bt (nI x)) 12) := by
  have := bc_dec2 (x / 64) (by omega) (x % 64) (by omega)
  rw [show 64 * (x / 64) + x % 64 = x by omega] at this
  exact this
theorem small_nI {x : Int32} {n : Nat} (hn : n ≤ 31) (h : ∀ i, n ≤ i → i < 32 → bt x i = false) : ∃ t : Nat, t < 2 ^ n ∧ x = nI t := by
  refine ⟨x.toBitVec.toNat, ?_, ?_⟩
  · refine Nat.lt_pow_two_of_testBit _ fun i hi => ?_
    rcases Nat.lt_or_ge i 32 with h2 | h2
    · exact h i hi h2
    · exact BitVec.getLsbD_of_ge _ _ h2
  · apply Int32.toBitVec_inj.mp
    rw [nI, Int32.toBitVec_ofNat', BitVec.ofNat_toNat, BitVec.setWidth_eq]
theorem bc_eq {x : Int32} (h : ∀ i, 12 ≤ i → i < 32 → bt x i = false) : bcI x = nI (cntN (bt x) 12) := by
  obtain ⟨t, ht, e⟩ := small_nI (by omega) h
  rw [e]
  exact bc_dec t ht
