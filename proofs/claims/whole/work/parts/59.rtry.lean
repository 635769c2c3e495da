/-! ===== the reference: trials ===== -/
abbrev trl (i : Nat) : Prop := 882 ≤ i ∧ i < 966
theorem trl0 : ∀ i, 0 ≤ i → i < 0 + 23 → ¬ trl i := fun i _ h q => by have := q.1; omega
theorem trl_b : ∀ i, blk 882 i → trl i := fun i q => ⟨q.1, by have := q.2; omega⟩
theorem trl_c : ∀ i, blk 924 i → trl i := fun i q => ⟨by have := q.1; omega, by have := q.2; omega⟩
theorem RB_copy {s s2 : Nat → Int32} {p q : Nat} {F : FS} (h : ∀ a, a < 23 → s2 (q + a) = s (p + a)) (hB : RB s p F) : RB s2 q F := by
  refine ⟨fun e he => ⟨?_, ?_, ?_⟩, ?_, ?_⟩
  · have := h (2 + e) (by omega); rw [← Nat.add_assoc, ← Nat.add_assoc] at this; exact this.trans (hB.1 e he).1
  · have := h (9 + e) (by omega); rw [← Nat.add_assoc, ← Nat.add_assoc] at this; exact this.trans (hB.1 e he).2.1
  · have := h (16 + e) (by omega); rw [← Nat.add_assoc, ← Nat.add_assoc] at this; exact this.trans (hB.1 e he).2.2
  · exact (h 0 (by omega)).trans hB.2.1
  · exact (h 1 (by omega)).trans hB.2.2
theorem b2i_cg {p q : Prop} (h : p ↔ q) : b2i p = b2i q := by rw [propext h]
theorem it_moreP {α : Type} {f : Nat → α → α} {m : Nat} {s : α} (P : α → Prop) (hm : m ≤ 7) (hp : P (it f m 0 s)) (h : ∀ t s, P s → m ≤ t → t < 7 → f t s = s) : it f 7 0 s = it f m 0 s := by
  rw [show 7 = m + (7 - m) by omega, it_app, Nat.zero_add]
  generalize it f m 0 s = z at hp
  have : ∀ (j i : Nat), m ≤ i → i + j ≤ 7 → it f j i z = z := by
    intro j
    induction j with
    | zero => intro i _ _; rfl
    | succ j ih => intro i h1 h2; rw [it_step, h i z hp h1 (by omega)]; exact ih (i + 1) (by omega) (by omega)
  exact this (7 - m) m (by omega) (by omega)
theorem isE {e m : Nat} (he : e < m) (hm : m ≤ 7) : ¬ nI e < 0 ∧ nI e < nI m := ⟨nI_pos (by omega), nI_lt he (by omega)⟩
theorem lr_copies {d : Nat} {k : AHP} {p q c : Nat} (hS0 : Std k) (hd : p + c ≤ q ∨ q + c ≤ p) (hp : p + c ≤ 966) (hq2 : q + c ≤ 966) {Q : Option Value → AHP → Prop} : ∀ (j i : Nat) (S : AHP), i + j = c → Zf (fun i => q ≤ i ∧ i < q + c) k S → (∀ a, a < i → S.1 197 (q + a) = k.1 197 (p + a)) → (∀ S2, Zf (fun i => q ≤ i ∧ i < q + c) k S2 → (∀ a, a < c → S2.1 197 (q + a) = k.1 197 (p + a)) → Q none S2) → TT d 196 3 [some (.ref 183), some (.int (nI p)), some (.int (nI q)), some (.int (nI c)), some (.int (nI i))] [] S Q := by
  intro j
  induction j with
  | zero =>
    intro i S hi hz hc hq
    have hN : i = c := by omega
    have hS := hz.std hS0
    refine t_go (op := o_iload 5 4) (fe_X12_copies 3) (fun _ _ => rfl) ?_
    refine t_go (op := o_iload 6 3) (fe_X12_copies 5) (fun _ _ => rfl) ?_
    refine t_ite (op := o_icmp 9 33 (fun x y => y ≤ x) (fun _ _ => inferInstance)) (fe_X12_copies 6) g_icmp (fun c1 => ?_) (fun c1 => ?_)
    · refine t_ret (op := o_vret) (fe_X12_copies 33) (fun _ _ => rfl) ?_
      exact hq S hz (fun a ha => hc a (by omega))
    · exact absurd (by rw [hN]; exact Int32.le_refl _) c1
  | succ j ih =>
    intro i S hi hz hc hq
    have hi7 : i < c := by omega
    have hS := hz.std hS0
    refine t_go (op := o_iload 5 4) (fe_X12_copies 3) (fun _ _ => rfl) ?_
    refine t_go (op := o_iload 6 3) (fe_X12_copies 5) (fun _ _ => rfl) ?_
    refine t_ite (op := o_icmp 9 33 (fun x y => y ≤ x) (fun _ _ => inferInstance)) (fe_X12_copies 6) g_icmp (fun c1 => ?_) (fun c1 => ?_)
    · exact absurd c1 (nI_ge hi7 (by omega))
    · refine t_go (op := o_aload 10 0) (fe_X12_copies 9) (fun _ _ => rfl) ?_
      refine t_go (op := o_getR 13 11 22) (fe_X12_copies 10) (g_getR hS (show (lay 183).1 = 11 by decide) (by decide) (fr_11_22 hS) (by decide)) ?_
      refine t_go (op := o_iload 14 2) (fe_X12_copies 13) (fun _ _ => rfl) ?_
      refine t_go (op := o_iload 16 4) (fe_X12_copies 14) (fun _ _ => rfl) ?_
      refine t_go (op := o_i2 17 (fun x y => x + y)) (fe_X12_copies 16) (fun _ _ => rfl) ?_
      refine t_go (op := o_aload 18 0) (fe_X12_copies 17) (fun _ _ => rfl) ?_
      refine t_go (op := o_getR 21 11 22) (fe_X12_copies 18) (g_getR hS (show (lay 183).1 = 11 by decide) (by decide) (fr_11_22 hS) (by decide)) ?_
      refine t_go (op := o_iload 22 1) (fe_X12_copies 21) (fun _ _ => rfl) ?_
      refine t_go (op := o_iload 24 4) (fe_X12_copies 22) (fun _ _ => rfl) ?_
      refine t_go (op := o_i2 25 (fun x y => x + y)) (fe_X12_copies 24) (fun _ _ => rfl) ?_
      refine t_go (op := o_iald 26) (fe_X12_copies 25) (g_ialdN hS (show lay 197 = (20, 966) by decide) (nIa rfl rfl) (by omega) (by decide)) ?_
      refine t_go (op := o_iast 27) (fe_X12_copies 26) (g_iastN hS (show lay 197 = (20, 966) by decide) (nIa rfl rfl) (by omega) (by decide)) ?_
      refine t_go (op := o_iinc 30 4 1) (fe_X12_copies 27) (fun _ _ => rfl) ?_
      refine t_go (op := o_goto 3) (fe_X12_copies 30) (fun _ _ => rfl) ?_
      rw [show S.1 197 (p + i) = k.1 197 (p + i) from hz.2.2.2.2 _ (by omega)]
      rw [nI_1]
      refine ih (i + 1) _ (by omega) (Zf_st hz (by omega)) (fun a ha => ?_) hq
      by_cases hai : a = i
      · subst hai; exact sI_eq
      · rw [sI_nr (by omega)]; exact hc a (by omega)
theorem r_copies {d : Nat} {k : AHP} {p q c : Nat} (hS : Std k) (hd : p + c ≤ q ∨ q + c ≤ p) (hp : p + c ≤ 966) (hq2 : q + c ≤ 966) : MM d 196 [.ref 183, .int (nI p), .int (nI q), .int (nI c)] k (fun v h2 => v = none ∧ Zf (fun i => q ≤ i ∧ i < q + c) k h2 ∧ ∀ a, a < c → h2.1 197 (q + a) = k.1 197 (p + a)) := by
  refine ⟨Nat.le_of_ble_eq_true rfl, ?_⟩
  refine t_go (op := o_ci 1 0) (fe_X12_copies 0) (fun _ _ => rfl) ?_
  refine t_go (op := o_istore 3 4) (fe_X12_copies 1) (fun _ _ => rfl) ?_
  exact lr_copies hS hd hp hq2 c 0 k (by omega) Zf.rf (fun a ha => absurd ha (Nat.not_lt_zero a)) fun S2 hz hc => ⟨rfl, hz, hc⟩
theorem r_triesNow {d : Nat} {k : AHP} {F : FS} (hS : Std k) (hB : RB (k.1 197) 0 F) : MM (d + 1) 229 [.ref 183] k (fun v h2 => v = none ∧ Zf trl k h2 ∧ RB (h2.1 197) 882 F) := by
  refine ⟨Nat.le_of_ble_eq_true rfl, ?_⟩
  refine t_go (op := o_aload 1 0) (fe_X12_triesNow 0) (fun _ _ => rfl) ?_
  refine t_go (op := o_ci 2 0) (fe_X12_triesNow 1) (fun _ _ => rfl) ?_
  refine t_go (op := o_ci 5 882) (fe_X12_triesNow 2) (fun _ _ => rfl) ?_
  refine t_go (op := o_ci 7 23) (fe_X12_triesNow 5) (fun _ _ => rfl) ?_
  refine t_call (op := o_callV 10 196 4 11) (fe_X12_triesNow 7) (g_callV hS (show (lay 183).1 = 11 by decide) (by decide) rfl rfl rfl (Nat.le_of_ble_eq_true rfl)) ?_
  refine M_mono ?_ (r_copies (p := 0) (q := 882) (c := 23) hS (by decide) (by decide) (by decide))
  rintro _ h2 ⟨rfl, hz, hc⟩
  refine t_ret (op := o_vret) (fe_X12_triesNow 10) (fun _ _ => rfl) ?_
  exact ⟨rfl, hz.mono (fun i q => ⟨by omega, by omega⟩), RB_copy hc hB⟩
theorem lr_lastsFor {d : Nat} {k h : AHP} {m n g T : Nat} (hP : CP k h g n m) (hT : T < 98000) {y : Int32} {Q : Option Value → AHP → Prop} : ∀ (j i : Nat) (S : AHP) (G : FS), i + j = 41 → Zf trl k S → RB (S.1 197) 882 G → FW m (T + i) G → (∀ S2, Zf trl k S2 → Q (some (.int (lastsV h g n (-1) j i G))) S2) → TT (d + 5) 233 2 [some (.ref 183), some (.int y), some (.int (nI i))] [] S Q := by
  intro j
  induction j with
  | zero =>
    intro i S G hi hz hBt hWt hq
    have hN : i = 41 := by omega
    have hm := hP.1.2.2.1
    have hS := (hP.zf hz).1.1
    have hE := (hP.zf hz).1.2.1
    refine t_go (op := o_iload 3 2) (fe_X12_lastsFor 2) (fun _ _ => rfl) ?_
    refine t_go (op := o_ci 5 40) (fe_X12_lastsFor 3) (fun _ _ => rfl) ?_
    refine t_ite (op := o_icmp 8 34 (fun x y => y < x) (fun _ _ => inferInstance)) (fe_X12_lastsFor 5) g_icmp (fun c1 => ?_) (fun c1 => ?_)
    · refine t_go (op := o_ci 36 41) (fe_X12_lastsFor 34) (fun _ _ => rfl) ?_
      refine t_ret (op := o_iret) (fe_X12_lastsFor 36) (fun _ _ => rfl) ?_
      exact hq S hz
    · exact absurd (show (40 : Int32) < nI i by rw [hN]; decide) c1
  | succ j ih =>
    intro i S G hi hz hBt hWt hq
    have hi7 : i < 41 := by omega
    have hm := hP.1.2.2.1
    have hS := (hP.zf hz).1.1
    have hE := (hP.zf hz).1.2.1
    refine t_go (op := o_iload 3 2) (fe_X12_lastsFor 2) (fun _ _ => rfl) ?_
    refine t_go (op := o_ci 5 40) (fe_X12_lastsFor 3) (fun _ _ => rfl) ?_
    refine t_ite (op := o_icmp 8 34 (fun x y => y < x) (fun _ _ => inferInstance)) (fe_X12_lastsFor 5) g_icmp (fun c1 => ?_) (fun c1 => ?_)
    · exact absurd c1 (nI_nlt (a := 40) (b := i) (by omega) (by omega))
    · refine t_go (op := o_aload 9 0) (fe_X12_lastsFor 8) (fun _ _ => rfl) ?_
      refine t_go (op := o_ci 12 882) (fe_X12_lastsFor 9) (fun _ _ => rfl) ?_
      refine t_call (op := o_callV 15 205 2 11) (fe_X12_lastsFor 12) (g_callV hS (show (lay 183).1 = 11 by decide) (by decide) rfl rfl rfl (Nat.le_of_ble_eq_true rfl)) ?_
      refine M_eq (r_alightNow (b := 882) hS hWt.1 hBt (by decide) hm hE (hP.zf hz).1.2.2.2.1 (hP.zf hz).1.2.2.2.2.1) ?_
      refine t_ite (op := o_if 20 18 (fun x => x = 0) (fun _ => inferInstance)) (fe_X12_lastsFor 15) g_if (fun c2 => ?_) (fun c2 => ?_)
      · refine t_go (op := o_iload 19 2) (fe_X12_lastsFor 18) (fun _ _ => rfl) ?_
        refine t_ret (op := o_iret) (fe_X12_lastsFor 19) (fun _ _ => rfl) ?_
        rw [show lastsV h g n (-1) (j + 1) i G = _ from if_pos c2] at hq
        exact hq S hz
      · refine t_go (op := o_aload 21 0) (fe_X12_lastsFor 20) (fun _ _ => rfl) ?_
        refine t_go (op := o_ci 24 882) (fe_X12_lastsFor 21) (fun _ _ => rfl) ?_
        refine t_call (op := o_callV 27 215 2 11) (fe_X12_lastsFor 24) (g_callV hS (show (lay 183).1 = 11 by decide) (by decide) rfl rfl rfl (Nat.le_of_ble_eq_true rfl)) ?_
        refine M_mono ?_ (r_hour (b := 882) (hP.zf hz) hWt hBt (by decide) (by omega))
        rintro _ h2 ⟨rfl, hz2, hB2⟩
        replace hz := hz.tr (hz2.mono trl_b)
        clear hz2
        have hS := (hP.zf hz).1.1
        have hE := (hP.zf hz).1.2.1
        refine t_go (op := o_popI 28) (fe_X12_lastsFor 27) (fun _ _ => rfl) ?_
        refine t_go (op := o_iinc 31 2 1) (fe_X12_lastsFor 28) (fun _ _ => rfl) ?_
        refine t_go (op := o_goto 2) (fe_X12_lastsFor 31) (fun _ _ => rfl) ?_
        rw [show lastsV h g n (-1) (j + 1) i G = _ from (if_neg c2).trans (by rw [if_neg (nI_m1 (by omega))])] at hq
        rw [nI_1]
        exact ih (i + 1) _ (HF h g n G) (by omega) hz hB2 (FW_HF hm hWt) hq
theorem r_lastsFor {d : Nat} {k h : AHP} {m n g T i j : Nat} {G : FS} (hP : CP k h g n m) (hij : i + j = 41) (hT : T < 98000) (hB : RB (k.1 197) 882 G) (hW : FW m T G) : MM (d + 5) 233 [.ref 183, .int (nI i)] k (fun v h2 => v = some (.int (lastsV h g n (-1) j i G)) ∧ Zf trl k h2) := by
  refine ⟨Nat.le_of_ble_eq_true rfl, ?_⟩
  refine t_go (op := o_iload 1 1) (fe_X12_lastsFor 0) (fun _ _ => rfl) ?_
  refine t_go (op := o_istore 2 2) (fe_X12_lastsFor 1) (fun _ _ => rfl) ?_
  exact lr_lastsFor hP hT j i k G hij Zf.rf hB (FW_le hW (by omega)) fun S2 hz => ⟨rfl, hz⟩
def lastS (r : Nat → Int32) (e t : Nat) (s : Int32) : Int32 := if bitI (r t) (nI e) then nI t else s
noncomputable abbrev litT (h : AHP) (g n : Nat) (F : FS) : Nat → Int32 := fun t => litH h g n (HN h g n t F)
theorem litT_bit {h : AHP} {g n e t : Nat} {F : FS} (he : e < 7) : bitI (litT h g n F t) (nI e) ↔ glP (HN h g n t F) (h.1 (g + 2)) (h.1 g 5) e := litB_bit he
theorem last_at {r : Nat → Int32} {e : Nat} : ∀ i, (it (lastS r e) i 0 (-1) = -1 ∧ outR r (nI e) i = -1) ∨ ∃ t, t < i ∧ it (lastS r e) i 0 (-1) = nI t ∧ outR r (nI e) i = nI t + 1 := by
  intro i
  induction i with
  | zero => exact Or.inl ⟨rfl, rfl⟩
  | succ i ih =>
    rw [it_snoc, lastS, outR]
    by_cases h : bitI (r i) (nI e)
    · rw [if_pos h, if_pos h]; exact Or.inr ⟨i, by omega, rfl, rfl⟩
    · rw [if_neg h, if_neg h]
      rcases ih with h1 | ⟨t, h1, h2⟩
      · exact Or.inl h1
      · exact Or.inr ⟨t, by omega, h2⟩
def outE (s : Int32) : Int32 := if s < 0 then -1 else if s = 40 then -1 else s + 1
theorem out_eq {r : Nat → Int32} {e : Nat} : outE (it (lastS r e) 41 0 (-1)) = outV r (nI e) := by
  unfold outE outV
  rw [it_snoc]
  by_cases h : bitI (r 40) (nI e)
  · rw [if_pos h, lastS, if_pos h]; rfl
  · rw [if_neg h, lastS, if_neg h]
    rcases last_at (r := r) (e := e) 40 with ⟨h1, h2⟩ | ⟨t, h1, h2, h3⟩
    · rw [h1, h2]; rfl
    · rw [h2, h3, if_neg (nI_pos (by omega)), if_neg (fun q => by have := nI_inj (a := t) (b := 40) (by omega) (by omega) q; omega)]
theorem lr_outOf {d : Nat} {k h : AHP} {m n g T : Nat} {F : FS} (hP : CP k h g n m) (hW : FW m T F) (hB0 : RB (k.1 197) 0 F) (hT : T < 90000) {e : Nat} (he : e < m) {Q : Option Value → AHP → Prop} : ∀ (j i : Nat) (S : AHP) (s : Int32), i + j = 41 → Zf trl k S → RB (S.1 197) 882 (HN h g n i F) → (∀ S2, Zf trl k S2 → Q (some (.int (outE (it (lastS (litT h g n F) e) j i s)))) S2) → TT (d + 5) 230 8 [some (.ref 183), some (.int (nI e)), some (.int s), some (.int (nI i))] [] S Q := by
  intro j
  induction j with
  | zero =>
    intro i S s hi hz hBt hq
    have hN : i = 41 := by omega
    have hm := hP.1.2.2.1
    have hS := (hP.zf hz).1.1
    have hE := (hP.zf hz).1.2.1
    have hWt := FW_HN (h := h) (g := g) (n := n) hm hW i
    refine t_go (op := o_iload 9 3) (fe_X12_outOf 8) (fun _ _ => rfl) ?_
    refine t_go (op := o_ci 11 40) (fe_X12_outOf 9) (fun _ _ => rfl) ?_
    refine t_ite (op := o_icmp 14 45 (fun x y => y < x) (fun _ _ => inferInstance)) (fe_X12_outOf 11) g_icmp (fun c1 => ?_) (fun c1 => ?_)
    · refine t_go (op := o_iload 46 2) (fe_X12_outOf 45) (fun _ _ => rfl) ?_
      refine t_ite (op := o_if 49 55 (fun x => x < 0) (fun _ => inferInstance)) (fe_X12_outOf 46) g_if (fun c2 => ?_) (fun c2 => ?_)
      · refine t_go (op := o_ci 56 (-1)) (fe_X12_outOf 55) (fun _ _ => rfl) ?_
        refine t_go (op := o_goto 62) (fe_X12_outOf 56) (fun _ _ => rfl) ?_
        refine t_ret (op := o_iret) (fe_X12_outOf 62) (fun _ _ => rfl) ?_
        rw [it, outE, if_pos c2] at hq
        exact hq S hz
      · refine t_go (op := o_iload 50 2) (fe_X12_outOf 49) (fun _ _ => rfl) ?_
        refine t_go (op := o_ci 52 40) (fe_X12_outOf 50) (fun _ _ => rfl) ?_
        refine t_ite (op := o_icmp 59 55 (fun x y => x = y) (fun _ _ => inferInstance)) (fe_X12_outOf 52) g_icmp (fun c3 => ?_) (fun c3 => ?_)
        · refine t_go (op := o_ci 56 (-1)) (fe_X12_outOf 55) (fun _ _ => rfl) ?_
          refine t_go (op := o_goto 62) (fe_X12_outOf 56) (fun _ _ => rfl) ?_
          refine t_ret (op := o_iret) (fe_X12_outOf 62) (fun _ _ => rfl) ?_
          rw [it, outE, if_neg c2, if_pos c3] at hq
          exact hq S hz
        · refine t_go (op := o_iload 60 2) (fe_X12_outOf 59) (fun _ _ => rfl) ?_
          refine t_go (op := o_ci 61 1) (fe_X12_outOf 60) (fun _ _ => rfl) ?_
          refine t_go (op := o_i2 62 (fun x y => x + y)) (fe_X12_outOf 61) (fun _ _ => rfl) ?_
          refine t_ret (op := o_iret) (fe_X12_outOf 62) (fun _ _ => rfl) ?_
          rw [it, outE, if_neg c2, if_neg c3] at hq
          exact hq S hz
    · exact absurd (show (40 : Int32) < nI i by rw [hN]; decide) c1
  | succ j ih =>
    intro i S s hi hz hBt hq
    have hi7 : i < 41 := by omega
    have hm := hP.1.2.2.1
    have hS := (hP.zf hz).1.1
    have hE := (hP.zf hz).1.2.1
    have hWt := FW_HN (h := h) (g := g) (n := n) hm hW i
    refine t_go (op := o_iload 9 3) (fe_X12_outOf 8) (fun _ _ => rfl) ?_
    refine t_go (op := o_ci 11 40) (fe_X12_outOf 9) (fun _ _ => rfl) ?_
    refine t_ite (op := o_icmp 14 45 (fun x y => y < x) (fun _ _ => inferInstance)) (fe_X12_outOf 11) g_icmp (fun c1 => ?_) (fun c1 => ?_)
    · exact absurd c1 (nI_nlt (a := 40) (b := i) (by omega) (by omega))
    · refine t_go (op := o_aload 15 0) (fe_X12_outOf 14) (fun _ _ => rfl) ?_
      refine t_go (op := o_ci 18 882) (fe_X12_outOf 15) (fun _ _ => rfl) ?_
      refine t_go (op := o_iload 19 1) (fe_X12_outOf 18) (fun _ _ => rfl) ?_
      refine t_call (op := o_callV 22 204 3 11) (fe_X12_outOf 19) (g_callV hS (show (lay 183).1 = 11 by decide) (by decide) rfl rfl rfl (Nat.le_of_ble_eq_true rfl)) ?_
      refine M_eq (r_isAlight (b := 882) hS hWt.1 hBt (by decide) (e := e) (by omega) hm ((hP.zf hz).1.2.2.2.1 _ (by omega)) (hP.zf hz).1.2.2.2.2.1) ?_
      refine t_ite (op := o_if 25 29 (fun x => x = 0) (fun _ => inferInstance)) (fe_X12_outOf 22) g_if (fun c2 => ?_) (fun c2 => ?_)
      · replace c2 := b2i_z c2
        refine t_go (op := o_iload 30 2) (fe_X12_outOf 29) (fun _ _ => rfl) ?_
        refine t_go (op := o_istore 31 2) (fe_X12_outOf 30) (fun _ _ => rfl) ?_
        refine t_go (op := o_aload 32 0) (fe_X12_outOf 31) (fun _ _ => rfl) ?_
        refine t_go (op := o_ci 35 882) (fe_X12_outOf 32) (fun _ _ => rfl) ?_
        refine t_call (op := o_callV 38 215 2 11) (fe_X12_outOf 35) (g_callV hS (show (lay 183).1 = 11 by decide) (by decide) rfl rfl rfl (Nat.le_of_ble_eq_true rfl)) ?_
        refine M_mono ?_ (r_hour (b := 882) (hP.zf hz) hWt hBt (by decide) (by omega))
        rintro _ h2 ⟨rfl, hz2, hB2⟩
        replace hz := hz.tr (hz2.mono trl_b)
        clear hz2
        have hS := (hP.zf hz).1.1
        have hE := (hP.zf hz).1.2.1
        refine t_go (op := o_popI 39) (fe_X12_outOf 38) (fun _ _ => rfl) ?_
        refine t_go (op := o_iinc 42 3 1) (fe_X12_outOf 39) (fun _ _ => rfl) ?_
        refine t_go (op := o_goto 8) (fe_X12_outOf 42) (fun _ _ => rfl) ?_
        rw [it_step, lastS, if_neg (fun q => c2 ((litT_bit (h := h) (g := g) (n := n) (F := F) (t := i) (by omega)).mp q))] at hq
        rw [nI_1]
        rw [← HN_succ] at hB2
        exact ih (i + 1) _ _ (by omega) hz hB2 hq
      · replace c2 := b2i_nn c2
        refine t_go (op := o_iload 26 3) (fe_X12_outOf 25) (fun _ _ => rfl) ?_
        refine t_go (op := o_goto 30) (fe_X12_outOf 26) (fun _ _ => rfl) ?_
        refine t_go (op := o_istore 31 2) (fe_X12_outOf 30) (fun _ _ => rfl) ?_
        refine t_go (op := o_aload 32 0) (fe_X12_outOf 31) (fun _ _ => rfl) ?_
        refine t_go (op := o_ci 35 882) (fe_X12_outOf 32) (fun _ _ => rfl) ?_
        refine t_call (op := o_callV 38 215 2 11) (fe_X12_outOf 35) (g_callV hS (show (lay 183).1 = 11 by decide) (by decide) rfl rfl rfl (Nat.le_of_ble_eq_true rfl)) ?_
        refine M_mono ?_ (r_hour (b := 882) (hP.zf hz) hWt hBt (by decide) (by omega))
        rintro _ h2 ⟨rfl, hz2, hB2⟩
        replace hz := hz.tr (hz2.mono trl_b)
        clear hz2
        have hS := (hP.zf hz).1.1
        have hE := (hP.zf hz).1.2.1
        refine t_go (op := o_popI 39) (fe_X12_outOf 38) (fun _ _ => rfl) ?_
        refine t_go (op := o_iinc 42 3 1) (fe_X12_outOf 39) (fun _ _ => rfl) ?_
        refine t_go (op := o_goto 8) (fe_X12_outOf 42) (fun _ _ => rfl) ?_
        rw [it_step, lastS, if_pos ((litT_bit (h := h) (g := g) (n := n) (F := F) (t := i) (by omega)).mpr c2)] at hq
        rw [nI_1]
        rw [← HN_succ] at hB2
        exact ih (i + 1) _ _ (by omega) hz hB2 hq
theorem r_outOf {d : Nat} {k h : AHP} {m n g T : Nat} {F : FS} (hP : CP k h g n m) (hW : FW m T F) (hB0 : RB (k.1 197) 0 F) (hT : T < 90000) {e : Nat} (he : e < m) : MM (d + 5) 230 [.ref 183, .int (nI e)] k (fun v h2 => v = some (.int (outV (litT h g n F) (nI e))) ∧ Zf trl k h2) := by
  refine ⟨Nat.le_of_ble_eq_true rfl, ?_⟩
  have hm := hP.1.2.2.1
  have hS := hP.1.1
  have hE := hP.1.2.1
  have hz : Zf trl k k := Zf.rf
  refine t_go (op := o_aload 1 0) (fe_X12_outOf 0) (fun _ _ => rfl) ?_
  refine t_call (op := o_callV 4 229 1 11) (fe_X12_outOf 1) (g_callV hS (show (lay 183).1 = 11 by decide) (by decide) rfl rfl rfl (Nat.le_of_ble_eq_true rfl)) ?_
  refine M_mono ?_ (r_triesNow (hP.zf hz).1.1 (hB0.zf hz trl0))
  rintro _ h2 ⟨rfl, hz2, hBt⟩
  replace hz := hz.tr hz2
  clear hz2
  have hS := (hP.zf hz).1.1
  have hE := (hP.zf hz).1.2.1
  refine t_go (op := o_ci 5 (-1)) (fe_X12_outOf 4) (fun _ _ => rfl) ?_
  refine t_go (op := o_istore 6 2) (fe_X12_outOf 5) (fun _ _ => rfl) ?_
  refine t_go (op := o_ci 7 0) (fe_X12_outOf 6) (fun _ _ => rfl) ?_
  refine t_go (op := o_istore 8 3) (fe_X12_outOf 7) (fun _ _ => rfl) ?_
  exact (lr_outOf hP hW hB0 hT he 41 0 _ (-1) (by omega) hz hBt fun S2 hz => ⟨by rw [out_eq], hz⟩)
theorem r_within {d : Nat} {k : AHP} {x a b : Int32} : MM d 173 [.int x, .int a, .int b] k (fun v h2 => v = some (.int (b2i (¬ x < a ∧ ¬ b < x))) ∧ h2 = k) := by
  refine ⟨Nat.le_of_ble_eq_true rfl, ?_⟩
  refine t_go (op := o_iload 1 0) (fe_X12_within 0) (fun _ _ => rfl) ?_
  refine t_go (op := o_iload 2 1) (fe_X12_within 1) (fun _ _ => rfl) ?_
  refine t_ite (op := o_icmp 5 14 (fun x y => x < y) (fun _ _ => inferInstance)) (fe_X12_within 2) g_icmp (fun c1 => ?_) (fun c1 => ?_)
  · refine t_go (op := o_ci 15 0) (fe_X12_within 14) (fun _ _ => rfl) ?_
    refine t_ret (op := o_zret) (fe_X12_within 15) (g_zret (Or.inl rfl)) ?_
    exact ⟨by rw [b2i_f fun q => q.1 c1], rfl⟩
  · refine t_go (op := o_iload 6 0) (fe_X12_within 5) (fun _ _ => rfl) ?_
    refine t_go (op := o_iload 7 2) (fe_X12_within 6) (fun _ _ => rfl) ?_
    refine t_ite (op := o_icmp 10 14 (fun x y => y < x) (fun _ _ => inferInstance)) (fe_X12_within 7) g_icmp (fun c2 => ?_) (fun c2 => ?_)
    · refine t_go (op := o_ci 15 0) (fe_X12_within 14) (fun _ _ => rfl) ?_
      refine t_ret (op := o_zret) (fe_X12_within 15) (g_zret (Or.inl rfl)) ?_
      exact ⟨by rw [b2i_f fun q => q.2 c2], rfl⟩
    · refine t_go (op := o_ci 11 1) (fe_X12_within 10) (fun _ _ => rfl) ?_
      refine t_go (op := o_goto 15) (fe_X12_within 11) (fun _ _ => rfl) ?_
      refine t_ret (op := o_zret) (fe_X12_within 15) (g_zret (Or.inr rfl)) ?_
      exact ⟨by rw [b2i_t ⟨c1, c2⟩], rfl⟩
theorem r_outF {d : Nat} {k h : AHP} {m n g T : Nat} {F : FS} (hP : CP k h g n m) (hW : FW m T F) (hB0 : RB (k.1 197) 0 F) (hT : T < 90000) {x : Int32} (hn : ¬ (¬ x < 0 ∧ x < nI m)) : MM (d + 6) 231 [.ref 183, .int x] k (fun v h2 => v = some (.int (-1)) ∧ Zf trl k h2) := by
  refine ⟨Nat.le_of_ble_eq_true rfl, ?_⟩
  have hm := hP.1.2.2.1
  have hS := hP.1.1
  have hE := hP.1.2.1
  refine t_go (op := o_aload 1 0) (fe_X12_out 0) (fun _ _ => rfl) ?_
  refine t_go (op := o_ci 2 0) (fe_X12_out 1) (fun _ _ => rfl) ?_
  refine t_go (op := o_putI 5 11 0) (fe_X12_out 2) (g_putI hS (show (lay 183).1 = 11 by decide) (by decide)) ?_
  have hz : Zf trl k (sI k 183 0 0) := Zf_thr Zf.rf
  have hS := (hP.zf hz).1.1
  have hE := (hP.zf hz).1.2.1
  refine t_go (op := o_aload 6 0) (fe_X12_out 5) (fun _ _ => rfl) ?_
  refine t_go (op := o_iload 7 1) (fe_X12_out 6) (fun _ _ => rfl) ?_
  refine t_call (op := o_callV 10 202 2 11) (fe_X12_out 7) (g_callV hS (show (lay 183).1 = 11 by decide) (by decide) rfl rfl rfl (Nat.le_of_ble_eq_true rfl)) ?_
  refine M_eq (r_isEmber hS hE) ?_
  refine t_ite (op := o_if 13 21 (fun x => x = 0) (fun _ => inferInstance)) (fe_X12_out 10) g_if (fun c1 => ?_) (fun c1 => ?_)
  · replace c1 := b2i_z c1
    refine t_go (op := o_ci 22 (-1)) (fe_X12_out 21) (fun _ _ => rfl) ?_
    refine t_ret (op := o_iret) (fe_X12_out 22) (fun _ _ => rfl) ?_
    exact ⟨rfl, hz⟩
  · exact absurd (b2i_nn c1) hn
theorem r_out {d : Nat} {k h : AHP} {m n g T : Nat} {F : FS} (hP : CP k h g n m) (hW : FW m T F) (hB0 : RB (k.1 197) 0 F) (hT : T < 90000) {e : Nat} (he : e < m) : MM (d + 6) 231 [.ref 183, .int (nI e)] k (fun v h2 => v = some (.int (outV (litT h g n F) (nI e))) ∧ Zf trl k h2) := by
  refine ⟨Nat.le_of_ble_eq_true rfl, ?_⟩
  have hm := hP.1.2.2.1
  have hS := hP.1.1
  have hE := hP.1.2.1
  refine t_go (op := o_aload 1 0) (fe_X12_out 0) (fun _ _ => rfl) ?_
  refine t_go (op := o_ci 2 0) (fe_X12_out 1) (fun _ _ => rfl) ?_
  refine t_go (op := o_putI 5 11 0) (fe_X12_out 2) (g_putI hS (show (lay 183).1 = 11 by decide) (by decide)) ?_
  have hz : Zf trl k (sI k 183 0 0) := Zf_thr Zf.rf
  have hS := (hP.zf hz).1.1
  have hE := (hP.zf hz).1.2.1
  refine t_go (op := o_aload 6 0) (fe_X12_out 5) (fun _ _ => rfl) ?_
  refine t_go (op := o_iload 7 1) (fe_X12_out 6) (fun _ _ => rfl) ?_
  refine t_call (op := o_callV 10 202 2 11) (fe_X12_out 7) (g_callV hS (show (lay 183).1 = 11 by decide) (by decide) rfl rfl rfl (Nat.le_of_ble_eq_true rfl)) ?_
  refine M_eq (r_isEmber hS hE) ?_
  refine t_ite (op := o_if 13 21 (fun x => x = 0) (fun _ => inferInstance)) (fe_X12_out 10) g_if (fun c1 => ?_) (fun c1 => ?_)
  · exact absurd (isE he hm) (b2i_z c1)
  · replace c1 := b2i_nn c1
    refine t_go (op := o_aload 14 0) (fe_X12_out 13) (fun _ _ => rfl) ?_
    refine t_go (op := o_iload 15 1) (fe_X12_out 14) (fun _ _ => rfl) ?_
    refine t_call (op := o_callV 18 230 2 11) (fe_X12_out 15) (g_callV hS (show (lay 183).1 = 11 by decide) (by decide) rfl rfl rfl (Nat.le_of_ble_eq_true rfl)) ?_
    refine M_mono ?_ (r_outOf (hP.zf hz) hW (hB0.zf hz trl0) hT (e := e) (by omega))
    rintro _ h2 ⟨rfl, hz2⟩
    replace hz := hz.tr hz2
    clear hz2
    have hS := (hP.zf hz).1.1
    have hE := (hP.zf hz).1.2.1
    refine t_go (op := o_goto 22) (fe_X12_out 18) (fun _ _ => rfl) ?_
    refine t_ret (op := o_iret) (fe_X12_out 22) (fun _ _ => rfl) ?_
    exact ⟨rfl, hz⟩
theorem bestS_f {v : Nat → Int32} {e : Nat} {a b : Int32} (h : ¬ v e ≤ b) : bestS v e (a, b) = (nI e, v e) := if_neg h
theorem bestS_t {v : Nat → Int32} {e : Nat} {a b : Int32} (h : v e ≤ b) : bestS v e (a, b) = (a, b) := if_pos h
theorem lr_last {d : Nat} {k h : AHP} {m n g T : Nat} {F : FS} (hP : CP k h g n m) (hW : FW m T F) (hB0 : RB (k.1 197) 0 F) (hT : T < 90000) {Q : Option Value → AHP → Prop} : ∀ (j i : Nat) (S : AHP) (a c : Int32) (x4 : Option Value), i + j = m → Zf trl k S → (∀ S2, Zf trl k S2 → Q (some (.int (it (bestS (fun e => outV (litT h g n F) (nI e))) j i (a, c)).1)) S2) → TT (d + 6) 232 11 [some (.ref 183), some (.int a), some (.int c), some (.int (nI i)), x4] [] S Q := by
  intro j
  induction j with
  | zero =>
    intro i S a c x4 hi hz hq
    have hN : i = m := by omega
    have hm := hP.1.2.2.1
    have hS := (hP.zf hz).1.1
    have hE := (hP.zf hz).1.2.1
    refine t_go (op := o_iload 12 3) (fe_X12_last 11) (fun _ _ => rfl) ?_
    refine t_go (op := o_aload 13 0) (fe_X12_last 12) (fun _ _ => rfl) ?_
    refine t_call (op := o_callV 16 200 1 11) (fe_X12_last 13) (g_callV hS (show (lay 183).1 = 11 by decide) (by decide) rfl rfl rfl (Nat.le_of_ble_eq_true rfl)) ?_
    refine M_eq (r_embers hS hE) ?_
    refine t_ite (op := o_icmp 19 57 (fun x y => y ≤ x) (fun _ _ => inferInstance)) (fe_X12_last 16) g_icmp (fun c1 => ?_) (fun c1 => ?_)
    · refine t_go (op := o_iload 58 1) (fe_X12_last 57) (fun _ _ => rfl) ?_
      refine t_ret (op := o_iret) (fe_X12_last 58) (fun _ _ => rfl) ?_
      exact hq S hz
    · exact absurd (by rw [hN]; exact Int32.le_refl _) c1
  | succ j ih =>
    intro i S a c x4 hi hz hq
    have hi7 : i < m := by omega
    have hm := hP.1.2.2.1
    have hS := (hP.zf hz).1.1
    have hE := (hP.zf hz).1.2.1
    refine t_go (op := o_iload 12 3) (fe_X12_last 11) (fun _ _ => rfl) ?_
    refine t_go (op := o_aload 13 0) (fe_X12_last 12) (fun _ _ => rfl) ?_
    refine t_call (op := o_callV 16 200 1 11) (fe_X12_last 13) (g_callV hS (show (lay 183).1 = 11 by decide) (by decide) rfl rfl rfl (Nat.le_of_ble_eq_true rfl)) ?_
    refine M_eq (r_embers hS hE) ?_
    refine t_ite (op := o_icmp 19 57 (fun x y => y ≤ x) (fun _ _ => inferInstance)) (fe_X12_last 16) g_icmp (fun c1 => ?_) (fun c1 => ?_)
    · exact absurd c1 (nI_ge hi7 (by omega))
    · refine t_go (op := o_aload 20 0) (fe_X12_last 19) (fun _ _ => rfl) ?_
      refine t_go (op := o_iload 21 3) (fe_X12_last 20) (fun _ _ => rfl) ?_
      refine t_call (op := o_callV 24 230 2 11) (fe_X12_last 21) (g_callV hS (show (lay 183).1 = 11 by decide) (by decide) rfl rfl rfl (Nat.le_of_ble_eq_true rfl)) ?_
      refine M_mono ?_ (r_outOf (hP.zf hz) hW (hB0.zf hz trl0) hT (e := i) (by omega))
      rintro _ h2 ⟨rfl, hz2⟩
      replace hz := hz.tr hz2
      clear hz2
      have hS := (hP.zf hz).1.1
      have hE := (hP.zf hz).1.2.1
      refine t_go (op := o_istore 26 4) (fe_X12_last 24) (fun _ _ => rfl) ?_
      refine t_go (op := o_iload 28 4) (fe_X12_last 26) (fun _ _ => rfl) ?_
      refine t_go (op := o_iload 29 2) (fe_X12_last 28) (fun _ _ => rfl) ?_
      refine t_ite (op := o_icmp 32 36 (fun x y => x ≤ y) (fun _ _ => inferInstance)) (fe_X12_last 29) g_icmp (fun c2 => ?_) (fun c2 => ?_)
      · refine t_go (op := o_iload 37 1) (fe_X12_last 36) (fun _ _ => rfl) ?_
        refine t_go (op := o_istore 38 1) (fe_X12_last 37) (fun _ _ => rfl) ?_
        refine t_go (op := o_iload 40 4) (fe_X12_last 38) (fun _ _ => rfl) ?_
        refine t_go (op := o_iload 41 2) (fe_X12_last 40) (fun _ _ => rfl) ?_
        refine t_ite (op := o_icmp 44 49 (fun x y => x ≤ y) (fun _ _ => inferInstance)) (fe_X12_last 41) g_icmp (fun c3 => ?_) (fun c3 => ?_)
        · refine t_go (op := o_iload 50 2) (fe_X12_last 49) (fun _ _ => rfl) ?_
          refine t_go (op := o_istore 51 2) (fe_X12_last 50) (fun _ _ => rfl) ?_
          refine t_go (op := o_iinc 54 3 1) (fe_X12_last 51) (fun _ _ => rfl) ?_
          refine t_go (op := o_goto 11) (fe_X12_last 54) (fun _ _ => rfl) ?_
          rw [it_step, bestS_t (v := fun e => outV (litT h g n F) (nI e)) (e := i) (a := a) (b := c) c3] at hq
          rw [nI_1]
          exact ih (i + 1) _ _ _ _ (by omega) hz hq
        · exact absurd c2 c3
      · refine t_go (op := o_iload 33 3) (fe_X12_last 32) (fun _ _ => rfl) ?_
        refine t_go (op := o_goto 37) (fe_X12_last 33) (fun _ _ => rfl) ?_
        refine t_go (op := o_istore 38 1) (fe_X12_last 37) (fun _ _ => rfl) ?_
        refine t_go (op := o_iload 40 4) (fe_X12_last 38) (fun _ _ => rfl) ?_
        refine t_go (op := o_iload 41 2) (fe_X12_last 40) (fun _ _ => rfl) ?_
        refine t_ite (op := o_icmp 44 49 (fun x y => x ≤ y) (fun _ _ => inferInstance)) (fe_X12_last 41) g_icmp (fun c4 => ?_) (fun c4 => ?_)
        · exact absurd c4 c2
        · refine t_go (op := o_iload 46 4) (fe_X12_last 44) (fun _ _ => rfl) ?_
          refine t_go (op := o_goto 50) (fe_X12_last 46) (fun _ _ => rfl) ?_
          refine t_go (op := o_istore 51 2) (fe_X12_last 50) (fun _ _ => rfl) ?_
          refine t_go (op := o_iinc 54 3 1) (fe_X12_last 51) (fun _ _ => rfl) ?_
          refine t_go (op := o_goto 11) (fe_X12_last 54) (fun _ _ => rfl) ?_
          rw [it_step, bestS_f (v := fun e => outV (litT h g n F) (nI e)) (e := i) (a := a) (b := c) c4] at hq
          rw [nI_1]
          exact ih (i + 1) _ _ _ _ (by omega) hz hq
theorem outV_m1 {m e : Nat} {h : AHP} {g n : Nat} {F : FS} {T : Nat} (hm : m ≤ 7) (hW : FW m T F) (he : e < 7) (h2 : m ≤ e) : outV (litT h g n F) (nI e) = -1 := by
  have hn : ∀ t, ¬ bitI (litT h g n F t) (nI e) := fun t q => FV_no (FW_HN (h := h) (g := g) (n := n) hm hW t).1 he h2 (lit_in he q)
  unfold outV
  rw [if_neg (hn 40)]
  have : ∀ j, outR (litT h g n F) (nI e) j = -1 := by
    intro j
    induction j with
    | zero => rfl
    | succ j ih => rw [outR, if_neg (hn j)]; exact ih
  exact this 40
theorem best_m {v : Nat → Int32} {m : Nat} (hm : m ≤ 7) (h : ∀ e, m ≤ e → e < 7 → v e = -1) : it (bestS v) 7 0 (-1, -1) = it (bestS v) m 0 (-1, -1) := by
  refine it_moreP (fun s : Int32 × Int32 => -1 ≤ s.2) hm (it_inv (P := fun s : Int32 × Int32 => (-1 : Int32) ≤ s.2) (fun i s hs => ?_) m 0 _ (by decide)) (fun t s hs h1 h2 => ?_)
  · unfold bestS
    by_cases hc : v i ≤ s.2
    · rw [if_pos hc]; exact hs
    · rw [if_neg hc]; exact Int32.le_trans hs (Int32.le_of_lt (Int32.not_le.mp hc))
  · unfold bestS
    rw [if_pos (by rw [h t h1 h2]; exact hs)]
theorem r_last {d : Nat} {k h : AHP} {m n g T : Nat} {F : FS} (hP : CP k h g n m) (hW : FW m T F) (hB0 : RB (k.1 197) 0 F) (hT : T < 90000)  : MM (d + 6) 232 [.ref 183] k (fun v h2 => v = some (.int (it (bestS (fun e => outV (litT h g n F) (nI e))) 7 0 (-1, -1)).1) ∧ Zf trl k h2) := by
  refine ⟨Nat.le_of_ble_eq_true rfl, ?_⟩
  have hm := hP.1.2.2.1
  have hS := hP.1.1
  have hE := hP.1.2.1
  refine t_go (op := o_aload 1 0) (fe_X12_last 0) (fun _ _ => rfl) ?_
  refine t_go (op := o_ci 2 0) (fe_X12_last 1) (fun _ _ => rfl) ?_
  refine t_go (op := o_putI 5 11 0) (fe_X12_last 2) (g_putI hS (show (lay 183).1 = 11 by decide) (by decide)) ?_
  have hz : Zf trl k (sI k 183 0 0) := Zf_thr Zf.rf
  have hS := (hP.zf hz).1.1
  have hE := (hP.zf hz).1.2.1
  refine t_go (op := o_ci 6 (-1)) (fe_X12_last 5) (fun _ _ => rfl) ?_
  refine t_go (op := o_istore 7 1) (fe_X12_last 6) (fun _ _ => rfl) ?_
  refine t_go (op := o_ci 8 (-1)) (fe_X12_last 7) (fun _ _ => rfl) ?_
  refine t_go (op := o_istore 9 2) (fe_X12_last 8) (fun _ _ => rfl) ?_
  refine t_go (op := o_ci 10 0) (fe_X12_last 9) (fun _ _ => rfl) ?_
  refine t_go (op := o_istore 11 3) (fe_X12_last 10) (fun _ _ => rfl) ?_
  exact (lr_last hP hW hB0 hT m 0 _ (-1) (-1) _ (by omega) hz fun S2 hz => ⟨by rw [best_m hm fun e h1 h2 => outV_m1 hm hW h2 h1], hz⟩)
theorem lastsV_n {h : AHP} {g n : Nat} {b : Int32} : ∀ (j i : Nat) (F : FS), i + j = 41 → ∃ t : Nat, t ≤ 41 ∧ lastsV h g n b j i F = nI t := by
  intro j
  induction j with
  | zero => intro i F _; exact ⟨41, by omega, rfl⟩
  | succ j ih =>
    intro i F hi
    rw [lastsV]
    split
    · exact ⟨i, by omega, rfl⟩
    · exact ih (i + 1) _ (by omega)
def lastsE (x : Int32) : Int32 := if x ≤ 40 then x else -1
theorem r_lasts {d : Nat} {k h : AHP} {m n g T : Nat} {F : FS} (hP : CP k h g n m) (hW : FW m T F) (hB0 : RB (k.1 197) 0 F) (hT : T < 90000)  : MM (d + 6) 234 [.ref 183] k (fun v h2 => v = some (.int (lastsE (lastsV h g n (-1) 41 0 F))) ∧ Zf trl k h2) := by
  refine ⟨Nat.le_of_ble_eq_true rfl, ?_⟩
  have hm := hP.1.2.2.1
  have hS := hP.1.1
  have hE := hP.1.2.1
  have hWt := hW
  refine t_go (op := o_aload 1 0) (fe_X12_lasts 0) (fun _ _ => rfl) ?_
  refine t_go (op := o_ci 2 0) (fe_X12_lasts 1) (fun _ _ => rfl) ?_
  refine t_go (op := o_putI 5 11 0) (fe_X12_lasts 2) (g_putI hS (show (lay 183).1 = 11 by decide) (by decide)) ?_
  have hz : Zf trl k (sI k 183 0 0) := Zf_thr Zf.rf
  have hS := (hP.zf hz).1.1
  have hE := (hP.zf hz).1.2.1
  refine t_go (op := o_aload 6 0) (fe_X12_lasts 5) (fun _ _ => rfl) ?_
  refine t_call (op := o_callV 9 229 1 11) (fe_X12_lasts 6) (g_callV hS (show (lay 183).1 = 11 by decide) (by decide) rfl rfl rfl (Nat.le_of_ble_eq_true rfl)) ?_
  refine M_mono ?_ (r_triesNow (hP.zf hz).1.1 (hB0.zf hz trl0))
  rintro _ h2 ⟨rfl, hz2, hBt⟩
  replace hz := hz.tr hz2
  clear hz2
  have hS := (hP.zf hz).1.1
  have hE := (hP.zf hz).1.2.1
  refine t_go (op := o_aload 10 0) (fe_X12_lasts 9) (fun _ _ => rfl) ?_
  refine t_go (op := o_ci 11 0) (fe_X12_lasts 10) (fun _ _ => rfl) ?_
  refine t_call (op := o_callV 14 233 2 11) (fe_X12_lasts 11) (g_callV hS (show (lay 183).1 = 11 by decide) (by decide) rfl rfl rfl (Nat.le_of_ble_eq_true rfl)) ?_
  refine M_mono ?_ (r_lastsFor (i := 0) (j := 41) (hP.zf hz) (by decide) (show T < 98000 by omega) hBt hWt)
  rintro _ h2 ⟨rfl, hz2⟩
  replace hz := hz.tr hz2
  clear hz2
  have hS := (hP.zf hz).1.1
  have hE := (hP.zf hz).1.2.1
  refine t_go (op := o_istore 15 1) (fe_X12_lasts 14) (fun _ _ => rfl) ?_
  refine t_go (op := o_iload 16 1) (fe_X12_lasts 15) (fun _ _ => rfl) ?_
  refine t_go (op := o_ci 18 40) (fe_X12_lasts 16) (fun _ _ => rfl) ?_
  refine t_ite (op := o_icmp 21 25 (fun x y => x ≤ y) (fun _ _ => inferInstance)) (fe_X12_lasts 18) g_icmp (fun c1 => ?_) (fun c1 => ?_)
  · refine t_go (op := o_iload 26 1) (fe_X12_lasts 25) (fun _ _ => rfl) ?_
    refine t_ret (op := o_iret) (fe_X12_lasts 26) (fun _ _ => rfl) ?_
    exact ⟨congrArg (fun z => some (Value.int z)) (show lastsE _ = _ from if_pos c1).symm, hz⟩
  · refine t_go (op := o_ci 22 (-1)) (fe_X12_lasts 21) (fun _ _ => rfl) ?_
    refine t_go (op := o_goto 26) (fe_X12_lasts 22) (fun _ _ => rfl) ?_
    refine t_ret (op := o_iret) (fe_X12_lasts 26) (fun _ _ => rfl) ?_
    exact ⟨congrArg (fun z => some (Value.int z)) (show lastsE _ = _ from if_neg c1).symm, hz⟩
theorem lr_caught {d : Nat} {k h : AHP} {m n g T : Nat} {F : FS} (hP : CP k h g n m) (hW : FW m T F) (hB0 : RB (k.1 197) 0 F) (hT : T < 90000) {e : Nat} (he : e < m) {Q : Option Value → AHP → Prop} : ∀ (j i : Nat) (S : AHP), i + j = 41 → Zf trl k S → RB (S.1 197) 882 (HN h g n i F) → (∀ S2, Zf trl k S2 → Q (some (.int (firstR (litT h g n F) (nI e) j i))) S2) → TT (d + 5) 235 11 [some (.ref 183), some (.int (nI e)), some (.int (nI i))] [] S Q := by
  intro j
  induction j with
  | zero =>
    intro i S hi hz hBt hq
    have hN : i = 41 := by omega
    have hm := hP.1.2.2.1
    have hS := (hP.zf hz).1.1
    have hE := (hP.zf hz).1.2.1
    have hWt := FW_HN (h := h) (g := g) (n := n) hm hW i
    refine t_go (op := o_iload 12 2) (fe_X12_caught 11) (fun _ _ => rfl) ?_
    refine t_go (op := o_ci 14 40) (fe_X12_caught 12) (fun _ _ => rfl) ?_
    refine t_ite (op := o_icmp 17 52 (fun x y => y < x) (fun _ _ => inferInstance)) (fe_X12_caught 14) g_icmp (fun c1 => ?_) (fun c1 => ?_)
    · refine t_go (op := o_ci 53 (-1)) (fe_X12_caught 52) (fun _ _ => rfl) ?_
      refine t_ret (op := o_iret) (fe_X12_caught 53) (fun _ _ => rfl) ?_
      exact hq S hz
    · exact absurd (show (40 : Int32) < nI i by rw [hN]; decide) c1
  | succ j ih =>
    intro i S hi hz hBt hq
    have hi7 : i < 41 := by omega
    have hm := hP.1.2.2.1
    have hS := (hP.zf hz).1.1
    have hE := (hP.zf hz).1.2.1
    have hWt := FW_HN (h := h) (g := g) (n := n) hm hW i
    refine t_go (op := o_iload 12 2) (fe_X12_caught 11) (fun _ _ => rfl) ?_
    refine t_go (op := o_ci 14 40) (fe_X12_caught 12) (fun _ _ => rfl) ?_
    refine t_ite (op := o_icmp 17 52 (fun x y => y < x) (fun _ _ => inferInstance)) (fe_X12_caught 14) g_icmp (fun c1 => ?_) (fun c1 => ?_)
    · exact absurd c1 (nI_nlt (a := 40) (b := i) (by omega) (by omega))
    · refine t_go (op := o_aload 18 0) (fe_X12_caught 17) (fun _ _ => rfl) ?_
      refine t_go (op := o_iload 19 1) (fe_X12_caught 18) (fun _ _ => rfl) ?_
      refine t_call (op := o_callV 22 202 2 11) (fe_X12_caught 19) (g_callV hS (show (lay 183).1 = 11 by decide) (by decide) rfl rfl rfl (Nat.le_of_ble_eq_true rfl)) ?_
      refine M_eq (r_isEmber hS hE) ?_
      refine t_ite (op := o_if 25 52 (fun x => x = 0) (fun _ => inferInstance)) (fe_X12_caught 22) g_if (fun c2 => ?_) (fun c2 => ?_)
      · exact absurd (isE he hm) (b2i_z c2)
      · replace c2 := b2i_nn c2
        refine t_go (op := o_aload 26 0) (fe_X12_caught 25) (fun _ _ => rfl) ?_
        refine t_go (op := o_ci 29 882) (fe_X12_caught 26) (fun _ _ => rfl) ?_
        refine t_go (op := o_iload 30 1) (fe_X12_caught 29) (fun _ _ => rfl) ?_
        refine t_call (op := o_callV 33 204 3 11) (fe_X12_caught 30) (g_callV hS (show (lay 183).1 = 11 by decide) (by decide) rfl rfl rfl (Nat.le_of_ble_eq_true rfl)) ?_
        refine M_eq (r_isAlight (b := 882) hS hWt.1 hBt (by decide) (e := e) (by omega) hm ((hP.zf hz).1.2.2.2.1 _ (by omega)) (hP.zf hz).1.2.2.2.2.1) ?_
        refine t_ite (op := o_if 36 38 (fun x => x = 0) (fun _ => inferInstance)) (fe_X12_caught 33) g_if (fun c3 => ?_) (fun c3 => ?_)
        · replace c3 := b2i_z c3
          refine t_go (op := o_aload 39 0) (fe_X12_caught 38) (fun _ _ => rfl) ?_
          refine t_go (op := o_ci 42 882) (fe_X12_caught 39) (fun _ _ => rfl) ?_
          refine t_call (op := o_callV 45 215 2 11) (fe_X12_caught 42) (g_callV hS (show (lay 183).1 = 11 by decide) (by decide) rfl rfl rfl (Nat.le_of_ble_eq_true rfl)) ?_
          refine M_mono ?_ (r_hour (b := 882) (hP.zf hz) hWt hBt (by decide) (by omega))
          rintro _ h2 ⟨rfl, hz2, hB2⟩
          replace hz := hz.tr (hz2.mono trl_b)
          clear hz2
          have hS := (hP.zf hz).1.1
          have hE := (hP.zf hz).1.2.1
          refine t_go (op := o_popI 46) (fe_X12_caught 45) (fun _ _ => rfl) ?_
          refine t_go (op := o_iinc 49 2 1) (fe_X12_caught 46) (fun _ _ => rfl) ?_
          refine t_go (op := o_goto 11) (fe_X12_caught 49) (fun _ _ => rfl) ?_
          rw [firstR, if_neg (fun q => c3 ((litT_bit (h := h) (g := g) (n := n) (F := F) (t := i) (by omega)).mp q))] at hq
          rw [nI_1]
          rw [← HN_succ] at hB2
          exact ih (i + 1) _ (by omega) hz hB2 hq
        · replace c3 := b2i_nn c3
          refine t_go (op := o_iload 37 2) (fe_X12_caught 36) (fun _ _ => rfl) ?_
          refine t_ret (op := o_iret) (fe_X12_caught 37) (fun _ _ => rfl) ?_
          rw [firstR, if_pos ((litT_bit (h := h) (g := g) (n := n) (F := F) (t := i) (by omega)).mpr c3)] at hq
          exact hq S hz
theorem r_caught {d : Nat} {k h : AHP} {m n g T : Nat} {F : FS} (hP : CP k h g n m) (hW : FW m T F) (hB0 : RB (k.1 197) 0 F) (hT : T < 90000) {e : Nat} (he : e < m) : MM (d + 5) 235 [.ref 183, .int (nI e)] k (fun v h2 => v = some (.int (firstR (litT h g n F) (nI e) 41 0)) ∧ Zf trl k h2) := by
  refine ⟨Nat.le_of_ble_eq_true rfl, ?_⟩
  have hm := hP.1.2.2.1
  have hS := hP.1.1
  have hE := hP.1.2.1
  refine t_go (op := o_aload 1 0) (fe_X12_caught 0) (fun _ _ => rfl) ?_
  refine t_go (op := o_ci 2 0) (fe_X12_caught 1) (fun _ _ => rfl) ?_
  refine t_go (op := o_putI 5 11 0) (fe_X12_caught 2) (g_putI hS (show (lay 183).1 = 11 by decide) (by decide)) ?_
  have hz : Zf trl k (sI k 183 0 0) := Zf_thr Zf.rf
  have hS := (hP.zf hz).1.1
  have hE := (hP.zf hz).1.2.1
  refine t_go (op := o_aload 6 0) (fe_X12_caught 5) (fun _ _ => rfl) ?_
  refine t_call (op := o_callV 9 229 1 11) (fe_X12_caught 6) (g_callV hS (show (lay 183).1 = 11 by decide) (by decide) rfl rfl rfl (Nat.le_of_ble_eq_true rfl)) ?_
  refine M_mono ?_ (r_triesNow (hP.zf hz).1.1 (hB0.zf hz trl0))
  rintro _ h2 ⟨rfl, hz2, hBt⟩
  replace hz := hz.tr hz2
  clear hz2
  have hS := (hP.zf hz).1.1
  have hE := (hP.zf hz).1.2.1
  refine t_go (op := o_ci 10 0) (fe_X12_caught 9) (fun _ _ => rfl) ?_
  refine t_go (op := o_istore 11 2) (fe_X12_caught 10) (fun _ _ => rfl) ?_
  exact (lr_caught hP hW hB0 hT he 41 0 _ (by omega) hz hBt fun S2 hz => ⟨rfl, hz⟩)
theorem r_caughtF {d : Nat} {k h : AHP} {m n g T : Nat} {F : FS} (hP : CP k h g n m) (hW : FW m T F) (hB0 : RB (k.1 197) 0 F) (hT : T < 90000) {x : Int32} (hn : ¬ (¬ x < 0 ∧ x < nI m)) : MM (d + 5) 235 [.ref 183, .int x] k (fun v h2 => v = some (.int (-1)) ∧ Zf trl k h2) := by
  refine ⟨Nat.le_of_ble_eq_true rfl, ?_⟩
  have hm := hP.1.2.2.1
  have hS := hP.1.1
  have hE := hP.1.2.1
  refine t_go (op := o_aload 1 0) (fe_X12_caught 0) (fun _ _ => rfl) ?_
  refine t_go (op := o_ci 2 0) (fe_X12_caught 1) (fun _ _ => rfl) ?_
  refine t_go (op := o_putI 5 11 0) (fe_X12_caught 2) (g_putI hS (show (lay 183).1 = 11 by decide) (by decide)) ?_
  have hz : Zf trl k (sI k 183 0 0) := Zf_thr Zf.rf
  have hS := (hP.zf hz).1.1
  have hE := (hP.zf hz).1.2.1
  refine t_go (op := o_aload 6 0) (fe_X12_caught 5) (fun _ _ => rfl) ?_
  refine t_call (op := o_callV 9 229 1 11) (fe_X12_caught 6) (g_callV hS (show (lay 183).1 = 11 by decide) (by decide) rfl rfl rfl (Nat.le_of_ble_eq_true rfl)) ?_
  refine M_mono ?_ (r_triesNow (hP.zf hz).1.1 (hB0.zf hz trl0))
  rintro _ h2 ⟨rfl, hz2, hBt⟩
  replace hz := hz.tr hz2
  clear hz2
  have hS := (hP.zf hz).1.1
  have hE := (hP.zf hz).1.2.1
  refine t_go (op := o_ci 10 0) (fe_X12_caught 9) (fun _ _ => rfl) ?_
  refine t_go (op := o_istore 11 2) (fe_X12_caught 10) (fun _ _ => rfl) ?_
  refine t_go (op := o_iload 12 2) (fe_X12_caught 11) (fun _ _ => rfl) ?_
  refine t_go (op := o_ci 14 40) (fe_X12_caught 12) (fun _ _ => rfl) ?_
  refine t_ite (op := o_icmp 17 52 (fun x y => y < x) (fun _ _ => inferInstance)) (fe_X12_caught 14) g_icmp (fun c1 => ?_) (fun c1 => ?_)
  · exact absurd c1 (by decide)
  · refine t_go (op := o_aload 18 0) (fe_X12_caught 17) (fun _ _ => rfl) ?_
    refine t_go (op := o_iload 19 1) (fe_X12_caught 18) (fun _ _ => rfl) ?_
    refine t_call (op := o_callV 22 202 2 11) (fe_X12_caught 19) (g_callV hS (show (lay 183).1 = 11 by decide) (by decide) rfl rfl rfl (Nat.le_of_ble_eq_true rfl)) ?_
    refine M_eq (r_isEmber hS hE) ?_
    refine t_ite (op := o_if 25 52 (fun x => x = 0) (fun _ => inferInstance)) (fe_X12_caught 22) g_if (fun c2 => ?_) (fun c2 => ?_)
    · replace c2 := b2i_z c2
      refine t_go (op := o_ci 53 (-1)) (fe_X12_caught 52) (fun _ _ => rfl) ?_
      refine t_ret (op := o_iret) (fe_X12_caught 53) (fun _ _ => rfl) ?_
      exact ⟨rfl, hz⟩
    · exact absurd (b2i_nn c2) hn
