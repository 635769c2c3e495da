/-! ===== the reference: what touches, halls, towers ===== -/
theorem touch_bt {F : FS} {e a : Nat} (ha : a < 32) : bt (touchB F (nI e)) a = true → a < 7 ∧ hasF F (nI e) ∧ hasF F (nI a) := by
  unfold touchB
  by_cases hh : hasF F (nI e)
  · rw [if_pos hh]
    intro h
    have := setB_bt (P := fun o => hasF F (nI o) ∧ bitI (besV (F.1 (nI e).toNatClampNeg)) (F.1 (nI o).toNatClampNeg)) ha
    rw [show setB (fun o => hasF F (nI o) ∧ bitI (besV (F.1 (nI e).toNatClampNeg)) (F.1 (nI o).toNatClampNeg)) = it (touchS F (besV (F.1 (nI e).toNatClampNeg))) 7 0 0 from rfl, h] at this
    have h3 := this.symm
    rw [Bool.and_eq_true] at h3
    exact ⟨of_decide_eq_true h3.1, hh, (dcd_iff.mp h3.2).1⟩
  · rw [if_neg hh, b_0]; intro h; cases h
theorem wide_mem {F : FS} {H : Int32} {a : Nat} (ha : a < 32) : ∀ (j i : Nat) (s : Int32), i + j ≤ 7 → (bt (it (wideS F H) j i s) a = true ↔ bt s a = true ∨ ∃ o, i ≤ o ∧ o < i + j ∧ bt H o = true ∧ bt (touchB F (nI o)) a = true) := by
  intro j
  induction j with
  | zero =>
    intro i s _
    exact ⟨Or.inl, fun q => q.elim id fun ⟨o, h1, h2, _⟩ => by omega⟩
  | succ j ih =>
    intro i s h
    rw [it_step, ih (i + 1) _ (by omega), wideS]
    by_cases hb : bitI H (nI i)
    · rw [if_pos hb, b_or, Bool.or_eq_true]
      have hb2 := (bitI_bt (show i < 32 by omega)).mp hb
      constructor
      · rintro ((q | q) | ⟨o, h1, h2, h3⟩)
        · exact Or.inl q
        · exact Or.inr ⟨i, by omega, by omega, hb2, q⟩
        · exact Or.inr ⟨o, by omega, by omega, h3⟩
      · rintro (q | ⟨o, h1, h2, h3, h4⟩)
        · exact Or.inl (Or.inl q)
        · by_cases ho : o = i
          · subst ho; exact Or.inl (Or.inr h4)
          · exact Or.inr ⟨o, by omega, by omega, h3, h4⟩
    · rw [if_neg hb]
      constructor
      · rintro (q | ⟨o, h1, h2, h3⟩)
        · exact Or.inl q
        · exact Or.inr ⟨o, by omega, by omega, h3⟩
      · rintro (q | ⟨o, h1, h2, h3, h4⟩)
        · exact Or.inl q
        · by_cases ho : o = i
          · subst ho; exact absurd ((bitI_bt (show o < 32 by omega)).mpr h3) hb
          · exact Or.inr ⟨o, by omega, by omega, h3, h4⟩
noncomputable def inS (F : FS) (o : Nat) (s : Int32) : Int32 := if bitI s (nI o) then s ||| touchB F (nI o) else s
theorem in_sub {F : FS} {a : Nat} : ∀ (j i : Nat) (s : Int32), bt s a = true → bt (it (inS F) j i s) a = true := by
  intro j
  induction j with
  | zero => intro i s h; exact h
  | succ j ih =>
    intro i s h
    rw [it_step]
    refine ih (i + 1) _ ?_
    unfold inS
    split
    · rw [b_or, h]; rfl
    · exact h
theorem in_mem {F : FS} {a o : Nat} : ∀ (j i : Nat) (s : Int32), i + j ≤ 7 → i ≤ o → o < i + j → bt s o = true → bt (touchB F (nI o)) a = true → bt (it (inS F) j i s) a = true := by
  intro j
  induction j with
  | zero => intro i s _ h1 h2; omega
  | succ j ih =>
    intro i s h h1 h2 h3 h4
    rw [it_step]
    by_cases ho : o = i
    · subst ho
      refine in_sub j (o + 1) _ ?_
      rw [inS, if_pos ((bitI_bt (show o < 32 by omega)).mpr h3), b_or, h4, Bool.or_true]
    · refine ih (i + 1) _ (by omega) (by omega) (by omega) ?_ h4
      unfold inS
      split
      · rw [b_or, h3]; rfl
      · exact h3
theorem in_clo {F : FS} {Z : Int32} (hZ : ∀ o a, o < 7 → a < 32 → bt Z o = true → bt (touchB F (nI o)) a = true → bt Z a = true) : ∀ (j i : Nat) (s : Int32), i + j ≤ 7 → (∀ a, a < 32 → bt s a = true → bt Z a = true) → ∀ a, a < 32 → bt (it (inS F) j i s) a = true → bt Z a = true := by
  intro j
  induction j with
  | zero => intro i s _ h; exact h
  | succ j ih =>
    intro i s h hs
    rw [it_step]
    refine ih (i + 1) _ (by omega) (fun a ha h1 => ?_)
    unfold inS at h1
    by_cases hb : bitI s (nI i)
    · rw [if_pos hb, b_or, Bool.or_eq_true] at h1
      rcases h1 with h1 | h1
      · exact hs a ha h1
      · exact hZ i a (by omega) ha (hs i (by omega) ((bitI_bt (show i < 32 by omega)).mp hb)) h1
    · rw [if_neg hb] at h1; exact hs a ha h1
noncomputable abbrev hallN (F : FS) (i : Nat) (s : Int32) : Int32 := it (fun _ => fun s => it (wideS F s) 7 0 s) i 0 s
theorem hallN_1 {F : FS} {i : Nat} {s : Int32} : hallN F (i + 1) s = it (wideS F (hallN F i s)) 7 0 (hallN F i s) := it_last i 0 s
theorem cnt_mono {f g : Nat → Bool} (h : ∀ i, f i = true → g i = true) : ∀ n, cntN f n ≤ cntN g n ∧ ((∃ a, a < n ∧ f a = false ∧ g a = true) → cntN f n < cntN g n) := by
  intro n
  induction n with
  | zero => exact ⟨Nat.le_refl _, fun ⟨a, h1, _⟩ => by omega⟩
  | succ n ih =>
    unfold cntN
    refine ⟨?_, ?_⟩
    · cases hf : f n with
      | false => simp; have := ih.1; omega
      | true => rw [h n hf]; simp; exact ih.1
    · rintro ⟨a, h1, h2, h3⟩
      by_cases ha : a = n
      · subst ha; rw [h2, h3]; simp; have := ih.1; omega
      · have := ih.2 ⟨a, by omega, h2, h3⟩
        cases hf : f n with
        | false => simp; omega
        | true => rw [h n hf]; simp; exact this
theorem cnt_all {f : Nat → Bool} : ∀ n, n ≤ cntN f n → ∀ a, a < n → f a = true := by
  intro n
  induction n with
  | zero => intro _ a h; omega
  | succ n ih =>
    intro h a ha
    unfold cntN at h
    have h1 := cnt_le (f := f) n
    cases hf : f n with
    | false => rw [hf] at h; simp at h; omega
    | true =>
      rw [hf] at h
      simp at h
      by_cases h2 : a = n
      · rw [h2]; exact hf
      · exact ih h a (by omega)
theorem hall_lt7 {F : FS} {e : Nat} (he : e < 7) : ∀ i a, a < 32 → bt (hallN F i (1 <<< (nI e &&& 31))) a = true → a < 7 := by
  intro i
  induction i with
  | zero =>
    intro a ha h
    rw [show hallN F 0 (1 <<< (nI e &&& 31)) = 1 <<< (nI e &&& 31) from rfl, b_one (by omega) ha] at h
    have := of_decide_eq_true h
    omega
  | succ i ih =>
    intro a ha h
    rw [hallN_1, wide_mem ha 7 0 _ (by omega)] at h
    rcases h with h | ⟨o, _, _, _, h⟩
    · exact ih a ha h
    · exact (touch_bt ha h).1
theorem hall_up {F : FS} {s : Int32} {i a : Nat} (ha : a < 32) (h : bt (hallN F i s) a = true) : bt (hallN F (i + 1) s) a = true := by rw [hallN_1, wide_mem ha 7 0 _ (by omega)]; exact Or.inl h
theorem hall_grow {F : FS} {e : Nat} (he : e < 7) : ∀ i, hallN F (i + 1) (1 <<< (nI e &&& 31)) = hallN F i (1 <<< (nI e &&& 31)) ∨ i + 1 ≤ cntN (bt (hallN F i (1 <<< (nI e &&& 31)))) 7 := by
  intro i
  induction i with
  | zero =>
    refine Or.inr ?_
    have h := (cnt_mono (f := fun _ => false) (g := bt ((1 : Int32) <<< (nI e &&& 31))) (fun i q => by cases q) 7).2 ⟨e, he, rfl, by rw [b_one (by omega) (by omega)]; simp⟩
    show 1 ≤ cntN (bt ((1 : Int32) <<< (nI e &&& 31))) 7
    omega
  | succ i ih =>
    by_cases h : hallN F (i + 1) (1 <<< (nI e &&& 31)) = hallN F i (1 <<< (nI e &&& 31))
    · left
      rw [hallN_1 (i := i + 1), h, ← hallN_1 (i := i), h]
    · right
      have h1 := ih.resolve_left h
      have h2 : ∃ a, a < 7 ∧ bt (hallN F i (1 <<< (nI e &&& 31))) a = false ∧ bt (hallN F (i + 1) (1 <<< (nI e &&& 31))) a = true := by
        refine Classical.byContradiction fun hn => h (b_ext fun a ha => ?_)
        cases hb : bt (hallN F i (1 <<< (nI e &&& 31))) a with
        | true => exact hall_up ha hb
        | false =>
          cases hc : bt (hallN F (i + 1) (1 <<< (nI e &&& 31))) a with
          | false => rfl
          | true => exact absurd ⟨a, hall_lt7 he (i + 1) a ha hc, hb, hc⟩ hn
      have h3 := (cnt_mono (f := bt (hallN F i (1 <<< (nI e &&& 31)))) (g := bt (hallN F (i + 1) (1 <<< (nI e &&& 31)))) (fun a q => by
        rcases Nat.lt_or_ge a 32 with ha | ha
        · exact hall_up ha q
        · rw [b_big ha] at q; cases q) 7).2 h2
      omega
theorem hall_67 {F : FS} {e : Nat} (he : e < 7) : hallN F 7 (1 <<< (nI e &&& 31)) = hallN F 6 (1 <<< (nI e &&& 31)) := by
  rcases hall_grow (F := F) he 6 with h | h
  · exact h
  · refine b_ext fun a ha => ?_
    cases hb : bt (hallN F 6 (1 <<< (nI e &&& 31))) a with
    | true => exact hall_up ha hb
    | false =>
      cases hc : bt (hallN F 7 (1 <<< (nI e &&& 31))) a with
      | false => rfl
      | true => rw [cnt_all 7 h a (hall_lt7 he 7 a ha hc)] at hb; cases hb
noncomputable def hallR (F : FS) (m e : Nat) : Int32 := it (fun _ => fun s => it (inS F) m 0 s) 7 0 (1 <<< (nI e &&& 31))
theorem hallR_eq {m e : Nat} {F : FS} (hV : FV m F) (hm : m ≤ 7) (he : e < 7) (hh : hasF F (nI e)) : hallR F m e = hallB F (nI e) := by
  have e6 : hallB F (nI e) = hallN F 6 (1 <<< (nI e &&& 31)) := by
    rw [hallB, if_pos hh]
    exact it_const 6 1 0 _
  rw [e6]
  have hc : ∀ o a, o < 7 → a < 32 → bt (hallN F 6 (1 <<< (nI e &&& 31))) o = true → bt (touchB F (nI o)) a = true → bt (hallN F 6 (1 <<< (nI e &&& 31))) a = true := by
    intro o a ho ha h1 h2
    rw [← hall_67 he, hallN_1, wide_mem ha 7 0 _ (by omega)]
    exact Or.inr ⟨o, by omega, by omega, h1, h2⟩
  have h0 : ∀ i a, a < 32 → bt ((1 : Int32) <<< (nI e &&& 31)) a = true → bt (hallN F i (1 <<< (nI e &&& 31))) a = true := by
    intro i
    induction i with
    | zero => intro a _ h; exact h
    | succ i ih => intro a ha h; exact hall_up ha (ih a ha h)
  have hu : ∀ r, (∀ a, a < 32 → bt (it (fun _ => fun s => it (inS F) m 0 s) r 0 (1 <<< (nI e &&& 31))) a = true → bt (hallN F 6 (1 <<< (nI e &&& 31))) a = true) ∧ (∀ a, a < 32 → bt (hallN F r (1 <<< (nI e &&& 31))) a = true → bt (it (fun _ => fun s => it (inS F) m 0 s) r 0 (1 <<< (nI e &&& 31))) a = true) := by
    intro r
    induction r with
    | zero => exact ⟨h0 6, fun a _ h => h⟩
    | succ r ih =>
      rw [it_last]
      refine ⟨in_clo hc m 0 _ (by omega) ih.1, fun a ha h => ?_⟩
      rw [hallN_1, wide_mem ha 7 0 _ (by omega)] at h
      rcases h with h | ⟨o, _, h1, h2, h3⟩
      · exact in_sub m 0 _ (ih.2 a ha h)
      · have hom : o < m := by
          rcases Nat.lt_or_ge o m with q | q
          · exact q
          · exact absurd (touch_bt ha h3).2.1 (FV_no hV (by omega) q)
        exact in_mem m 0 _ (by omega) (by omega) (by omega) (ih.2 o (by omega) h2) h3
  refine b_ext fun a ha => ?_
  cases hb : bt (hallN F 6 (1 <<< (nI e &&& 31))) a with
  | true => rw [← hall_67 he] at hb; exact (hu 7).2 a ha hb
  | false =>
    cases hq : bt (hallR F m e) a with
    | false => rfl
    | true => rw [(hu 7).1 a ha hq] at hb; cases hb
theorem lr_hallI {d : Nat} {k : AHP} {m : Nat} {F : FS} (hS : Std k) (hE : k.1 189 0 = nI m) (hm : m ≤ 7) (hV : FV m F) (hB : RB (k.1 197) 0 F) {y r : Int32} {Q : Option Value → AHP → Prop} : ∀ (j i : Nat) (s : Int32), i + j = m → TT (d + 2) 258 54 [some (.ref 183), some (.int y), some (.int (it (inS F) j i s)), some (.int r), some (.int (nI m))] [] k Q → TT (d + 2) 258 15 [some (.ref 183), some (.int y), some (.int s), some (.int r), some (.int (nI i))] [] k Q := by
  intro j
  induction j with
  | zero =>
    intro i s hi  hq
    have hN : i = m := by omega
    refine t_go (op := o_iload 17 4) (fe_X12_hallOf 15) (fun _ _ => rfl) ?_
    refine t_go (op := o_aload 18 0) (fe_X12_hallOf 17) (fun _ _ => rfl) ?_
    refine t_call (op := o_callV 21 200 1 11) (fe_X12_hallOf 18) (g_callV hS (show (lay 183).1 = 11 by decide) (by decide) rfl rfl rfl (Nat.le_of_ble_eq_true rfl)) ?_
    refine M_eq (r_embers hS hE) ?_
    refine t_ite (op := o_icmp 24 54 (fun x y => y ≤ x) (fun _ _ => inferInstance)) (fe_X12_hallOf 21) g_icmp (fun c1 => ?_) (fun c1 => ?_)
    · have eN : nI i = nI m := by rw [hN]
      rw [eN]
      exact hq
    · exact absurd (by rw [hN]; exact Int32.le_refl _) c1
  | succ j ih =>
    intro i s hi  hq
    have hi7 : i < m := by omega
    refine t_go (op := o_iload 17 4) (fe_X12_hallOf 15) (fun _ _ => rfl) ?_
    refine t_go (op := o_aload 18 0) (fe_X12_hallOf 17) (fun _ _ => rfl) ?_
    refine t_call (op := o_callV 21 200 1 11) (fe_X12_hallOf 18) (g_callV hS (show (lay 183).1 = 11 by decide) (by decide) rfl rfl rfl (Nat.le_of_ble_eq_true rfl)) ?_
    refine M_eq (r_embers hS hE) ?_
    refine t_ite (op := o_icmp 24 54 (fun x y => y ≤ x) (fun _ _ => inferInstance)) (fe_X12_hallOf 21) g_icmp (fun c1 => ?_) (fun c1 => ?_)
    · exact absurd c1 (nI_ge hi7 (by omega))
    · refine t_go (op := o_iload 25 2) (fe_X12_hallOf 24) (fun _ _ => rfl) ?_
      refine t_go (op := o_iload 26 2) (fe_X12_hallOf 25) (fun _ _ => rfl) ?_
      refine t_go (op := o_iload 28 4) (fe_X12_hallOf 26) (fun _ _ => rfl) ?_
      refine t_go (op := o_i2 29 (fun x y => x >>> (y &&& 31))) (fe_X12_hallOf 28) (fun _ _ => rfl) ?_
      refine t_go (op := o_ci 30 1) (fe_X12_hallOf 29) (fun _ _ => rfl) ?_
      refine t_go (op := o_i2 31 (fun x y => x &&& y)) (fe_X12_hallOf 30) (fun _ _ => rfl) ?_
      refine t_go (op := o_ci 32 1) (fe_X12_hallOf 31) (fun _ _ => rfl) ?_
      refine t_ite (op := o_icmp 45 35 (fun x y => x = y) (fun _ _ => inferInstance)) (fe_X12_hallOf 32) g_icmp (fun c2 => ?_) (fun c2 => ?_)
      · refine t_go (op := o_aload 36 0) (fe_X12_hallOf 35) (fun _ _ => rfl) ?_
        refine t_go (op := o_ci 37 0) (fe_X12_hallOf 36) (fun _ _ => rfl) ?_
        refine t_go (op := o_iload 39 4) (fe_X12_hallOf 37) (fun _ _ => rfl) ?_
        refine t_call (op := o_callV 42 208 3 11) (fe_X12_hallOf 39) (g_callV hS (show (lay 183).1 = 11 by decide) (by decide) rfl rfl rfl (Nat.le_of_ble_eq_true rfl)) ?_
        refine M_eq (r_touchOf (b := 0) hS hV hB (by decide) hm hE (e := i) (by omega)) ?_
        refine t_go (op := o_goto 46) (fe_X12_hallOf 42) (fun _ _ => rfl) ?_
        refine t_go (op := o_i2 47 (fun x y => x ||| y)) (fe_X12_hallOf 46) (fun _ _ => rfl) ?_
        refine t_go (op := o_istore 48 2) (fe_X12_hallOf 47) (fun _ _ => rfl) ?_
        refine t_go (op := o_iinc 51 4 1) (fe_X12_hallOf 48) (fun _ _ => rfl) ?_
        refine t_go (op := o_goto 15) (fe_X12_hallOf 51) (fun _ _ => rfl) ?_
        rw [it_step, inS, if_pos c2] at hq
        rw [nI_1]
        exact ih (i + 1) _ (by omega) hq
      · refine t_go (op := o_ci 46 0) (fe_X12_hallOf 45) (fun _ _ => rfl) ?_
        refine t_go (op := o_i2 47 (fun x y => x ||| y)) (fe_X12_hallOf 46) (fun _ _ => rfl) ?_
        refine t_go (op := o_istore 48 2) (fe_X12_hallOf 47) (fun _ _ => rfl) ?_
        refine t_go (op := o_iinc 51 4 1) (fe_X12_hallOf 48) (fun _ _ => rfl) ?_
        refine t_go (op := o_goto 15) (fe_X12_hallOf 51) (fun _ _ => rfl) ?_
        rw [it_step, inS, if_neg c2] at hq
        rw [← Int32.or_zero (a := s)] at hq
        rw [nI_1]
        exact ih (i + 1) _ (by omega) hq
theorem lr_hallO {d : Nat} {k : AHP} {m : Nat} {F : FS} (hS : Std k) (hE : k.1 189 0 = nI m) (hm : m ≤ 7) (hV : FV m F) (hB : RB (k.1 197) 0 F) {y : Int32} {Q : Option Value → AHP → Prop} : ∀ (j i : Nat) (s : Int32) (x4 : Option Value), i + j = 7 → Q (some (.int (it (fun _ => fun s => it (inS F) m 0 s) j i s))) k → TT (d + 2) 258 6 [some (.ref 183), some (.int y), some (.int s), some (.int (nI i)), x4] [] k Q := by
  intro j
  induction j with
  | zero =>
    intro i s x4 hi  hq
    have hN : i = 7 := by omega
    refine t_go (op := o_iload 7 3) (fe_X12_hallOf 6) (fun _ _ => rfl) ?_
    refine t_go (op := o_ci 9 7) (fe_X12_hallOf 7) (fun _ _ => rfl) ?_
    refine t_ite (op := o_icmp 12 60 (fun x y => y ≤ x) (fun _ _ => inferInstance)) (fe_X12_hallOf 9) g_icmp (fun c1 => ?_) (fun c1 => ?_)
    · refine t_go (op := o_iload 61 2) (fe_X12_hallOf 60) (fun _ _ => rfl) ?_
      refine t_ret (op := o_iret) (fe_X12_hallOf 61) (fun _ _ => rfl) ?_
      exact hq
    · exact absurd (by rw [hN]; exact Int32.le_refl _) c1
  | succ j ih =>
    intro i s x4 hi  hq
    have hi7 : i < 7 := by omega
    refine t_go (op := o_iload 7 3) (fe_X12_hallOf 6) (fun _ _ => rfl) ?_
    refine t_go (op := o_ci 9 7) (fe_X12_hallOf 7) (fun _ _ => rfl) ?_
    refine t_ite (op := o_icmp 12 60 (fun x y => y ≤ x) (fun _ _ => inferInstance)) (fe_X12_hallOf 9) g_icmp (fun c1 => ?_) (fun c1 => ?_)
    · exact absurd c1 (nI_ge hi7 (by decide))
    · refine t_go (op := o_ci 13 0) (fe_X12_hallOf 12) (fun _ _ => rfl) ?_
      refine t_go (op := o_istore 15 4) (fe_X12_hallOf 13) (fun _ _ => rfl) ?_
      refine lr_hallI hS hE hm hV hB m 0 _ (by omega) ?_
      refine t_go (op := o_iinc 57 3 1) (fe_X12_hallOf 54) (fun _ _ => rfl) ?_
      refine t_go (op := o_goto 6) (fe_X12_hallOf 57) (fun _ _ => rfl) ?_
      rw [it_step] at hq
      rw [nI_1]
      exact ih (i + 1) _ _ (by omega) hq
theorem r_hallOf {d : Nat} {k : AHP} {m : Nat} {F : FS} (hS : Std k) (hE : k.1 189 0 = nI m) (hm : m ≤ 7) (hV : FV m F) (hB : RB (k.1 197) 0 F) {e : Nat} (he : e < m) : MM (d + 2) 258 [.ref 183, .int (nI e)] k (fun v h2 => v = some (.int (hallR F m e)) ∧ h2 = k) := by
  refine ⟨Nat.le_of_ble_eq_true rfl, ?_⟩
  refine t_go (op := o_ci 1 1) (fe_X12_hallOf 0) (fun _ _ => rfl) ?_
  refine t_go (op := o_iload 2 1) (fe_X12_hallOf 1) (fun _ _ => rfl) ?_
  refine t_go (op := o_i2 3 (fun x y => x <<< (y &&& 31))) (fe_X12_hallOf 2) (fun _ _ => rfl) ?_
  refine t_go (op := o_istore 4 2) (fe_X12_hallOf 3) (fun _ _ => rfl) ?_
  refine t_go (op := o_ci 5 0) (fe_X12_hallOf 4) (fun _ _ => rfl) ?_
  refine t_go (op := o_istore 6 3) (fe_X12_hallOf 5) (fun _ _ => rfl) ?_
  exact lr_hallO hS hE hm hV hB 7 0 _ _ (by omega) ⟨rfl, rfl⟩
theorem r_touchF {d : Nat} {k h : AHP} {m n g T : Nat} {F : FS} (hP : CP k h g n m) (hW : FW m T F) (hB0 : RB (k.1 197) 0 F) (hT : T < 90000) {x : Int32} (hn : ¬ (¬ x < 0 ∧ x < nI m)) : MM (d + 3) 255 [.ref 183, .int x] k (fun v h2 => v = some (.int (-1)) ∧ Zf trl k h2) := by
  refine ⟨Nat.le_of_ble_eq_true rfl, ?_⟩
  have hm := hP.1.2.2.1
  have hS := hP.1.1
  have hE := hP.1.2.1
  refine t_go (op := o_aload 1 0) (fe_X12_touch 0) (fun _ _ => rfl) ?_
  refine t_go (op := o_ci 2 0) (fe_X12_touch 1) (fun _ _ => rfl) ?_
  refine t_go (op := o_putI 5 11 0) (fe_X12_touch 2) (g_putI hS (show (lay 183).1 = 11 by decide) (by decide)) ?_
  have hz : Zf trl k (sI k 183 0 0) := Zf_thr Zf.rf
  have hS := (hP.zf hz).1.1
  have hE := (hP.zf hz).1.2.1
  refine t_go (op := o_aload 6 0) (fe_X12_touch 5) (fun _ _ => rfl) ?_
  refine t_go (op := o_iload 7 1) (fe_X12_touch 6) (fun _ _ => rfl) ?_
  refine t_call (op := o_callV 10 202 2 11) (fe_X12_touch 7) (g_callV hS (show (lay 183).1 = 11 by decide) (by decide) rfl rfl rfl (Nat.le_of_ble_eq_true rfl)) ?_
  refine M_eq (r_isEmber hS hE) ?_
  refine t_ite (op := o_if 13 31 (fun x => x = 0) (fun _ => inferInstance)) (fe_X12_touch 10) g_if (fun c1 => ?_) (fun c1 => ?_)
  · replace c1 := b2i_z c1
    refine t_go (op := o_ci 32 (-1)) (fe_X12_touch 31) (fun _ _ => rfl) ?_
    refine t_ret (op := o_iret) (fe_X12_touch 32) (fun _ _ => rfl) ?_
    exact ⟨rfl, hz⟩
  · exact absurd (b2i_nn c1) hn
theorem r_touchA {d : Nat} {k h : AHP} {m n g T : Nat} {F : FS} (hP : CP k h g n m) (hW : FW m T F) (hB0 : RB (k.1 197) 0 F) (hT : T < 90000) {e : Nat} (he : e < m) (hh : ¬ hasF F (nI e)) : MM (d + 3) 255 [.ref 183, .int (nI e)] k (fun v h2 => v = some (.int (-1)) ∧ Zf trl k h2) := by
  refine ⟨Nat.le_of_ble_eq_true rfl, ?_⟩
  have hm := hP.1.2.2.1
  have hS := hP.1.1
  have hE := hP.1.2.1
  refine t_go (op := o_aload 1 0) (fe_X12_touch 0) (fun _ _ => rfl) ?_
  refine t_go (op := o_ci 2 0) (fe_X12_touch 1) (fun _ _ => rfl) ?_
  refine t_go (op := o_putI 5 11 0) (fe_X12_touch 2) (g_putI hS (show (lay 183).1 = 11 by decide) (by decide)) ?_
  have hz : Zf trl k (sI k 183 0 0) := Zf_thr Zf.rf
  have hS := (hP.zf hz).1.1
  have hE := (hP.zf hz).1.2.1
  refine t_go (op := o_aload 6 0) (fe_X12_touch 5) (fun _ _ => rfl) ?_
  refine t_go (op := o_iload 7 1) (fe_X12_touch 6) (fun _ _ => rfl) ?_
  refine t_call (op := o_callV 10 202 2 11) (fe_X12_touch 7) (g_callV hS (show (lay 183).1 = 11 by decide) (by decide) rfl rfl rfl (Nat.le_of_ble_eq_true rfl)) ?_
  refine M_eq (r_isEmber hS hE) ?_
  refine t_ite (op := o_if 13 31 (fun x => x = 0) (fun _ => inferInstance)) (fe_X12_touch 10) g_if (fun c1 => ?_) (fun c1 => ?_)
  · exact absurd (isE he hm) (b2i_z c1)
  · replace c1 := b2i_nn c1
    refine t_go (op := o_aload 14 0) (fe_X12_touch 13) (fun _ _ => rfl) ?_
    refine t_go (op := o_ci 15 0) (fe_X12_touch 14) (fun _ _ => rfl) ?_
    refine t_go (op := o_iload 16 1) (fe_X12_touch 15) (fun _ _ => rfl) ?_
    refine t_call (op := o_callV 19 203 3 11) (fe_X12_touch 16) (g_callV hS (show (lay 183).1 = 11 by decide) (by decide) rfl rfl rfl (Nat.le_of_ble_eq_true rfl)) ?_
    refine M_eq (r_isThere (b := 0) hS hW.1 (hB0.zf hz trl0) (by decide) (e := e) (by omega)) ?_
    refine t_ite (op := o_if 22 31 (fun x => x = 0) (fun _ => inferInstance)) (fe_X12_touch 19) g_if (fun c2 => ?_) (fun c2 => ?_)
    · replace c2 := b2i_z c2
      refine t_go (op := o_ci 32 (-1)) (fe_X12_touch 31) (fun _ _ => rfl) ?_
      refine t_ret (op := o_iret) (fe_X12_touch 32) (fun _ _ => rfl) ?_
      exact ⟨rfl, hz⟩
    · exact absurd (b2i_nn c2) hh
theorem r_touch {d : Nat} {k h : AHP} {m n g T : Nat} {F : FS} (hP : CP k h g n m) (hW : FW m T F) (hB0 : RB (k.1 197) 0 F) (hT : T < 90000) {e : Nat} (he : e < m) (hh : hasF F (nI e)) : MM (d + 3) 255 [.ref 183, .int (nI e)] k (fun v h2 => v = some (.int (touchB F (nI e))) ∧ Zf trl k h2) := by
  refine ⟨Nat.le_of_ble_eq_true rfl, ?_⟩
  have hm := hP.1.2.2.1
  have hS := hP.1.1
  have hE := hP.1.2.1
  refine t_go (op := o_aload 1 0) (fe_X12_touch 0) (fun _ _ => rfl) ?_
  refine t_go (op := o_ci 2 0) (fe_X12_touch 1) (fun _ _ => rfl) ?_
  refine t_go (op := o_putI 5 11 0) (fe_X12_touch 2) (g_putI hS (show (lay 183).1 = 11 by decide) (by decide)) ?_
  have hz : Zf trl k (sI k 183 0 0) := Zf_thr Zf.rf
  have hS := (hP.zf hz).1.1
  have hE := (hP.zf hz).1.2.1
  refine t_go (op := o_aload 6 0) (fe_X12_touch 5) (fun _ _ => rfl) ?_
  refine t_go (op := o_iload 7 1) (fe_X12_touch 6) (fun _ _ => rfl) ?_
  refine t_call (op := o_callV 10 202 2 11) (fe_X12_touch 7) (g_callV hS (show (lay 183).1 = 11 by decide) (by decide) rfl rfl rfl (Nat.le_of_ble_eq_true rfl)) ?_
  refine M_eq (r_isEmber hS hE) ?_
  refine t_ite (op := o_if 13 31 (fun x => x = 0) (fun _ => inferInstance)) (fe_X12_touch 10) g_if (fun c1 => ?_) (fun c1 => ?_)
  · exact absurd (isE he hm) (b2i_z c1)
  · replace c1 := b2i_nn c1
    refine t_go (op := o_aload 14 0) (fe_X12_touch 13) (fun _ _ => rfl) ?_
    refine t_go (op := o_ci 15 0) (fe_X12_touch 14) (fun _ _ => rfl) ?_
    refine t_go (op := o_iload 16 1) (fe_X12_touch 15) (fun _ _ => rfl) ?_
    refine t_call (op := o_callV 19 203 3 11) (fe_X12_touch 16) (g_callV hS (show (lay 183).1 = 11 by decide) (by decide) rfl rfl rfl (Nat.le_of_ble_eq_true rfl)) ?_
    refine M_eq (r_isThere (b := 0) hS hW.1 (hB0.zf hz trl0) (by decide) (e := e) (by omega)) ?_
    refine t_ite (op := o_if 22 31 (fun x => x = 0) (fun _ => inferInstance)) (fe_X12_touch 19) g_if (fun c2 => ?_) (fun c2 => ?_)
    · exact absurd hh (b2i_z c2)
    · replace c2 := b2i_nn c2
      refine t_go (op := o_aload 23 0) (fe_X12_touch 22) (fun _ _ => rfl) ?_
      refine t_go (op := o_ci 24 0) (fe_X12_touch 23) (fun _ _ => rfl) ?_
      refine t_go (op := o_iload 25 1) (fe_X12_touch 24) (fun _ _ => rfl) ?_
      refine t_call (op := o_callV 28 208 3 11) (fe_X12_touch 25) (g_callV hS (show (lay 183).1 = 11 by decide) (by decide) rfl rfl rfl (Nat.le_of_ble_eq_true rfl)) ?_
      refine M_eq (r_touchOf (b := 0) hS hW.1 (hB0.zf hz trl0) (by decide) hm hE (e := e) (by omega)) ?_
      refine t_go (op := o_goto 32) (fe_X12_touch 28) (fun _ _ => rfl) ?_
      refine t_ret (op := o_iret) (fe_X12_touch 32) (fun _ _ => rfl) ?_
      exact ⟨rfl, hz⟩
theorem r_hallF {d : Nat} {k h : AHP} {m n g T : Nat} {F : FS} (hP : CP k h g n m) (hW : FW m T F) (hB0 : RB (k.1 197) 0 F) (hT : T < 90000) {x : Int32} (hn : ¬ (¬ x < 0 ∧ x < nI m)) : MM (d + 3) 259 [.ref 183, .int x] k (fun v h2 => v = some (.int (-1)) ∧ Zf trl k h2) := by
  refine ⟨Nat.le_of_ble_eq_true rfl, ?_⟩
  have hm := hP.1.2.2.1
  have hS := hP.1.1
  have hE := hP.1.2.1
  refine t_go (op := o_aload 1 0) (fe_X12_hall 0) (fun _ _ => rfl) ?_
  refine t_go (op := o_ci 2 0) (fe_X12_hall 1) (fun _ _ => rfl) ?_
  refine t_go (op := o_putI 5 11 0) (fe_X12_hall 2) (g_putI hS (show (lay 183).1 = 11 by decide) (by decide)) ?_
  have hz : Zf trl k (sI k 183 0 0) := Zf_thr Zf.rf
  have hS := (hP.zf hz).1.1
  have hE := (hP.zf hz).1.2.1
  refine t_go (op := o_aload 6 0) (fe_X12_hall 5) (fun _ _ => rfl) ?_
  refine t_go (op := o_iload 7 1) (fe_X12_hall 6) (fun _ _ => rfl) ?_
  refine t_call (op := o_callV 10 202 2 11) (fe_X12_hall 7) (g_callV hS (show (lay 183).1 = 11 by decide) (by decide) rfl rfl rfl (Nat.le_of_ble_eq_true rfl)) ?_
  refine M_eq (r_isEmber hS hE) ?_
  refine t_ite (op := o_if 13 30 (fun x => x = 0) (fun _ => inferInstance)) (fe_X12_hall 10) g_if (fun c1 => ?_) (fun c1 => ?_)
  · replace c1 := b2i_z c1
    refine t_go (op := o_ci 31 (-1)) (fe_X12_hall 30) (fun _ _ => rfl) ?_
    refine t_ret (op := o_iret) (fe_X12_hall 31) (fun _ _ => rfl) ?_
    exact ⟨rfl, hz⟩
  · exact absurd (b2i_nn c1) hn
theorem r_hallA {d : Nat} {k h : AHP} {m n g T : Nat} {F : FS} (hP : CP k h g n m) (hW : FW m T F) (hB0 : RB (k.1 197) 0 F) (hT : T < 90000) {e : Nat} (he : e < m) (hh : ¬ hasF F (nI e)) : MM (d + 3) 259 [.ref 183, .int (nI e)] k (fun v h2 => v = some (.int (-1)) ∧ Zf trl k h2) := by
  refine ⟨Nat.le_of_ble_eq_true rfl, ?_⟩
  have hm := hP.1.2.2.1
  have hS := hP.1.1
  have hE := hP.1.2.1
  refine t_go (op := o_aload 1 0) (fe_X12_hall 0) (fun _ _ => rfl) ?_
  refine t_go (op := o_ci 2 0) (fe_X12_hall 1) (fun _ _ => rfl) ?_
  refine t_go (op := o_putI 5 11 0) (fe_X12_hall 2) (g_putI hS (show (lay 183).1 = 11 by decide) (by decide)) ?_
  have hz : Zf trl k (sI k 183 0 0) := Zf_thr Zf.rf
  have hS := (hP.zf hz).1.1
  have hE := (hP.zf hz).1.2.1
  refine t_go (op := o_aload 6 0) (fe_X12_hall 5) (fun _ _ => rfl) ?_
  refine t_go (op := o_iload 7 1) (fe_X12_hall 6) (fun _ _ => rfl) ?_
  refine t_call (op := o_callV 10 202 2 11) (fe_X12_hall 7) (g_callV hS (show (lay 183).1 = 11 by decide) (by decide) rfl rfl rfl (Nat.le_of_ble_eq_true rfl)) ?_
  refine M_eq (r_isEmber hS hE) ?_
  refine t_ite (op := o_if 13 30 (fun x => x = 0) (fun _ => inferInstance)) (fe_X12_hall 10) g_if (fun c1 => ?_) (fun c1 => ?_)
  · exact absurd (isE he hm) (b2i_z c1)
  · replace c1 := b2i_nn c1
    refine t_go (op := o_aload 14 0) (fe_X12_hall 13) (fun _ _ => rfl) ?_
    refine t_go (op := o_ci 15 0) (fe_X12_hall 14) (fun _ _ => rfl) ?_
    refine t_go (op := o_iload 16 1) (fe_X12_hall 15) (fun _ _ => rfl) ?_
    refine t_call (op := o_callV 19 203 3 11) (fe_X12_hall 16) (g_callV hS (show (lay 183).1 = 11 by decide) (by decide) rfl rfl rfl (Nat.le_of_ble_eq_true rfl)) ?_
    refine M_eq (r_isThere (b := 0) hS hW.1 (hB0.zf hz trl0) (by decide) (e := e) (by omega)) ?_
    refine t_ite (op := o_if 22 30 (fun x => x = 0) (fun _ => inferInstance)) (fe_X12_hall 19) g_if (fun c2 => ?_) (fun c2 => ?_)
    · replace c2 := b2i_z c2
      refine t_go (op := o_ci 31 (-1)) (fe_X12_hall 30) (fun _ _ => rfl) ?_
      refine t_ret (op := o_iret) (fe_X12_hall 31) (fun _ _ => rfl) ?_
      exact ⟨rfl, hz⟩
    · exact absurd (b2i_nn c2) hh
theorem r_hall {d : Nat} {k h : AHP} {m n g T : Nat} {F : FS} (hP : CP k h g n m) (hW : FW m T F) (hB0 : RB (k.1 197) 0 F) (hT : T < 90000) {e : Nat} (he : e < m) (hh : hasF F (nI e)) : MM (d + 3) 259 [.ref 183, .int (nI e)] k (fun v h2 => v = some (.int (hallB F (nI e))) ∧ Zf trl k h2) := by
  refine ⟨Nat.le_of_ble_eq_true rfl, ?_⟩
  have hm := hP.1.2.2.1
  have hS := hP.1.1
  have hE := hP.1.2.1
  refine t_go (op := o_aload 1 0) (fe_X12_hall 0) (fun _ _ => rfl) ?_
  refine t_go (op := o_ci 2 0) (fe_X12_hall 1) (fun _ _ => rfl) ?_
  refine t_go (op := o_putI 5 11 0) (fe_X12_hall 2) (g_putI hS (show (lay 183).1 = 11 by decide) (by decide)) ?_
  have hz : Zf trl k (sI k 183 0 0) := Zf_thr Zf.rf
  have hS := (hP.zf hz).1.1
  have hE := (hP.zf hz).1.2.1
  refine t_go (op := o_aload 6 0) (fe_X12_hall 5) (fun _ _ => rfl) ?_
  refine t_go (op := o_iload 7 1) (fe_X12_hall 6) (fun _ _ => rfl) ?_
  refine t_call (op := o_callV 10 202 2 11) (fe_X12_hall 7) (g_callV hS (show (lay 183).1 = 11 by decide) (by decide) rfl rfl rfl (Nat.le_of_ble_eq_true rfl)) ?_
  refine M_eq (r_isEmber hS hE) ?_
  refine t_ite (op := o_if 13 30 (fun x => x = 0) (fun _ => inferInstance)) (fe_X12_hall 10) g_if (fun c1 => ?_) (fun c1 => ?_)
  · exact absurd (isE he hm) (b2i_z c1)
  · replace c1 := b2i_nn c1
    refine t_go (op := o_aload 14 0) (fe_X12_hall 13) (fun _ _ => rfl) ?_
    refine t_go (op := o_ci 15 0) (fe_X12_hall 14) (fun _ _ => rfl) ?_
    refine t_go (op := o_iload 16 1) (fe_X12_hall 15) (fun _ _ => rfl) ?_
    refine t_call (op := o_callV 19 203 3 11) (fe_X12_hall 16) (g_callV hS (show (lay 183).1 = 11 by decide) (by decide) rfl rfl rfl (Nat.le_of_ble_eq_true rfl)) ?_
    refine M_eq (r_isThere (b := 0) hS hW.1 (hB0.zf hz trl0) (by decide) (e := e) (by omega)) ?_
    refine t_ite (op := o_if 22 30 (fun x => x = 0) (fun _ => inferInstance)) (fe_X12_hall 19) g_if (fun c2 => ?_) (fun c2 => ?_)
    · exact absurd hh (b2i_z c2)
    · replace c2 := b2i_nn c2
      refine t_go (op := o_aload 23 0) (fe_X12_hall 22) (fun _ _ => rfl) ?_
      refine t_go (op := o_iload 24 1) (fe_X12_hall 23) (fun _ _ => rfl) ?_
      refine t_call (op := o_callV 27 258 2 11) (fe_X12_hall 24) (g_callV hS (show (lay 183).1 = 11 by decide) (by decide) rfl rfl rfl (Nat.le_of_ble_eq_true rfl)) ?_
      refine M_eq (r_hallOf hS hE hm hW.1 (hB0.zf hz trl0) (e := e) (by omega)) ?_
      refine t_go (op := o_goto 31) (fe_X12_hall 27) (fun _ _ => rfl) ?_
      refine t_ret (op := o_iret) (fe_X12_hall 31) (fun _ _ => rfl) ?_
      exact ⟨by rw [hallR_eq hW.1 hm (by omega) hh], hz⟩
noncomputable def loneS (F : FS) (e : Nat) (s : Int32) : Int32 := @ite _ (hasF F (nI e) ∧ touchB F (nI e) = 0) (Classical.propDecidable _) (s ||| (1 <<< (nI e &&& 31))) s
theorem lone_m {m : Nat} {F : FS} (hV : FV m F) (hm : m ≤ 7) : it (loneS F) 7 0 0 = it (loneS F) m 0 0 := it_more hm fun t s h1 h2 => if_neg fun q => FV_no hV h2 h1 q.1
noncomputable def hallsS (F : FS) (e : Nat) (s : Int32) : Int32 := @ite _ (hasF F (nI e) ∧ hallB F (nI e) &&& ((1 <<< (nI e &&& 31)) - 1) = 0) (Classical.propDecidable _) (s + 1) s
theorem halls_m {m : Nat} {F : FS} (hV : FV m F) (hm : m ≤ 7) : it (hallsS F) 7 0 0 = it (hallsS F) m 0 0 := it_more hm fun t s h1 h2 => if_neg fun q => FV_no hV h2 h1 q.1
theorem lr_lone {d : Nat} {k : AHP} {m : Nat} {F : FS} (hS : Std k) (hE : k.1 189 0 = nI m) (hm : m ≤ 7) (hV : FV m F) (hB : RB (k.1 197) 0 F) {Q : Option Value → AHP → Prop} : ∀ (j i : Nat) (s : Int32), i + j = m → Q (some (.int (it (loneS F) j i s))) k → TT (d + 2) 256 9 [some (.ref 183), some (.int s), some (.int (nI i))] [] k Q := by
  intro j
  induction j with
  | zero =>
    intro i s hi  hq
    have hN : i = m := by omega
    refine t_go (op := o_iload 10 2) (fe_X12_lone 9) (fun _ _ => rfl) ?_
    refine t_go (op := o_aload 11 0) (fe_X12_lone 10) (fun _ _ => rfl) ?_
    refine t_call (op := o_callV 14 200 1 11) (fe_X12_lone 11) (g_callV hS (show (lay 183).1 = 11 by decide) (by decide) rfl rfl rfl (Nat.le_of_ble_eq_true rfl)) ?_
    refine M_eq (r_embers hS hE) ?_
    refine t_ite (op := o_icmp 17 51 (fun x y => y ≤ x) (fun _ _ => inferInstance)) (fe_X12_lone 14) g_icmp (fun c1 => ?_) (fun c1 => ?_)
    · refine t_go (op := o_iload 52 1) (fe_X12_lone 51) (fun _ _ => rfl) ?_
      refine t_ret (op := o_iret) (fe_X12_lone 52) (fun _ _ => rfl) ?_
      exact hq
    · exact absurd (by rw [hN]; exact Int32.le_refl _) c1
  | succ j ih =>
    intro i s hi  hq
    have hi7 : i < m := by omega
    refine t_go (op := o_iload 10 2) (fe_X12_lone 9) (fun _ _ => rfl) ?_
    refine t_go (op := o_aload 11 0) (fe_X12_lone 10) (fun _ _ => rfl) ?_
    refine t_call (op := o_callV 14 200 1 11) (fe_X12_lone 11) (g_callV hS (show (lay 183).1 = 11 by decide) (by decide) rfl rfl rfl (Nat.le_of_ble_eq_true rfl)) ?_
    refine M_eq (r_embers hS hE) ?_
    refine t_ite (op := o_icmp 17 51 (fun x y => y ≤ x) (fun _ _ => inferInstance)) (fe_X12_lone 14) g_icmp (fun c1 => ?_) (fun c1 => ?_)
    · exact absurd c1 (nI_ge hi7 (by omega))
    · refine t_go (op := o_iload 18 1) (fe_X12_lone 17) (fun _ _ => rfl) ?_
      refine t_go (op := o_aload 19 0) (fe_X12_lone 18) (fun _ _ => rfl) ?_
      refine t_go (op := o_ci 20 0) (fe_X12_lone 19) (fun _ _ => rfl) ?_
      refine t_go (op := o_iload 21 2) (fe_X12_lone 20) (fun _ _ => rfl) ?_
      refine t_call (op := o_callV 24 203 3 11) (fe_X12_lone 21) (g_callV hS (show (lay 183).1 = 11 by decide) (by decide) rfl rfl rfl (Nat.le_of_ble_eq_true rfl)) ?_
      refine M_eq (r_isThere (b := 0) hS hV hB (by decide) (e := i) (by omega)) ?_
      refine t_ite (op := o_if 27 42 (fun x => x = 0) (fun _ => inferInstance)) (fe_X12_lone 24) g_if (fun c2 => ?_) (fun c2 => ?_)
      · replace c2 := b2i_z c2
        refine t_go (op := o_ci 43 0) (fe_X12_lone 42) (fun _ _ => rfl) ?_
        refine t_go (op := o_i2 44 (fun x y => x ||| y)) (fe_X12_lone 43) (fun _ _ => rfl) ?_
        refine t_go (op := o_istore 45 1) (fe_X12_lone 44) (fun _ _ => rfl) ?_
        refine t_go (op := o_iinc 48 2 1) (fe_X12_lone 45) (fun _ _ => rfl) ?_
        refine t_go (op := o_goto 9) (fe_X12_lone 48) (fun _ _ => rfl) ?_
        rw [it_step, loneS, if_neg fun q => c2 q.1] at hq
        rw [← Int32.or_zero (a := s)] at hq
        rw [nI_1]
        exact ih (i + 1) _ (by omega) hq
      · replace c2 := b2i_nn c2
        refine t_go (op := o_aload 28 0) (fe_X12_lone 27) (fun _ _ => rfl) ?_
        refine t_go (op := o_ci 29 0) (fe_X12_lone 28) (fun _ _ => rfl) ?_
        refine t_go (op := o_iload 30 2) (fe_X12_lone 29) (fun _ _ => rfl) ?_
        refine t_call (op := o_callV 33 208 3 11) (fe_X12_lone 30) (g_callV hS (show (lay 183).1 = 11 by decide) (by decide) rfl rfl rfl (Nat.le_of_ble_eq_true rfl)) ?_
        refine M_eq (r_touchOf (b := 0) hS hV hB (by decide) hm hE (e := i) (by omega)) ?_
        refine t_ite (op := o_if 42 36 (fun x => x = 0) (fun _ => inferInstance)) (fe_X12_lone 33) g_if (fun c3 => ?_) (fun c3 => ?_)
        · refine t_go (op := o_ci 37 1) (fe_X12_lone 36) (fun _ _ => rfl) ?_
          refine t_go (op := o_iload 38 2) (fe_X12_lone 37) (fun _ _ => rfl) ?_
          refine t_go (op := o_i2 39 (fun x y => x <<< (y &&& 31))) (fe_X12_lone 38) (fun _ _ => rfl) ?_
          refine t_go (op := o_goto 43) (fe_X12_lone 39) (fun _ _ => rfl) ?_
          refine t_go (op := o_i2 44 (fun x y => x ||| y)) (fe_X12_lone 43) (fun _ _ => rfl) ?_
          refine t_go (op := o_istore 45 1) (fe_X12_lone 44) (fun _ _ => rfl) ?_
          refine t_go (op := o_iinc 48 2 1) (fe_X12_lone 45) (fun _ _ => rfl) ?_
          refine t_go (op := o_goto 9) (fe_X12_lone 48) (fun _ _ => rfl) ?_
          rw [it_step, loneS, if_pos ⟨c2, c3⟩] at hq
          rw [nI_1]
          exact ih (i + 1) _ (by omega) hq
        · refine t_go (op := o_ci 43 0) (fe_X12_lone 42) (fun _ _ => rfl) ?_
          refine t_go (op := o_i2 44 (fun x y => x ||| y)) (fe_X12_lone 43) (fun _ _ => rfl) ?_
          refine t_go (op := o_istore 45 1) (fe_X12_lone 44) (fun _ _ => rfl) ?_
          refine t_go (op := o_iinc 48 2 1) (fe_X12_lone 45) (fun _ _ => rfl) ?_
          refine t_go (op := o_goto 9) (fe_X12_lone 48) (fun _ _ => rfl) ?_
          rw [it_step, loneS, if_neg fun q => c3 q.2] at hq
          rw [← Int32.or_zero (a := s)] at hq
          rw [nI_1]
          exact ih (i + 1) _ (by omega) hq
theorem r_lone {d : Nat} {k h : AHP} {m n g T : Nat} {F : FS} (hP : CP k h g n m) (hW : FW m T F) (hB0 : RB (k.1 197) 0 F) (hT : T < 90000)  : MM (d + 2) 256 [.ref 183] k (fun v h2 => v = some (.int (it (loneS F) 7 0 0)) ∧ Zf trl k h2) := by
  refine ⟨Nat.le_of_ble_eq_true rfl, ?_⟩
  have hm := hP.1.2.2.1
  have hS := hP.1.1
  have hE := hP.1.2.1
  refine t_go (op := o_aload 1 0) (fe_X12_lone 0) (fun _ _ => rfl) ?_
  refine t_go (op := o_ci 2 0) (fe_X12_lone 1) (fun _ _ => rfl) ?_
  refine t_go (op := o_putI 5 11 0) (fe_X12_lone 2) (g_putI hS (show (lay 183).1 = 11 by decide) (by decide)) ?_
  have hz : Zf trl k (sI k 183 0 0) := Zf_thr Zf.rf
  have hS := (hP.zf hz).1.1
  have hE := (hP.zf hz).1.2.1
  refine t_go (op := o_ci 6 0) (fe_X12_lone 5) (fun _ _ => rfl) ?_
  refine t_go (op := o_istore 7 1) (fe_X12_lone 6) (fun _ _ => rfl) ?_
  refine t_go (op := o_ci 8 0) (fe_X12_lone 7) (fun _ _ => rfl) ?_
  refine t_go (op := o_istore 9 2) (fe_X12_lone 8) (fun _ _ => rfl) ?_
  exact lr_lone hS hE hm hW.1 (hB0.zf hz trl0) m 0 0 (by omega) ⟨by rw [lone_m hW.1 hm], hz⟩
theorem lr_halls {d : Nat} {k : AHP} {m : Nat} {F : FS} (hS : Std k) (hE : k.1 189 0 = nI m) (hm : m ≤ 7) (hV : FV m F) (hB : RB (k.1 197) 0 F) {Q : Option Value → AHP → Prop} : ∀ (j i : Nat) (s : Int32), i + j = m → Q (some (.int (it (hallsS F) j i s))) k → TT (d + 3) 260 9 [some (.ref 183), some (.int s), some (.int (nI i))] [] k Q := by
  intro j
  induction j with
  | zero =>
    intro i s hi  hq
    have hN : i = m := by omega
    refine t_go (op := o_iload 10 2) (fe_X12_halls 9) (fun _ _ => rfl) ?_
    refine t_go (op := o_aload 11 0) (fe_X12_halls 10) (fun _ _ => rfl) ?_
    refine t_call (op := o_callV 14 200 1 11) (fe_X12_halls 11) (g_callV hS (show (lay 183).1 = 11 by decide) (by decide) rfl rfl rfl (Nat.le_of_ble_eq_true rfl)) ?_
    refine M_eq (r_embers hS hE) ?_
    refine t_ite (op := o_icmp 17 54 (fun x y => y ≤ x) (fun _ _ => inferInstance)) (fe_X12_halls 14) g_icmp (fun c1 => ?_) (fun c1 => ?_)
    · refine t_go (op := o_iload 55 1) (fe_X12_halls 54) (fun _ _ => rfl) ?_
      refine t_ret (op := o_iret) (fe_X12_halls 55) (fun _ _ => rfl) ?_
      exact hq
    · exact absurd (by rw [hN]; exact Int32.le_refl _) c1
  | succ j ih =>
    intro i s hi  hq
    have hi7 : i < m := by omega
    refine t_go (op := o_iload 10 2) (fe_X12_halls 9) (fun _ _ => rfl) ?_
    refine t_go (op := o_aload 11 0) (fe_X12_halls 10) (fun _ _ => rfl) ?_
    refine t_call (op := o_callV 14 200 1 11) (fe_X12_halls 11) (g_callV hS (show (lay 183).1 = 11 by decide) (by decide) rfl rfl rfl (Nat.le_of_ble_eq_true rfl)) ?_
    refine M_eq (r_embers hS hE) ?_
    refine t_ite (op := o_icmp 17 54 (fun x y => y ≤ x) (fun _ _ => inferInstance)) (fe_X12_halls 14) g_icmp (fun c1 => ?_) (fun c1 => ?_)
    · exact absurd c1 (nI_ge hi7 (by omega))
    · refine t_go (op := o_iload 18 1) (fe_X12_halls 17) (fun _ _ => rfl) ?_
      refine t_go (op := o_aload 19 0) (fe_X12_halls 18) (fun _ _ => rfl) ?_
      refine t_go (op := o_ci 20 0) (fe_X12_halls 19) (fun _ _ => rfl) ?_
      refine t_go (op := o_iload 21 2) (fe_X12_halls 20) (fun _ _ => rfl) ?_
      refine t_call (op := o_callV 24 203 3 11) (fe_X12_halls 21) (g_callV hS (show (lay 183).1 = 11 by decide) (by decide) rfl rfl rfl (Nat.le_of_ble_eq_true rfl)) ?_
      refine M_eq (r_isThere (b := 0) hS hV hB (by decide) (e := i) (by omega)) ?_
      refine t_ite (op := o_if 27 45 (fun x => x = 0) (fun _ => inferInstance)) (fe_X12_halls 24) g_if (fun c2 => ?_) (fun c2 => ?_)
      · replace c2 := b2i_z c2
        refine t_go (op := o_ci 46 0) (fe_X12_halls 45) (fun _ _ => rfl) ?_
        refine t_go (op := o_i2 47 (fun x y => x + y)) (fe_X12_halls 46) (fun _ _ => rfl) ?_
        refine t_go (op := o_istore 48 1) (fe_X12_halls 47) (fun _ _ => rfl) ?_
        refine t_go (op := o_iinc 51 2 1) (fe_X12_halls 48) (fun _ _ => rfl) ?_
        refine t_go (op := o_goto 9) (fe_X12_halls 51) (fun _ _ => rfl) ?_
        rw [it_step, hallsS, if_neg fun q => c2 q.1] at hq
        rw [← Int32.add_zero (a := s)] at hq
        rw [nI_1]
        exact ih (i + 1) _ (by omega) hq
      · replace c2 := b2i_nn c2
        refine t_go (op := o_aload 28 0) (fe_X12_halls 27) (fun _ _ => rfl) ?_
        refine t_go (op := o_iload 29 2) (fe_X12_halls 28) (fun _ _ => rfl) ?_
        refine t_call (op := o_callV 32 258 2 11) (fe_X12_halls 29) (g_callV hS (show (lay 183).1 = 11 by decide) (by decide) rfl rfl rfl (Nat.le_of_ble_eq_true rfl)) ?_
        refine M_eq (r_hallOf hS hE hm hV hB (e := i) (by omega)) ?_
        rw [hallR_eq hV hm (by omega) c2]
        refine t_go (op := o_ci 33 1) (fe_X12_halls 32) (fun _ _ => rfl) ?_
        refine t_go (op := o_iload 34 2) (fe_X12_halls 33) (fun _ _ => rfl) ?_
        refine t_go (op := o_i2 35 (fun x y => x <<< (y &&& 31))) (fe_X12_halls 34) (fun _ _ => rfl) ?_
        refine t_go (op := o_ci 36 1) (fe_X12_halls 35) (fun _ _ => rfl) ?_
        refine t_go (op := o_i2 37 (fun x y => x - y)) (fe_X12_halls 36) (fun _ _ => rfl) ?_
        refine t_go (op := o_i2 38 (fun x y => x &&& y)) (fe_X12_halls 37) (fun _ _ => rfl) ?_
        refine t_ite (op := o_if 45 41 (fun x => x = 0) (fun _ => inferInstance)) (fe_X12_halls 38) g_if (fun c3 => ?_) (fun c3 => ?_)
        · refine t_go (op := o_ci 42 1) (fe_X12_halls 41) (fun _ _ => rfl) ?_
          refine t_go (op := o_goto 46) (fe_X12_halls 42) (fun _ _ => rfl) ?_
          refine t_go (op := o_i2 47 (fun x y => x + y)) (fe_X12_halls 46) (fun _ _ => rfl) ?_
          refine t_go (op := o_istore 48 1) (fe_X12_halls 47) (fun _ _ => rfl) ?_
          refine t_go (op := o_iinc 51 2 1) (fe_X12_halls 48) (fun _ _ => rfl) ?_
          refine t_go (op := o_goto 9) (fe_X12_halls 51) (fun _ _ => rfl) ?_
          rw [it_step, hallsS, if_pos ⟨c2, c3⟩] at hq
          rw [nI_1]
          exact ih (i + 1) _ (by omega) hq
        · refine t_go (op := o_ci 46 0) (fe_X12_halls 45) (fun _ _ => rfl) ?_
          refine t_go (op := o_i2 47 (fun x y => x + y)) (fe_X12_halls 46) (fun _ _ => rfl) ?_
          refine t_go (op := o_istore 48 1) (fe_X12_halls 47) (fun _ _ => rfl) ?_
          refine t_go (op := o_iinc 51 2 1) (fe_X12_halls 48) (fun _ _ => rfl) ?_
          refine t_go (op := o_goto 9) (fe_X12_halls 51) (fun _ _ => rfl) ?_
          rw [it_step, hallsS, if_neg fun q => c3 q.2] at hq
          rw [← Int32.add_zero (a := s)] at hq
          rw [nI_1]
          exact ih (i + 1) _ (by omega) hq
theorem r_halls {d : Nat} {k h : AHP} {m n g T : Nat} {F : FS} (hP : CP k h g n m) (hW : FW m T F) (hB0 : RB (k.1 197) 0 F) (hT : T < 90000)  : MM (d + 3) 260 [.ref 183] k (fun v h2 => v = some (.int (it (hallsS F) 7 0 0)) ∧ Zf trl k h2) := by
  refine ⟨Nat.le_of_ble_eq_true rfl, ?_⟩
  have hm := hP.1.2.2.1
  have hS := hP.1.1
  have hE := hP.1.2.1
  refine t_go (op := o_aload 1 0) (fe_X12_halls 0) (fun _ _ => rfl) ?_
  refine t_go (op := o_ci 2 0) (fe_X12_halls 1) (fun _ _ => rfl) ?_
  refine t_go (op := o_putI 5 11 0) (fe_X12_halls 2) (g_putI hS (show (lay 183).1 = 11 by decide) (by decide)) ?_
  have hz : Zf trl k (sI k 183 0 0) := Zf_thr Zf.rf
  have hS := (hP.zf hz).1.1
  have hE := (hP.zf hz).1.2.1
  refine t_go (op := o_ci 6 0) (fe_X12_halls 5) (fun _ _ => rfl) ?_
  refine t_go (op := o_istore 7 1) (fe_X12_halls 6) (fun _ _ => rfl) ?_
  refine t_go (op := o_ci 8 0) (fe_X12_halls 7) (fun _ _ => rfl) ?_
  refine t_go (op := o_istore 9 2) (fe_X12_halls 8) (fun _ _ => rfl) ?_
  exact lr_halls hS hE hm hW.1 (hB0.zf hz trl0) m 0 0 (by omega) ⟨by rw [halls_m hW.1 hm], hz⟩
theorem M_args {d k : Nat} {as as2 : List Value} {h : AHP} {P : Option Value → AHP → Prop} (e : as = as2) (hm : MM d k as2 h P) : MM d k as h P := by rw [e]; exact hm
def towS (F : FS) (c : Nat) (s : Int32) : Int32 := if towV F c ≤ s then s else towV F c
theorem lie_m1 {m c : Nat} {F : FS} (hV : FV m F) (hc : c < 12) : F.2.2.2.1 c < 0 ↔ F.2.2.2.1 c = -1 := by rw [lie_neg hV hc, free_n hc]
theorem lr_towI {d : Nat} {k : AHP} {m : Nat} {F : FS} (hS : Std k) (hE : k.1 189 0 = nI m) (hm : m ≤ 7) (hV : FV m F) (hB : RB (k.1 197) 0 F) {y : Int32} {c : Nat} (hc : c < 4) {Q : Option Value → AHP → Prop} : ∀ (j i : Nat) (_ : Unit), i + j = 3 → (∀ t, t ≤ 3 → nI t = towI F.2.2.2.1 c j i → TT (d + 2) 261 40 [some (.ref 183), some (.int y), some (.int (nI c)), some (.int (nI t))] [] k Q) → TT (d + 2) 261 16 [some (.ref 183), some (.int y), some (.int (nI c)), some (.int (nI i))] [] k Q := by
  intro j
  induction j with
  | zero =>
    intro i _ hi  hq
    have hN : i = 3 := by omega
    refine t_go (op := o_iload 17 3) (fe_X12_tower 16) (fun _ _ => rfl) ?_
    refine t_go (op := o_ci 18 3) (fe_X12_tower 17) (fun _ _ => rfl) ?_
    refine t_ite (op := o_icmp 21 40 (fun x y => y ≤ x) (fun _ _ => inferInstance)) (fe_X12_tower 18) g_icmp (fun c1 => ?_) (fun c1 => ?_)
    · exact hq i (by omega) rfl
    · exact absurd (by rw [hN]; exact Int32.le_refl _) c1
  | succ j ih =>
    intro i _ hi  hq
    have hi7 : i < 3 := by omega
    refine t_go (op := o_iload 17 3) (fe_X12_tower 16) (fun _ _ => rfl) ?_
    refine t_go (op := o_ci 18 3) (fe_X12_tower 17) (fun _ _ => rfl) ?_
    refine t_ite (op := o_icmp 21 40 (fun x y => y ≤ x) (fun _ _ => inferInstance)) (fe_X12_tower 18) g_icmp (fun c1 => ?_) (fun c1 => ?_)
    · exact absurd c1 (nI_ge hi7 (by decide))
    · refine t_go (op := o_aload 22 0) (fe_X12_tower 21) (fun _ _ => rfl) ?_
      refine t_go (op := o_ci 23 0) (fe_X12_tower 22) (fun _ _ => rfl) ?_
      refine t_go (op := o_iload 24 2) (fe_X12_tower 23) (fun _ _ => rfl) ?_
      refine t_go (op := o_ci 25 4) (fe_X12_tower 24) (fun _ _ => rfl) ?_
      refine t_go (op := o_iload 26 3) (fe_X12_tower 25) (fun _ _ => rfl) ?_
      refine t_go (op := o_i2 27 (fun x y => x * y)) (fe_X12_tower 26) (fun _ _ => rfl) ?_
      refine t_go (op := o_i2 28 (fun x y => x + y)) (fe_X12_tower 27) (fun _ _ => rfl) ?_
      refine t_call (op := o_callV 31 206 3 11) (fe_X12_tower 28) (g_callV hS (show (lay 183).1 = 11 by decide) (by decide) rfl rfl rfl (Nat.le_of_ble_eq_true rfl)) ?_
      refine M_args (congrArg (fun z => [Value.ref 183, Value.int 0, Value.int z]) (nIa rfl (nIm (nIl 4) rfl))) ?_
      refine M_eq (r_lyingIn (b := 0) hS hV hB (by decide) hm hE (c := (c + (4 * i))) (by omega)) ?_
      refine t_ite (op := o_if 34 40 (fun x => x < 0) (fun _ => inferInstance)) (fe_X12_tower 31) g_if (fun c2 => ?_) (fun c2 => ?_)
      · exact hq i (by omega) (by rw [towI, if_pos ((lie_m1 hV (by omega)).mp c2)])
      · refine t_go (op := o_iinc 37 3 1) (fe_X12_tower 34) (fun _ _ => rfl) ?_
        refine t_go (op := o_goto 16) (fe_X12_tower 37) (fun _ _ => rfl) ?_
        rw [nI_1]
        refine ih (i + 1) () (by omega) fun t h1 h2 => hq t h1 ?_
        rw [towI, if_neg (fun q => c2 ((lie_m1 hV (by omega)).mpr q))]
        exact h2
theorem lr_towO {d : Nat} {k : AHP} {m : Nat} {F : FS} (hS : Std k) (hE : k.1 189 0 = nI m) (hm : m ≤ 7) (hV : FV m F) (hB : RB (k.1 197) 0 F) {Q : Option Value → AHP → Prop} : ∀ (j i : Nat) (s : Int32) (x3 : Option Value), i + j = 4 → Q (some (.int (it (towS F) j i s))) k → TT (d + 2) 261 9 [some (.ref 183), some (.int s), some (.int (nI i)), x3] [] k Q := by
  intro j
  induction j with
  | zero =>
    intro i s x3 hi  hq
    have hN : i = 4 := by omega
    refine t_go (op := o_iload 10 2) (fe_X12_tower 9) (fun _ _ => rfl) ?_
    refine t_go (op := o_ci 11 4) (fe_X12_tower 10) (fun _ _ => rfl) ?_
    refine t_ite (op := o_icmp 14 57 (fun x y => y ≤ x) (fun _ _ => inferInstance)) (fe_X12_tower 11) g_icmp (fun c1 => ?_) (fun c1 => ?_)
    · refine t_go (op := o_iload 58 1) (fe_X12_tower 57) (fun _ _ => rfl) ?_
      refine t_ret (op := o_iret) (fe_X12_tower 58) (fun _ _ => rfl) ?_
      exact hq
    · exact absurd (by rw [hN]; exact Int32.le_refl _) c1
  | succ j ih =>
    intro i s x3 hi  hq
    have hi7 : i < 4 := by omega
    refine t_go (op := o_iload 10 2) (fe_X12_tower 9) (fun _ _ => rfl) ?_
    refine t_go (op := o_ci 11 4) (fe_X12_tower 10) (fun _ _ => rfl) ?_
    refine t_ite (op := o_icmp 14 57 (fun x y => y ≤ x) (fun _ _ => inferInstance)) (fe_X12_tower 11) g_icmp (fun c1 => ?_) (fun c1 => ?_)
    · exact absurd c1 (nI_ge hi7 (by decide))
    · refine t_go (op := o_ci 15 0) (fe_X12_tower 14) (fun _ _ => rfl) ?_
      refine t_go (op := o_istore 16 3) (fe_X12_tower 15) (fun _ _ => rfl) ?_
      refine lr_towI hS hE hm hV hB (c := i) (by omega) 3 0 () (by omega) fun t ht et => ?_
      refine t_go (op := o_iload 41 3) (fe_X12_tower 40) (fun _ _ => rfl) ?_
      refine t_go (op := o_iload 42 1) (fe_X12_tower 41) (fun _ _ => rfl) ?_
      refine t_ite (op := o_icmp 45 49 (fun x y => x ≤ y) (fun _ _ => inferInstance)) (fe_X12_tower 42) g_icmp (fun c2 => ?_) (fun c2 => ?_)
      · refine t_go (op := o_iload 50 1) (fe_X12_tower 49) (fun _ _ => rfl) ?_
        refine t_go (op := o_istore 51 1) (fe_X12_tower 50) (fun _ _ => rfl) ?_
        refine t_go (op := o_iinc 54 2 1) (fe_X12_tower 51) (fun _ _ => rfl) ?_
        refine t_go (op := o_goto 9) (fe_X12_tower 54) (fun _ _ => rfl) ?_
        rw [it_step, towS, show towV F i = nI t from et.symm, if_pos c2] at hq
        rw [nI_1]
        exact ih (i + 1) _ _ (by omega) hq
      · refine t_go (op := o_iload 46 3) (fe_X12_tower 45) (fun _ _ => rfl) ?_
        refine t_go (op := o_goto 50) (fe_X12_tower 46) (fun _ _ => rfl) ?_
        refine t_go (op := o_istore 51 1) (fe_X12_tower 50) (fun _ _ => rfl) ?_
        refine t_go (op := o_iinc 54 2 1) (fe_X12_tower 51) (fun _ _ => rfl) ?_
        refine t_go (op := o_goto 9) (fe_X12_tower 54) (fun _ _ => rfl) ?_
        rw [it_step, towS, show towV F i = nI t from et.symm, if_neg c2] at hq
        rw [nI_1]
        exact ih (i + 1) _ _ (by omega) hq
theorem r_tower {d : Nat} {k h : AHP} {m n g T : Nat} {F : FS} (hP : CP k h g n m) (hW : FW m T F) (hB0 : RB (k.1 197) 0 F) (hT : T < 90000)  : MM (d + 2) 261 [.ref 183] k (fun v h2 => v = some (.int (it (towS F) 4 0 0)) ∧ Zf trl k h2) := by
  refine ⟨Nat.le_of_ble_eq_true rfl, ?_⟩
  have hm := hP.1.2.2.1
  have hS := hP.1.1
  have hE := hP.1.2.1
  refine t_go (op := o_aload 1 0) (fe_X12_tower 0) (fun _ _ => rfl) ?_
  refine t_go (op := o_ci 2 0) (fe_X12_tower 1) (fun _ _ => rfl) ?_
  refine t_go (op := o_putI 5 11 0) (fe_X12_tower 2) (g_putI hS (show (lay 183).1 = 11 by decide) (by decide)) ?_
  have hz : Zf trl k (sI k 183 0 0) := Zf_thr Zf.rf
  have hS := (hP.zf hz).1.1
  have hE := (hP.zf hz).1.2.1
  refine t_go (op := o_ci 6 0) (fe_X12_tower 5) (fun _ _ => rfl) ?_
  refine t_go (op := o_istore 7 1) (fe_X12_tower 6) (fun _ _ => rfl) ?_
  refine t_go (op := o_ci 8 0) (fe_X12_tower 7) (fun _ _ => rfl) ?_
  refine t_go (op := o_istore 9 2) (fe_X12_tower 8) (fun _ _ => rfl) ?_
  exact lr_towO hS hE hm hW.1 (hB0.zf hz trl0) 4 0 0 _ (by omega) ⟨rfl, hz⟩
noncomputable def wmV (F : FS) (c : Nat) : Int32 := @ite _ (freeF F (nI c)) (Classical.propDecidable _) (it (besideS F (besV (nI c))) 7 0 0) 0
theorem bes_m {m : Nat} {b : Int32} {F : FS} (hV : FV m F) (hm : m ≤ 7) : it (besideS F b) 7 0 0 = it (besideS F b) m 0 0 := it_more hm fun t s h1 h2 => if_neg fun q => FV_no hV h2 h1 q.1
theorem warm_inv {F : FS} : ∀ (j i : Nat) (s : Int32 × Int32), 0 ≤ s.2 → 0 ≤ (it (bestS (wmV F)) j i s).2 := fun j i s h => it_inv (P := fun s : Int32 × Int32 => 0 ≤ s.2) (fun t s hs => by
  unfold bestS
  by_cases hc : wmV F t ≤ s.2
  · rw [if_pos hc]; exact hs
  · rw [if_neg hc]; exact Int32.le_trans hs (Int32.le_of_lt (Int32.not_le.mp hc))) j i s h
theorem lr_warmI {d : Nat} {k : AHP} {m : Nat} {F : FS} (hS : Std k) (hE : k.1 189 0 = nI m) (hm : m ≤ 7) (hV : FV m F) (hB : RB (k.1 197) 0 F) {a b : Int32} {c : Nat} (hc : c < 12) {Q : Option Value → AHP → Prop} : ∀ (j i : Nat) (s : Int32), i + j = m → TT (d + 2) 257 83 [some (.ref 183), some (.int a), some (.int b), some (.int (nI c)), some (.int (it (besideS F (besV (nI c))) j i s)), some (.int (nI m))] [] k Q → TT (d + 2) 257 23 [some (.ref 183), some (.int a), some (.int b), some (.int (nI c)), some (.int s), some (.int (nI i))] [] k Q := by
  intro j
  induction j with
  | zero =>
    intro i s hi  hq
    have hN : i = m := by omega
    refine t_go (op := o_iload 25 5) (fe_X12_warmest 23) (fun _ _ => rfl) ?_
    refine t_go (op := o_aload 26 0) (fe_X12_warmest 25) (fun _ _ => rfl) ?_
    refine t_call (op := o_callV 29 200 1 11) (fe_X12_warmest 26) (g_callV hS (show (lay 183).1 = 11 by decide) (by decide) rfl rfl rfl (Nat.le_of_ble_eq_true rfl)) ?_
    refine M_eq (r_embers hS hE) ?_
    refine t_ite (op := o_icmp 32 83 (fun x y => y ≤ x) (fun _ _ => inferInstance)) (fe_X12_warmest 29) g_icmp (fun c1 => ?_) (fun c1 => ?_)
    · have eN : nI i = nI m := by rw [hN]
      rw [eN]
      exact hq
    · exact absurd (by rw [hN]; exact Int32.le_refl _) c1
  | succ j ih =>
    intro i s hi  hq
    have hi7 : i < m := by omega
    refine t_go (op := o_iload 25 5) (fe_X12_warmest 23) (fun _ _ => rfl) ?_
    refine t_go (op := o_aload 26 0) (fe_X12_warmest 25) (fun _ _ => rfl) ?_
    refine t_call (op := o_callV 29 200 1 11) (fe_X12_warmest 26) (g_callV hS (show (lay 183).1 = 11 by decide) (by decide) rfl rfl rfl (Nat.le_of_ble_eq_true rfl)) ?_
    refine M_eq (r_embers hS hE) ?_
    refine t_ite (op := o_icmp 32 83 (fun x y => y ≤ x) (fun _ _ => inferInstance)) (fe_X12_warmest 29) g_icmp (fun c1 => ?_) (fun c1 => ?_)
    · exact absurd c1 (nI_ge hi7 (by omega))
    · refine t_go (op := o_iload 34 4) (fe_X12_warmest 32) (fun _ _ => rfl) ?_
      refine t_go (op := o_aload 35 0) (fe_X12_warmest 34) (fun _ _ => rfl) ?_
      refine t_go (op := o_ci 36 0) (fe_X12_warmest 35) (fun _ _ => rfl) ?_
      refine t_go (op := o_iload 38 5) (fe_X12_warmest 36) (fun _ _ => rfl) ?_
      refine t_call (op := o_callV 41 203 3 11) (fe_X12_warmest 38) (g_callV hS (show (lay 183).1 = 11 by decide) (by decide) rfl rfl rfl (Nat.le_of_ble_eq_true rfl)) ?_
      refine M_eq (r_isThere (b := 0) hS hV hB (by decide) (e := i) (by omega)) ?_
      refine t_ite (op := o_if 44 73 (fun x => x = 0) (fun _ => inferInstance)) (fe_X12_warmest 41) g_if (fun c2 => ?_) (fun c2 => ?_)
      · replace c2 := b2i_z c2
        refine t_go (op := o_ci 74 0) (fe_X12_warmest 73) (fun _ _ => rfl) ?_
        refine t_go (op := o_i2 75 (fun x y => x + y)) (fe_X12_warmest 74) (fun _ _ => rfl) ?_
        refine t_go (op := o_istore 77 4) (fe_X12_warmest 75) (fun _ _ => rfl) ?_
        refine t_go (op := o_iinc 80 5 1) (fe_X12_warmest 77) (fun _ _ => rfl) ?_
        refine t_go (op := o_goto 23) (fe_X12_warmest 80) (fun _ _ => rfl) ?_
        have eS : besideS F (besV (nI c)) i s = _ := if_neg fun q => c2 q.1
        rw [it_step, eS] at hq
        rw [← Int32.add_zero (a := s)] at hq
        rw [nI_1]
        exact ih (i + 1) _ (by omega) hq
      · replace c2 := b2i_nn c2
        refine t_go (op := o_iload 45 3) (fe_X12_warmest 44) (fun _ _ => rfl) ?_
        refine t_go (op := o_aload 46 0) (fe_X12_warmest 45) (fun _ _ => rfl) ?_
        refine t_go (op := o_getR 49 11 22) (fe_X12_warmest 46) (g_getR hS (show (lay 183).1 = 11 by decide) (by decide) (fr_11_22 hS) (by decide)) ?_
        refine t_go (op := o_ci 50 2) (fe_X12_warmest 49) (fun _ _ => rfl) ?_
        refine t_go (op := o_iload 52 5) (fe_X12_warmest 50) (fun _ _ => rfl) ?_
        refine t_go (op := o_i2 53 (fun x y => x + y)) (fe_X12_warmest 52) (fun _ _ => rfl) ?_
        refine t_go (op := o_iald 54) (fe_X12_warmest 53) (g_ialdN hS (show lay 197 = (20, 966) by decide) (nIa (nIl 2) rfl) (by omega) (by decide)) ?_
        rw [show k.1 197 (2 + i) = F.1 i from by have := (hB.1 i (by omega)).1; rw [Nat.zero_add] at this; exact this]
        obtain ⟨_, c6, _, _, hc6, _, _, _, hci, _⟩ := FV_in hV (show i < 7 by omega) c2
        rw [hci]
        refine t_call (op := o_callS 57 207 2) (fe_X12_warmest 54) (g_callS rfl rfl rfl (Nat.le_of_ble_eq_true rfl)) ?_
        refine M_eq (r_doTouch hc hc6) ?_
        refine t_ite (op := o_if 60 73 (fun x => x = 0) (fun _ => inferInstance)) (fe_X12_warmest 57) g_if (fun c3 => ?_) (fun c3 => ?_)
        · replace c3 := b2i_z c3
          refine t_go (op := o_ci 74 0) (fe_X12_warmest 73) (fun _ _ => rfl) ?_
          refine t_go (op := o_i2 75 (fun x y => x + y)) (fe_X12_warmest 74) (fun _ _ => rfl) ?_
          refine t_go (op := o_istore 77 4) (fe_X12_warmest 75) (fun _ _ => rfl) ?_
          refine t_go (op := o_iinc 80 5 1) (fe_X12_warmest 77) (fun _ _ => rfl) ?_
          refine t_go (op := o_goto 23) (fe_X12_warmest 80) (fun _ _ => rfl) ?_
          have eS : besideS F (besV (nI c)) i s = _ := if_neg fun q => by
              have q2 := q.2
              rw [nI_clamp (by omega), hci, besV_n c hc] at q2
              exact c3 ((bitI_bt (by omega)).mp q2)
          rw [it_step, eS] at hq
          rw [← Int32.add_zero (a := s)] at hq
          rw [nI_1]
          exact ih (i + 1) _ (by omega) hq
        · replace c3 := b2i_nn c3
          refine t_go (op := o_aload 61 0) (fe_X12_warmest 60) (fun _ _ => rfl) ?_
          refine t_go (op := o_getR 64 11 22) (fe_X12_warmest 61) (g_getR hS (show (lay 183).1 = 11 by decide) (by decide) (fr_11_22 hS) (by decide)) ?_
          refine t_go (op := o_ci 66 9) (fe_X12_warmest 64) (fun _ _ => rfl) ?_
          refine t_go (op := o_iload 68 5) (fe_X12_warmest 66) (fun _ _ => rfl) ?_
          refine t_go (op := o_i2 69 (fun x y => x + y)) (fe_X12_warmest 68) (fun _ _ => rfl) ?_
          refine t_go (op := o_iald 70) (fe_X12_warmest 69) (g_ialdN hS (show lay 197 = (20, 966) by decide) (nIa (nIl 9) rfl) (by omega) (by decide)) ?_
          rw [show k.1 197 (9 + i) = F.2.1 i from by have := (hB.1 i (by omega)).2.1; rw [Nat.zero_add] at this; exact this]
          refine t_go (op := o_goto 74) (fe_X12_warmest 70) (fun _ _ => rfl) ?_
          refine t_go (op := o_i2 75 (fun x y => x + y)) (fe_X12_warmest 74) (fun _ _ => rfl) ?_
          refine t_go (op := o_istore 77 4) (fe_X12_warmest 75) (fun _ _ => rfl) ?_
          refine t_go (op := o_iinc 80 5 1) (fe_X12_warmest 77) (fun _ _ => rfl) ?_
          refine t_go (op := o_goto 23) (fe_X12_warmest 80) (fun _ _ => rfl) ?_
          have eS : besideS F (besV (nI c)) i s = _ := if_pos ⟨c2, by rw [nI_clamp (by omega), hci, besV_n c hc]; exact (bitI_bt (by omega)).mpr c3⟩
          rw [it_step, eS] at hq
          rw [nI_clamp (by omega)] at hq
          rw [nI_1]
          exact ih (i + 1) _ (by omega) hq
theorem lr_warmO {d : Nat} {k : AHP} {m : Nat} {F : FS} (hS : Std k) (hE : k.1 189 0 = nI m) (hm : m ≤ 7) (hV : FV m F) (hB : RB (k.1 197) 0 F) {Q : Option Value → AHP → Prop} : ∀ (j i : Nat) (a : Int32) (b : Int32) (x4 x5 : Option Value), i + j = 12 → 0 ≤ b → Q (some (.int (it (bestS (wmV F)) j i (a, b)).1)) k → TT (d + 2) 257 11 [some (.ref 183), some (.int a), some (.int b), some (.int (nI i)), x4, x5] [] k Q := by
  intro j
  induction j with
  | zero =>
    intro i a b x4 x5 hi h0 hq
    have hN : i = 12 := by omega
    refine t_go (op := o_iload 12 3) (fe_X12_warmest 11) (fun _ _ => rfl) ?_
    refine t_go (op := o_ci 14 12) (fe_X12_warmest 12) (fun _ _ => rfl) ?_
    refine t_ite (op := o_icmp 17 134 (fun x y => y ≤ x) (fun _ _ => inferInstance)) (fe_X12_warmest 14) g_icmp (fun c1 => ?_) (fun c1 => ?_)
    · refine t_go (op := o_iload 135 1) (fe_X12_warmest 134) (fun _ _ => rfl) ?_
      refine t_ret (op := o_iret) (fe_X12_warmest 135) (fun _ _ => rfl) ?_
      exact hq
    · exact absurd (by rw [hN]; exact Int32.le_refl _) c1
  | succ j ih =>
    intro i a b x4 x5 hi h0 hq
    have hi7 : i < 12 := by omega
    refine t_go (op := o_iload 12 3) (fe_X12_warmest 11) (fun _ _ => rfl) ?_
    refine t_go (op := o_ci 14 12) (fe_X12_warmest 12) (fun _ _ => rfl) ?_
    refine t_ite (op := o_icmp 17 134 (fun x y => y ≤ x) (fun _ _ => inferInstance)) (fe_X12_warmest 14) g_icmp (fun c1 => ?_) (fun c1 => ?_)
    · exact absurd c1 (nI_ge hi7 (by decide))
    · refine t_go (op := o_ci 18 0) (fe_X12_warmest 17) (fun _ _ => rfl) ?_
      refine t_go (op := o_istore 20 4) (fe_X12_warmest 18) (fun _ _ => rfl) ?_
      refine t_go (op := o_ci 21 0) (fe_X12_warmest 20) (fun _ _ => rfl) ?_
      refine t_go (op := o_istore 23 5) (fe_X12_warmest 21) (fun _ _ => rfl) ?_
      refine lr_warmI hS hE hm hV hB (c := i) (by omega) m 0 0 (by omega) ?_
      refine t_go (op := o_aload 84 0) (fe_X12_warmest 83) (fun _ _ => rfl) ?_
      refine t_go (op := o_ci 85 0) (fe_X12_warmest 84) (fun _ _ => rfl) ?_
      refine t_go (op := o_iload 86 3) (fe_X12_warmest 85) (fun _ _ => rfl) ?_
      refine t_call (op := o_callV 89 206 3 11) (fe_X12_warmest 86) (g_callV hS (show (lay 183).1 = 11 by decide) (by decide) rfl rfl rfl (Nat.le_of_ble_eq_true rfl)) ?_
      refine M_eq (r_lyingIn (b := 0) hS hV hB (by decide) hm hE (c := i) (by omega)) ?_
      refine t_ite (op := o_if 92 102 (fun x => 0 ≤ x) (fun _ => inferInstance)) (fe_X12_warmest 89) g_if (fun c2 => ?_) (fun c2 => ?_)
      · refine t_go (op := o_ci 103 0) (fe_X12_warmest 102) (fun _ _ => rfl) ?_
        refine t_go (op := o_istore 105 5) (fe_X12_warmest 103) (fun _ _ => rfl) ?_
        refine t_go (op := o_iload 107 5) (fe_X12_warmest 105) (fun _ _ => rfl) ?_
        refine t_ite (op := o_if 110 114 (fun x => x = 0) (fun _ => inferInstance)) (fe_X12_warmest 107) g_if (fun c3 => ?_) (fun c3 => ?_)
        · clear c3
          refine t_go (op := o_iload 115 1) (fe_X12_warmest 114) (fun _ _ => rfl) ?_
          refine t_go (op := o_istore 116 1) (fe_X12_warmest 115) (fun _ _ => rfl) ?_
          refine t_go (op := o_iload 118 5) (fe_X12_warmest 116) (fun _ _ => rfl) ?_
          refine t_ite (op := o_if 121 126 (fun x => x = 0) (fun _ => inferInstance)) (fe_X12_warmest 118) g_if (fun c4 => ?_) (fun c4 => ?_)
          · clear c4
            refine t_go (op := o_iload 127 2) (fe_X12_warmest 126) (fun _ _ => rfl) ?_
            refine t_go (op := o_istore 128 2) (fe_X12_warmest 127) (fun _ _ => rfl) ?_
            refine t_go (op := o_iinc 131 3 1) (fe_X12_warmest 128) (fun _ _ => rfl) ?_
            refine t_go (op := o_goto 11) (fe_X12_warmest 131) (fun _ _ => rfl) ?_
            have ew : wmV F i = 0 := if_neg fun q => absurd ((lie_neg hV (by omega)).mpr q) (Int32.not_lt.mpr c2)
            rw [it_step, bestS_t (v := wmV F) (e := i) (a := a) (b := b) (by rw [ew]; exact h0)] at hq
            rw [nI_1]
            exact ih (i + 1) _ _ _ _ (by omega) h0 hq
          · exact absurd (by decide) c4
        · exact absurd (by decide) c3
      · refine t_go (op := o_iload 94 4) (fe_X12_warmest 92) (fun _ _ => rfl) ?_
        refine t_go (op := o_iload 95 2) (fe_X12_warmest 94) (fun _ _ => rfl) ?_
        refine t_ite (op := o_icmp 98 102 (fun x y => x ≤ y) (fun _ _ => inferInstance)) (fe_X12_warmest 95) g_icmp (fun c5 => ?_) (fun c5 => ?_)
        · refine t_go (op := o_ci 103 0) (fe_X12_warmest 102) (fun _ _ => rfl) ?_
          refine t_go (op := o_istore 105 5) (fe_X12_warmest 103) (fun _ _ => rfl) ?_
          refine t_go (op := o_iload 107 5) (fe_X12_warmest 105) (fun _ _ => rfl) ?_
          refine t_ite (op := o_if 110 114 (fun x => x = 0) (fun _ => inferInstance)) (fe_X12_warmest 107) g_if (fun c6 => ?_) (fun c6 => ?_)
          · clear c6
            refine t_go (op := o_iload 115 1) (fe_X12_warmest 114) (fun _ _ => rfl) ?_
            refine t_go (op := o_istore 116 1) (fe_X12_warmest 115) (fun _ _ => rfl) ?_
            refine t_go (op := o_iload 118 5) (fe_X12_warmest 116) (fun _ _ => rfl) ?_
            refine t_ite (op := o_if 121 126 (fun x => x = 0) (fun _ => inferInstance)) (fe_X12_warmest 118) g_if (fun c7 => ?_) (fun c7 => ?_)
            · clear c7
              refine t_go (op := o_iload 127 2) (fe_X12_warmest 126) (fun _ _ => rfl) ?_
              refine t_go (op := o_istore 128 2) (fe_X12_warmest 127) (fun _ _ => rfl) ?_
              refine t_go (op := o_iinc 131 3 1) (fe_X12_warmest 128) (fun _ _ => rfl) ?_
              refine t_go (op := o_goto 11) (fe_X12_warmest 131) (fun _ _ => rfl) ?_
              have ew : wmV F i = it (besideS F (besV (nI i))) m 0 0 := (if_pos ((lie_neg hV (by omega)).mp (Int32.not_le.mp c2))).trans (bes_m hV hm)
              rw [it_step, bestS_t (v := wmV F) (e := i) (a := a) (b := b) (by rw [ew]; exact c5)] at hq
              rw [nI_1]
              exact ih (i + 1) _ _ _ _ (by omega) h0 hq
            · exact absurd (by decide) c7
          · exact absurd (by decide) c6
        · refine t_go (op := o_ci 99 1) (fe_X12_warmest 98) (fun _ _ => rfl) ?_
          refine t_go (op := o_goto 103) (fe_X12_warmest 99) (fun _ _ => rfl) ?_
          refine t_go (op := o_istore 105 5) (fe_X12_warmest 103) (fun _ _ => rfl) ?_
          refine t_go (op := o_iload 107 5) (fe_X12_warmest 105) (fun _ _ => rfl) ?_
          refine t_ite (op := o_if 110 114 (fun x => x = 0) (fun _ => inferInstance)) (fe_X12_warmest 107) g_if (fun c8 => ?_) (fun c8 => ?_)
          · exact absurd c8 (by decide)
          · clear c8
            refine t_go (op := o_iload 111 3) (fe_X12_warmest 110) (fun _ _ => rfl) ?_
            refine t_go (op := o_goto 115) (fe_X12_warmest 111) (fun _ _ => rfl) ?_
            refine t_go (op := o_istore 116 1) (fe_X12_warmest 115) (fun _ _ => rfl) ?_
            refine t_go (op := o_iload 118 5) (fe_X12_warmest 116) (fun _ _ => rfl) ?_
            refine t_ite (op := o_if 121 126 (fun x => x = 0) (fun _ => inferInstance)) (fe_X12_warmest 118) g_if (fun c9 => ?_) (fun c9 => ?_)
            · exact absurd c9 (by decide)
            · clear c9
              refine t_go (op := o_iload 123 4) (fe_X12_warmest 121) (fun _ _ => rfl) ?_
              refine t_go (op := o_goto 127) (fe_X12_warmest 123) (fun _ _ => rfl) ?_
              refine t_go (op := o_istore 128 2) (fe_X12_warmest 127) (fun _ _ => rfl) ?_
              refine t_go (op := o_iinc 131 3 1) (fe_X12_warmest 128) (fun _ _ => rfl) ?_
              refine t_go (op := o_goto 11) (fe_X12_warmest 131) (fun _ _ => rfl) ?_
              have ew : wmV F i = it (besideS F (besV (nI i))) m 0 0 := (if_pos ((lie_neg hV (by omega)).mp (Int32.not_le.mp c2))).trans (bes_m hV hm)
              rw [it_step, bestS_f (v := wmV F) (e := i) (a := a) (b := b) (by rw [ew]; exact c5)] at hq
              rw [ew] at hq
              rw [nI_1]
              exact ih (i + 1) _ _ _ _ (by omega) (Int32.le_trans h0 (Int32.le_of_lt (Int32.not_le.mp c5))) hq
theorem r_warmest {d : Nat} {k h : AHP} {m n g T : Nat} {F : FS} (hP : CP k h g n m) (hW : FW m T F) (hB0 : RB (k.1 197) 0 F) (hT : T < 90000)  : MM (d + 2) 257 [.ref 183] k (fun v h2 => v = some (.int (it (bestS (wmV F)) 12 0 (-1, 0)).1) ∧ Zf trl k h2) := by
  refine ⟨Nat.le_of_ble_eq_true rfl, ?_⟩
  have hm := hP.1.2.2.1
  have hS := hP.1.1
  have hE := hP.1.2.1
  refine t_go (op := o_aload 1 0) (fe_X12_warmest 0) (fun _ _ => rfl) ?_
  refine t_go (op := o_ci 2 0) (fe_X12_warmest 1) (fun _ _ => rfl) ?_
  refine t_go (op := o_putI 5 11 0) (fe_X12_warmest 2) (g_putI hS (show (lay 183).1 = 11 by decide) (by decide)) ?_
  have hz : Zf trl k (sI k 183 0 0) := Zf_thr Zf.rf
  have hS := (hP.zf hz).1.1
  have hE := (hP.zf hz).1.2.1
  refine t_go (op := o_ci 6 (-1)) (fe_X12_warmest 5) (fun _ _ => rfl) ?_
  refine t_go (op := o_istore 7 1) (fe_X12_warmest 6) (fun _ _ => rfl) ?_
  refine t_go (op := o_ci 8 0) (fe_X12_warmest 7) (fun _ _ => rfl) ?_
  refine t_go (op := o_istore 9 2) (fe_X12_warmest 8) (fun _ _ => rfl) ?_
  refine t_go (op := o_ci 10 0) (fe_X12_warmest 9) (fun _ _ => rfl) ?_
  refine t_go (op := o_istore 11 3) (fe_X12_warmest 10) (fun _ _ => rfl) ?_
  exact lr_warmO hS hE hm hW.1 (hB0.zf hz trl0) 12 0 (-1) 0 _ _ (by omega) (by decide) ⟨rfl, hz⟩
