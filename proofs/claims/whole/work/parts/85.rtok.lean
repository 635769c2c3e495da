/-! ===== the reference: tokens ===== -/
def sgV (x : Int32) : Int32 := if x = 40 then 1 else if x = 41 then 1 else if x = 59 then 1 else if x = 61 then 1 else if x = 60 then 1 else if x = 43 then 1 else if x = 45 then 1 else if x = 42 then 1 else 0
theorem sgV_n : ∀ c, c < 128 → sgV (nI c) = if iG c = true then 1 else 0 := by decide +kernel
theorem iB_n : ∀ c, c < 128 → (iB c = true ↔ (nI c = 10 ∨ nI c = 32)) := by decide +kernel
theorem CHr.lt {r : Nat → Int32} {ch : Nat → Nat} {len i : Nat} (h : CHr r ch len) (hi : i < len) : ch i < 128 := by have := (h i hi).2; omega
theorem r0_isLetter {d : Nat} {h : AHP} {x : Int32} : MM d 161 [.int x] h (fun v h2 => v = some (.int (leV x)) ∧ h2 = h) := by
  refine ⟨Nat.le_of_ble_eq_true rfl, ?_⟩
  refine t_go (op := o_iload 1 0) (fe_X12_isLetter 0) (fun _ _ => rfl) ?_
  refine t_go (op := o_ci 3 97) (fe_X12_isLetter 1) (fun _ _ => rfl) ?_
  refine t_ite (op := o_icmp 6 16 (fun x y => x < y) (fun _ _ => inferInstance)) (fe_X12_isLetter 3) g_icmp (fun c1 => ?_) (fun c1 => ?_)
  · refine t_go (op := o_ci 17 0) (fe_X12_isLetter 16) (fun _ _ => rfl) ?_
    refine t_ret (op := o_zret) (fe_X12_isLetter 17) (g_zret (Or.inl rfl)) ?_
    exact ⟨congrArg (fun z => some (Value.int z)) (Eq.symm (show leV x = _ from (if_pos c1))), rfl⟩
  · refine t_go (op := o_iload 7 0) (fe_X12_isLetter 6) (fun _ _ => rfl) ?_
    refine t_go (op := o_ci 9 122) (fe_X12_isLetter 7) (fun _ _ => rfl) ?_
    refine t_ite (op := o_icmp 12 16 (fun x y => y < x) (fun _ _ => inferInstance)) (fe_X12_isLetter 9) g_icmp (fun c2 => ?_) (fun c2 => ?_)
    · refine t_go (op := o_ci 17 0) (fe_X12_isLetter 16) (fun _ _ => rfl) ?_
      refine t_ret (op := o_zret) (fe_X12_isLetter 17) (g_zret (Or.inl rfl)) ?_
      exact ⟨congrArg (fun z => some (Value.int z)) (Eq.symm (show leV x = _ from (Eq.trans (if_neg c1) (if_pos c2)))), rfl⟩
    · refine t_go (op := o_ci 13 1) (fe_X12_isLetter 12) (fun _ _ => rfl) ?_
      refine t_go (op := o_goto 17) (fe_X12_isLetter 13) (fun _ _ => rfl) ?_
      refine t_ret (op := o_zret) (fe_X12_isLetter 17) (g_zret (Or.inr rfl)) ?_
      exact ⟨congrArg (fun z => some (Value.int z)) (Eq.symm (show leV x = _ from (Eq.trans (if_neg c1) (if_neg c2)))), rfl⟩
theorem r_isLetter {d : Nat} {h : AHP} {c : Nat} (hc : c < 128) : MM d 161 [.int (nI c)] h (fun v h2 => v = some (.int (b2i (iL c = true))) ∧ h2 = h) := by
  have q := r0_isLetter (d := d) (h := h) (x := nI c)
  rw [leV_n c hc, ← b2i_b] at q
  exact q
theorem r0_isDigit {d : Nat} {h : AHP} {x : Int32} : MM d 162 [.int x] h (fun v h2 => v = some (.int (diV x)) ∧ h2 = h) := by
  refine ⟨Nat.le_of_ble_eq_true rfl, ?_⟩
  refine t_go (op := o_iload 1 0) (fe_X12_isDigit 0) (fun _ _ => rfl) ?_
  refine t_go (op := o_ci 3 48) (fe_X12_isDigit 1) (fun _ _ => rfl) ?_
  refine t_ite (op := o_icmp 6 16 (fun x y => x < y) (fun _ _ => inferInstance)) (fe_X12_isDigit 3) g_icmp (fun c1 => ?_) (fun c1 => ?_)
  · refine t_go (op := o_ci 17 0) (fe_X12_isDigit 16) (fun _ _ => rfl) ?_
    refine t_ret (op := o_zret) (fe_X12_isDigit 17) (g_zret (Or.inl rfl)) ?_
    exact ⟨congrArg (fun z => some (Value.int z)) (Eq.symm (show diV x = _ from (if_pos c1))), rfl⟩
  · refine t_go (op := o_iload 7 0) (fe_X12_isDigit 6) (fun _ _ => rfl) ?_
    refine t_go (op := o_ci 9 57) (fe_X12_isDigit 7) (fun _ _ => rfl) ?_
    refine t_ite (op := o_icmp 12 16 (fun x y => y < x) (fun _ _ => inferInstance)) (fe_X12_isDigit 9) g_icmp (fun c2 => ?_) (fun c2 => ?_)
    · refine t_go (op := o_ci 17 0) (fe_X12_isDigit 16) (fun _ _ => rfl) ?_
      refine t_ret (op := o_zret) (fe_X12_isDigit 17) (g_zret (Or.inl rfl)) ?_
      exact ⟨congrArg (fun z => some (Value.int z)) (Eq.symm (show diV x = _ from (Eq.trans (if_neg c1) (if_pos c2)))), rfl⟩
    · refine t_go (op := o_ci 13 1) (fe_X12_isDigit 12) (fun _ _ => rfl) ?_
      refine t_go (op := o_goto 17) (fe_X12_isDigit 13) (fun _ _ => rfl) ?_
      refine t_ret (op := o_zret) (fe_X12_isDigit 17) (g_zret (Or.inr rfl)) ?_
      exact ⟨congrArg (fun z => some (Value.int z)) (Eq.symm (show diV x = _ from (Eq.trans (if_neg c1) (if_neg c2)))), rfl⟩
theorem r_isDigit {d : Nat} {h : AHP} {c : Nat} (hc : c < 128) : MM d 162 [.int (nI c)] h (fun v h2 => v = some (.int (b2i (iD c = true))) ∧ h2 = h) := by
  have q := r0_isDigit (d := d) (h := h) (x := nI c)
  rw [diV_n c hc, ← b2i_b] at q
  exact q
theorem r0_isSignOf {d : Nat} {h : AHP} {x : Int32} : MM d 164 [.int x] h (fun v h2 => v = some (.int (sgV x)) ∧ h2 = h) := by
  refine ⟨Nat.le_of_ble_eq_true rfl, ?_⟩
  refine t_go (op := o_iload 1 0) (fe_X12_isSignOf 0) (fun _ _ => rfl) ?_
  refine t_go (op := o_ci 3 40) (fe_X12_isSignOf 1) (fun _ _ => rfl) ?_
  refine t_ite (op := o_icmp 6 48 (fun x y => x = y) (fun _ _ => inferInstance)) (fe_X12_isSignOf 3) g_icmp (fun c1 => ?_) (fun c1 => ?_)
  · refine t_go (op := o_ci 49 1) (fe_X12_isSignOf 48) (fun _ _ => rfl) ?_
    refine t_go (op := o_goto 53) (fe_X12_isSignOf 49) (fun _ _ => rfl) ?_
    refine t_ret (op := o_zret) (fe_X12_isSignOf 53) (g_zret (Or.inr rfl)) ?_
    exact ⟨congrArg (fun z => some (Value.int z)) (Eq.symm (show sgV x = _ from (if_pos c1))), rfl⟩
  · refine t_go (op := o_iload 7 0) (fe_X12_isSignOf 6) (fun _ _ => rfl) ?_
    refine t_go (op := o_ci 9 41) (fe_X12_isSignOf 7) (fun _ _ => rfl) ?_
    refine t_ite (op := o_icmp 12 48 (fun x y => x = y) (fun _ _ => inferInstance)) (fe_X12_isSignOf 9) g_icmp (fun c2 => ?_) (fun c2 => ?_)
    · refine t_go (op := o_ci 49 1) (fe_X12_isSignOf 48) (fun _ _ => rfl) ?_
      refine t_go (op := o_goto 53) (fe_X12_isSignOf 49) (fun _ _ => rfl) ?_
      refine t_ret (op := o_zret) (fe_X12_isSignOf 53) (g_zret (Or.inr rfl)) ?_
      exact ⟨congrArg (fun z => some (Value.int z)) (Eq.symm (show sgV x = _ from (Eq.trans (if_neg c1) (if_pos c2)))), rfl⟩
    · refine t_go (op := o_iload 13 0) (fe_X12_isSignOf 12) (fun _ _ => rfl) ?_
      refine t_go (op := o_ci 15 59) (fe_X12_isSignOf 13) (fun _ _ => rfl) ?_
      refine t_ite (op := o_icmp 18 48 (fun x y => x = y) (fun _ _ => inferInstance)) (fe_X12_isSignOf 15) g_icmp (fun c3 => ?_) (fun c3 => ?_)
      · refine t_go (op := o_ci 49 1) (fe_X12_isSignOf 48) (fun _ _ => rfl) ?_
        refine t_go (op := o_goto 53) (fe_X12_isSignOf 49) (fun _ _ => rfl) ?_
        refine t_ret (op := o_zret) (fe_X12_isSignOf 53) (g_zret (Or.inr rfl)) ?_
        exact ⟨congrArg (fun z => some (Value.int z)) (Eq.symm (show sgV x = _ from (Eq.trans (if_neg c1) (Eq.trans (if_neg c2) (if_pos c3))))), rfl⟩
      · refine t_go (op := o_iload 19 0) (fe_X12_isSignOf 18) (fun _ _ => rfl) ?_
        refine t_go (op := o_ci 21 61) (fe_X12_isSignOf 19) (fun _ _ => rfl) ?_
        refine t_ite (op := o_icmp 24 48 (fun x y => x = y) (fun _ _ => inferInstance)) (fe_X12_isSignOf 21) g_icmp (fun c4 => ?_) (fun c4 => ?_)
        · refine t_go (op := o_ci 49 1) (fe_X12_isSignOf 48) (fun _ _ => rfl) ?_
          refine t_go (op := o_goto 53) (fe_X12_isSignOf 49) (fun _ _ => rfl) ?_
          refine t_ret (op := o_zret) (fe_X12_isSignOf 53) (g_zret (Or.inr rfl)) ?_
          exact ⟨congrArg (fun z => some (Value.int z)) (Eq.symm (show sgV x = _ from (Eq.trans (if_neg c1) (Eq.trans (if_neg c2) (Eq.trans (if_neg c3) (if_pos c4)))))), rfl⟩
        · refine t_go (op := o_iload 25 0) (fe_X12_isSignOf 24) (fun _ _ => rfl) ?_
          refine t_go (op := o_ci 27 60) (fe_X12_isSignOf 25) (fun _ _ => rfl) ?_
          refine t_ite (op := o_icmp 30 48 (fun x y => x = y) (fun _ _ => inferInstance)) (fe_X12_isSignOf 27) g_icmp (fun c5 => ?_) (fun c5 => ?_)
          · refine t_go (op := o_ci 49 1) (fe_X12_isSignOf 48) (fun _ _ => rfl) ?_
            refine t_go (op := o_goto 53) (fe_X12_isSignOf 49) (fun _ _ => rfl) ?_
            refine t_ret (op := o_zret) (fe_X12_isSignOf 53) (g_zret (Or.inr rfl)) ?_
            exact ⟨congrArg (fun z => some (Value.int z)) (Eq.symm (show sgV x = _ from (Eq.trans (if_neg c1) (Eq.trans (if_neg c2) (Eq.trans (if_neg c3) (Eq.trans (if_neg c4) (if_pos c5))))))), rfl⟩
          · refine t_go (op := o_iload 31 0) (fe_X12_isSignOf 30) (fun _ _ => rfl) ?_
            refine t_go (op := o_ci 33 43) (fe_X12_isSignOf 31) (fun _ _ => rfl) ?_
            refine t_ite (op := o_icmp 36 48 (fun x y => x = y) (fun _ _ => inferInstance)) (fe_X12_isSignOf 33) g_icmp (fun c6 => ?_) (fun c6 => ?_)
            · refine t_go (op := o_ci 49 1) (fe_X12_isSignOf 48) (fun _ _ => rfl) ?_
              refine t_go (op := o_goto 53) (fe_X12_isSignOf 49) (fun _ _ => rfl) ?_
              refine t_ret (op := o_zret) (fe_X12_isSignOf 53) (g_zret (Or.inr rfl)) ?_
              exact ⟨congrArg (fun z => some (Value.int z)) (Eq.symm (show sgV x = _ from (Eq.trans (if_neg c1) (Eq.trans (if_neg c2) (Eq.trans (if_neg c3) (Eq.trans (if_neg c4) (Eq.trans (if_neg c5) (if_pos c6)))))))), rfl⟩
            · refine t_go (op := o_iload 37 0) (fe_X12_isSignOf 36) (fun _ _ => rfl) ?_
              refine t_go (op := o_ci 39 45) (fe_X12_isSignOf 37) (fun _ _ => rfl) ?_
              refine t_ite (op := o_icmp 42 48 (fun x y => x = y) (fun _ _ => inferInstance)) (fe_X12_isSignOf 39) g_icmp (fun c7 => ?_) (fun c7 => ?_)
              · refine t_go (op := o_ci 49 1) (fe_X12_isSignOf 48) (fun _ _ => rfl) ?_
                refine t_go (op := o_goto 53) (fe_X12_isSignOf 49) (fun _ _ => rfl) ?_
                refine t_ret (op := o_zret) (fe_X12_isSignOf 53) (g_zret (Or.inr rfl)) ?_
                exact ⟨congrArg (fun z => some (Value.int z)) (Eq.symm (show sgV x = _ from (Eq.trans (if_neg c1) (Eq.trans (if_neg c2) (Eq.trans (if_neg c3) (Eq.trans (if_neg c4) (Eq.trans (if_neg c5) (Eq.trans (if_neg c6) (if_pos c7))))))))), rfl⟩
              · refine t_go (op := o_iload 43 0) (fe_X12_isSignOf 42) (fun _ _ => rfl) ?_
                refine t_go (op := o_ci 45 42) (fe_X12_isSignOf 43) (fun _ _ => rfl) ?_
                refine t_ite (op := o_icmp 52 48 (fun x y => x = y) (fun _ _ => inferInstance)) (fe_X12_isSignOf 45) g_icmp (fun c8 => ?_) (fun c8 => ?_)
                · refine t_go (op := o_ci 49 1) (fe_X12_isSignOf 48) (fun _ _ => rfl) ?_
                  refine t_go (op := o_goto 53) (fe_X12_isSignOf 49) (fun _ _ => rfl) ?_
                  refine t_ret (op := o_zret) (fe_X12_isSignOf 53) (g_zret (Or.inr rfl)) ?_
                  exact ⟨congrArg (fun z => some (Value.int z)) (Eq.symm (show sgV x = _ from (Eq.trans (if_neg c1) (Eq.trans (if_neg c2) (Eq.trans (if_neg c3) (Eq.trans (if_neg c4) (Eq.trans (if_neg c5) (Eq.trans (if_neg c6) (Eq.trans (if_neg c7) (if_pos c8)))))))))), rfl⟩
                · refine t_go (op := o_ci 53 0) (fe_X12_isSignOf 52) (fun _ _ => rfl) ?_
                  refine t_ret (op := o_zret) (fe_X12_isSignOf 53) (g_zret (Or.inl rfl)) ?_
                  exact ⟨congrArg (fun z => some (Value.int z)) (Eq.symm (show sgV x = _ from (Eq.trans (if_neg c1) (Eq.trans (if_neg c2) (Eq.trans (if_neg c3) (Eq.trans (if_neg c4) (Eq.trans (if_neg c5) (Eq.trans (if_neg c6) (Eq.trans (if_neg c7) (if_neg c8)))))))))), rfl⟩
theorem r_isSignOf {d : Nat} {h : AHP} {c : Nat} (hc : c < 128) : MM d 164 [.int (nI c)] h (fun v h2 => v = some (.int (b2i (iG c = true))) ∧ h2 = h) := by
  have q := r0_isSignOf (d := d) (h := h) (x := nI c)
  rw [sgV_n c hc, ← b2i_b] at q
  exact q
theorem r_rank {d : Nat} {h : AHP} {c : Nat} (hc : c < 128) (hL : iL c = true) : MM (d + 1) 163 [.int (nI c)] h (fun v h2 => v = some (.int (nI (c - 96))) ∧ h2 = h) := by
  refine ⟨Nat.le_of_ble_eq_true rfl, ?_⟩
  have h1 := iL_1 hL
  refine t_go (op := o_iload 1 0) (fe_X12_rank 0) (fun _ _ => rfl) ?_
  refine t_call (op := o_callS 4 161 1) (fe_X12_rank 1) (g_callS rfl rfl rfl (Nat.le_of_ble_eq_true rfl)) ?_
  refine M_eq (r_isLetter hc) ?_
  refine t_ite (op := o_if 7 14 (fun x => x = 0) (fun _ => inferInstance)) (fe_X12_rank 4) g_if (fun c1 => ?_) (fun c1 => ?_)
  · exact absurd hL (b2i_z c1)
  · replace c1 := b2i_nn c1
    refine t_go (op := o_iload 8 0) (fe_X12_rank 7) (fun _ _ => rfl) ?_
    refine t_go (op := o_ci 10 96) (fe_X12_rank 8) (fun _ _ => rfl) ?_
    refine t_go (op := o_i2 11 (fun x y => x - y)) (fe_X12_rank 10) (fun _ _ => rfl) ?_
    refine t_go (op := o_goto 18) (fe_X12_rank 11) (fun _ _ => rfl) ?_
    refine t_ret (op := o_iret) (fe_X12_rank 18) (fun _ _ => rfl) ?_
    refine ⟨congrArg (fun z => some (Value.int z)) ?_, rfl⟩
    show nI c - 96 = _
    exact nIs rfl rfl (by omega)
set_option maxRecDepth 8000 in
theorem lr_cl {d : Nat} {h : AHP} {ch : Nat → Nat} {len : Nat} (hS : Std h) (hCH : CHr (h.1 184) ch len) (hlen : len ≤ 1000) (hl : h.1 183 3 = nI len) {t q : Nat} {x3 : Option Value} {Q : Option Value → AHP → Prop} : ∀ (j i : Nat) (_ : Unit), i + j = len → q ≤ i → (∀ e, q ≤ e → e = rnE iL ch j i → TT (d + 2) 165 129 [some (.ref 183), some (.int (nI t)), some (.int (nI e)), x3, some (.int (nI q)), some (.long (lN (n37 (lts ch (min (e - q) 8) q)))), none] [] h Q) → TT (d + 2) 165 70 [some (.ref 183), some (.int (nI t)), some (.int (nI i)), x3, some (.int (nI q)), some (.long (lN (n37 (lts ch (min (i - q) 8) q)))), none] [] h Q := by
  intro j
  induction j with
  | zero =>
    intro i _ hi hqi hq
    have hN : i = len := by omega
    refine t_go (op := o_iload 71 2) (fe_X12_cutAll 70) (fun _ _ => rfl) ?_
    refine t_go (op := o_aload 72 0) (fe_X12_cutAll 71) (fun _ _ => rfl) ?_
    refine t_go (op := o_getI 75 11 3) (fe_X12_cutAll 72) (g_getI hS (show (lay 183).1 = 11 by decide) (by decide)) ?_
    rw [show h.1 183 3 = nI len from hl]
    refine t_ite (op := o_icmp 78 129 (fun x y => y ≤ x) (fun _ _ => inferInstance)) (fe_X12_cutAll 75) g_icmp (fun c1 => ?_) (fun c1 => ?_)
    · exact hq i hqi rfl
    · exact absurd (by rw [hN]; exact Int32.le_refl _) c1
  | succ j ih =>
    intro i _ hi hqi hq
    have hi7 : i < len := by omega
    refine t_go (op := o_iload 71 2) (fe_X12_cutAll 70) (fun _ _ => rfl) ?_
    refine t_go (op := o_aload 72 0) (fe_X12_cutAll 71) (fun _ _ => rfl) ?_
    refine t_go (op := o_getI 75 11 3) (fe_X12_cutAll 72) (g_getI hS (show (lay 183).1 = 11 by decide) (by decide)) ?_
    rw [show h.1 183 3 = nI len from hl]
    refine t_ite (op := o_icmp 78 129 (fun x y => y ≤ x) (fun _ _ => inferInstance)) (fe_X12_cutAll 75) g_icmp (fun c1 => ?_) (fun c1 => ?_)
    · exact absurd c1 (nI_ge hi7 (by omega))
    · refine t_go (op := o_aload 79 0) (fe_X12_cutAll 78) (fun _ _ => rfl) ?_
      refine t_go (op := o_getR 82 11 1) (fe_X12_cutAll 79) (g_getR hS (show (lay 183).1 = 11 by decide) (by decide) (fr_11_1 hS) (by decide)) ?_
      refine t_go (op := o_iload 83 2) (fe_X12_cutAll 82) (fun _ _ => rfl) ?_
      refine t_go (op := o_iald 84) (fe_X12_cutAll 83) (g_ialdN hS (show lay 184 = (20, 1000) by decide) rfl (by omega) (by decide)) ?_
      rw [show h.1 184 i = nI (ch i) from (hCH i (by omega)).1]
      refine t_call (op := o_callS 87 161 1) (fe_X12_cutAll 84) (g_callS rfl rfl rfl (Nat.le_of_ble_eq_true rfl)) ?_
      refine M_eq (r_isLetter (c := ch i) (hCH.lt (by omega))) ?_
      refine t_ite (op := o_if 90 129 (fun x => x = 0) (fun _ => inferInstance)) (fe_X12_cutAll 87) g_if (fun c2 => ?_) (fun c2 => ?_)
      · replace c2 := b2i_z c2
        exact hq i hqi (by rw [rnE, if_neg c2])
      · replace c2 := b2i_nn c2
        refine t_go (op := o_iload 91 2) (fe_X12_cutAll 90) (fun _ _ => rfl) ?_
        refine t_go (op := o_iload 93 4) (fe_X12_cutAll 91) (fun _ _ => rfl) ?_
        refine t_go (op := o_i2 94 (fun x y => x - y)) (fe_X12_cutAll 93) (fun _ _ => rfl) ?_
        refine t_go (op := o_ci 96 8) (fe_X12_cutAll 94) (fun _ _ => rfl) ?_
        refine t_ite (op := o_icmp 99 119 (fun x y => y ≤ x) (fun _ _ => inferInstance)) (fe_X12_cutAll 96) g_icmp (fun c3 => ?_) (fun c3 => ?_)
        · refine t_go (op := o_lload 121 5) (fe_X12_cutAll 119) (fun _ _ => rfl) ?_
          refine t_go (op := o_lstore 123 5) (fe_X12_cutAll 121) (fun _ _ => rfl) ?_
          refine t_go (op := o_iinc 126 2 1) (fe_X12_cutAll 123) (fun _ _ => rfl) ?_
          refine t_go (op := o_goto 70) (fe_X12_cutAll 126) (fun _ _ => rfl) ?_
          have h4 : 8 ≤ i - q := by
            refine le_nI (a := 8) (by decide) (by omega) ?_
            rw [← nIs (a := i) (b := q) rfl rfl hqi]
            exact c3
          rw [show min (i - q) 8 = min (i + 1 - q) 8 by omega]
          rw [nI_1]
          refine ih (i + 1) () (by omega) (by omega) fun e h1 h2 => hq e h1 ?_
          rw [rnE, if_pos c2]
          exact h2
        · refine t_go (op := o_cl 102 37) (fe_X12_cutAll 99) (fun _ _ => rfl) ?_
          refine t_go (op := o_lload 104 5) (fe_X12_cutAll 102) (fun _ _ => rfl) ?_
          refine t_go (op := o_l2 105 (fun x y => x * y)) (fe_X12_cutAll 104) (fun _ _ => rfl) ?_
          refine t_go (op := o_aload 106 0) (fe_X12_cutAll 105) (fun _ _ => rfl) ?_
          refine t_go (op := o_getR 109 11 1) (fe_X12_cutAll 106) (g_getR hS (show (lay 183).1 = 11 by decide) (by decide) (fr_11_1 hS) (by decide)) ?_
          refine t_go (op := o_iload 110 2) (fe_X12_cutAll 109) (fun _ _ => rfl) ?_
          refine t_go (op := o_iald 111) (fe_X12_cutAll 110) (g_ialdN hS (show lay 184 = (20, 1000) by decide) rfl (by omega) (by decide)) ?_
          rw [show h.1 184 i = nI (ch i) from (hCH i (by omega)).1]
          refine t_call (op := o_callS 114 163 1) (fe_X12_cutAll 111) (g_callS rfl rfl rfl (Nat.le_of_ble_eq_true rfl)) ?_
          refine M_eq (r_rank (c := ch i) (hCH.lt (by omega)) c2) ?_
          refine t_go (op := o_i2l 115) (fe_X12_cutAll 114) (fun _ _ => rfl) ?_
          refine t_go (op := o_l2 116 (fun x y => x + y)) (fe_X12_cutAll 115) (fun _ _ => rfl) ?_
          refine t_go (op := o_goto 121) (fe_X12_cutAll 116) (fun _ _ => rfl) ?_
          refine t_go (op := o_lstore 123 5) (fe_X12_cutAll 121) (fun _ _ => rfl) ?_
          refine t_go (op := o_iinc 126 2 1) (fe_X12_cutAll 123) (fun _ _ => rfl) ?_
          refine t_go (op := o_goto 70) (fe_X12_cutAll 126) (fun _ _ => rfl) ?_
          have h3 : ¬ (8 : Int32) ≤ nI (i - q) := by
            rw [← nIs (a := i) (b := q) rfl rfl hqi]
            exact c3
          have h4 : i - q < 8 := by
            rcases Nat.lt_or_ge (i - q) 8 with h | h
            · exact h
            · exact absurd (nI_le (a := 8) h (by omega)) h3
          rw [show (fun x y : Int64 => x + y) ((fun x y : Int64 => x * y) 37 (lN (n37 (lts ch (min (i - q) 8) q)))) (Int32.toInt64 (nI (ch i - 96))) = lN (n37 (lts ch (min (i + 1 - q) 8) q)) from by
            rw [show min (i + 1 - q) 8 = (i - q) + 1 by omega, show min (i - q) 8 = i - q by omega, lts_snoc, n37_snoc, show q + (i - q) = i by omega]
            show lN 37 * lN _ + Int32.toInt64 (nI (ch i - 96)) = _
            rw [nI_l (by have := hCH.lt hi7; omega), lN_mul, lN_add, Nat.mul_comm]]
          rw [nI_1]
          refine ih (i + 1) () (by omega) (by omega) fun e h1 h2 => hq e h1 ?_
          rw [rnE, if_pos c2]
          exact h2
set_option maxRecDepth 8000 in
theorem lr_cd {d : Nat} {h : AHP} {ch : Nat → Nat} {len : Nat} (hS : Std h) (hCH : CHr (h.1 184) ch len) (hlen : len ≤ 1000) (hl : h.1 183 3 = nI len) {t q : Nat} {x3 : Option Value} {Q : Option Value → AHP → Prop} : ∀ (j i : Nat) (_ : Unit), i + j = len → q ≤ i → (∀ e, q ≤ e → e = rnE iD ch j i → TT (d + 2) 165 218 [some (.ref 183), some (.int (nI t)), some (.int (nI e)), x3, some (.int (nI q)), some (.long (lN (numN ch (min (e - q) 4) q 0))), none] [] h Q) → TT (d + 2) 165 159 [some (.ref 183), some (.int (nI t)), some (.int (nI i)), x3, some (.int (nI q)), some (.long (lN (numN ch (min (i - q) 4) q 0))), none] [] h Q := by
  intro j
  induction j with
  | zero =>
    intro i _ hi hqi hq
    have hN : i = len := by omega
    refine t_go (op := o_iload 160 2) (fe_X12_cutAll 159) (fun _ _ => rfl) ?_
    refine t_go (op := o_aload 161 0) (fe_X12_cutAll 160) (fun _ _ => rfl) ?_
    refine t_go (op := o_getI 164 11 3) (fe_X12_cutAll 161) (g_getI hS (show (lay 183).1 = 11 by decide) (by decide)) ?_
    rw [show h.1 183 3 = nI len from hl]
    refine t_ite (op := o_icmp 167 218 (fun x y => y ≤ x) (fun _ _ => inferInstance)) (fe_X12_cutAll 164) g_icmp (fun c1 => ?_) (fun c1 => ?_)
    · exact hq i hqi rfl
    · exact absurd (by rw [hN]; exact Int32.le_refl _) c1
  | succ j ih =>
    intro i _ hi hqi hq
    have hi7 : i < len := by omega
    refine t_go (op := o_iload 160 2) (fe_X12_cutAll 159) (fun _ _ => rfl) ?_
    refine t_go (op := o_aload 161 0) (fe_X12_cutAll 160) (fun _ _ => rfl) ?_
    refine t_go (op := o_getI 164 11 3) (fe_X12_cutAll 161) (g_getI hS (show (lay 183).1 = 11 by decide) (by decide)) ?_
    rw [show h.1 183 3 = nI len from hl]
    refine t_ite (op := o_icmp 167 218 (fun x y => y ≤ x) (fun _ _ => inferInstance)) (fe_X12_cutAll 164) g_icmp (fun c1 => ?_) (fun c1 => ?_)
    · exact absurd c1 (nI_ge hi7 (by omega))
    · refine t_go (op := o_aload 168 0) (fe_X12_cutAll 167) (fun _ _ => rfl) ?_
      refine t_go (op := o_getR 171 11 1) (fe_X12_cutAll 168) (g_getR hS (show (lay 183).1 = 11 by decide) (by decide) (fr_11_1 hS) (by decide)) ?_
      refine t_go (op := o_iload 172 2) (fe_X12_cutAll 171) (fun _ _ => rfl) ?_
      refine t_go (op := o_iald 173) (fe_X12_cutAll 172) (g_ialdN hS (show lay 184 = (20, 1000) by decide) rfl (by omega) (by decide)) ?_
      rw [show h.1 184 i = nI (ch i) from (hCH i (by omega)).1]
      refine t_call (op := o_callS 176 162 1) (fe_X12_cutAll 173) (g_callS rfl rfl rfl (Nat.le_of_ble_eq_true rfl)) ?_
      refine M_eq (r_isDigit (c := ch i) (hCH.lt (by omega))) ?_
      refine t_ite (op := o_if 179 218 (fun x => x = 0) (fun _ => inferInstance)) (fe_X12_cutAll 176) g_if (fun c2 => ?_) (fun c2 => ?_)
      · replace c2 := b2i_z c2
        exact hq i hqi (by rw [rnE, if_neg c2])
      · replace c2 := b2i_nn c2
        refine t_go (op := o_iload 180 2) (fe_X12_cutAll 179) (fun _ _ => rfl) ?_
        refine t_go (op := o_iload 182 4) (fe_X12_cutAll 180) (fun _ _ => rfl) ?_
        refine t_go (op := o_i2 183 (fun x y => x - y)) (fe_X12_cutAll 182) (fun _ _ => rfl) ?_
        refine t_go (op := o_ci 184 4) (fe_X12_cutAll 183) (fun _ _ => rfl) ?_
        refine t_ite (op := o_icmp 187 208 (fun x y => y ≤ x) (fun _ _ => inferInstance)) (fe_X12_cutAll 184) g_icmp (fun c3 => ?_) (fun c3 => ?_)
        · refine t_go (op := o_lload 210 5) (fe_X12_cutAll 208) (fun _ _ => rfl) ?_
          refine t_go (op := o_lstore 212 5) (fe_X12_cutAll 210) (fun _ _ => rfl) ?_
          refine t_go (op := o_iinc 215 2 1) (fe_X12_cutAll 212) (fun _ _ => rfl) ?_
          refine t_go (op := o_goto 159) (fe_X12_cutAll 215) (fun _ _ => rfl) ?_
          have h4 : 4 ≤ i - q := by
            refine le_nI (a := 4) (by decide) (by omega) ?_
            rw [← nIs (a := i) (b := q) rfl rfl hqi]
            exact c3
          rw [show min (i - q) 4 = min (i + 1 - q) 4 by omega]
          rw [nI_1]
          refine ih (i + 1) () (by omega) (by omega) fun e h1 h2 => hq e h1 ?_
          rw [rnE, if_pos c2]
          exact h2
        · refine t_go (op := o_cl 190 10) (fe_X12_cutAll 187) (fun _ _ => rfl) ?_
          refine t_go (op := o_lload 192 5) (fe_X12_cutAll 190) (fun _ _ => rfl) ?_
          refine t_go (op := o_l2 193 (fun x y => x * y)) (fe_X12_cutAll 192) (fun _ _ => rfl) ?_
          refine t_go (op := o_aload 194 0) (fe_X12_cutAll 193) (fun _ _ => rfl) ?_
          refine t_go (op := o_getR 197 11 1) (fe_X12_cutAll 194) (g_getR hS (show (lay 183).1 = 11 by decide) (by decide) (fr_11_1 hS) (by decide)) ?_
          refine t_go (op := o_iload 198 2) (fe_X12_cutAll 197) (fun _ _ => rfl) ?_
          refine t_go (op := o_iald 199) (fe_X12_cutAll 198) (g_ialdN hS (show lay 184 = (20, 1000) by decide) rfl (by omega) (by decide)) ?_
          rw [show h.1 184 i = nI (ch i) from (hCH i (by omega)).1]
          refine t_go (op := o_i2l 200) (fe_X12_cutAll 199) (fun _ _ => rfl) ?_
          refine t_go (op := o_l2 201 (fun x y => x + y)) (fe_X12_cutAll 200) (fun _ _ => rfl) ?_
          refine t_go (op := o_cl 204 48) (fe_X12_cutAll 201) (fun _ _ => rfl) ?_
          refine t_go (op := o_l2 205 (fun x y => x - y)) (fe_X12_cutAll 204) (fun _ _ => rfl) ?_
          refine t_go (op := o_goto 210) (fe_X12_cutAll 205) (fun _ _ => rfl) ?_
          refine t_go (op := o_lstore 212 5) (fe_X12_cutAll 210) (fun _ _ => rfl) ?_
          refine t_go (op := o_iinc 215 2 1) (fe_X12_cutAll 212) (fun _ _ => rfl) ?_
          refine t_go (op := o_goto 159) (fe_X12_cutAll 215) (fun _ _ => rfl) ?_
          have h3 : ¬ (4 : Int32) ≤ nI (i - q) := by
            rw [← nIs (a := i) (b := q) rfl rfl hqi]
            exact c3
          have h4 : i - q < 4 := by
            rcases Nat.lt_or_ge (i - q) 4 with h | h
            · exact h
            · exact absurd (nI_le (a := 4) h (by omega)) h3
          rw [show (fun x y : Int64 => x - y) ((fun x y : Int64 => x + y) ((fun x y : Int64 => x * y) 10 (lN (numN ch (min (i - q) 4) q 0))) (Int32.toInt64 (nI (ch i)))) 48 = lN (numN ch (min (i + 1 - q) 4) q 0) from by
            have h5 := iD_1 c2
            rw [show min (i + 1 - q) 4 = (i - q) + 1 by omega, show min (i - q) 4 = i - q by omega, numN_snoc, show q + (i - q) = i by omega]
            show lN 10 * lN _ + Int32.toInt64 (nI (ch i)) - lN 48 = _
            rw [nI_l (by have := hCH.lt hi7; omega), lN_mul, lN_add, lN_sub (by omega), Nat.add_sub_assoc h5]]
          rw [nI_1]
          refine ih (i + 1) () (by omega) (by omega) fun e h1 h2 => hq e h1 ?_
          rw [rnE, if_pos c2]
          exact h2
set_option maxRecDepth 8000 in
theorem lr_cutB {d : Nat} {h : AHP} {ch : Nat → Nat} {len : Nat} (hS : Std h) (hCH : CHr (h.1 184) ch len) (hlen : len ≤ 1000) (hl : h.1 183 3 = nI len) {t i : Nat} (ht : t ≤ 1000) {x3 x4 x5 x6 : Option Value} (hi : i < len) (hB : iB (ch i) = true) {Q : Option Value → AHP → Prop} (hq : TT (d + 2) 165 17 [some (.ref 183), some (.int (nI t)), some (.int (nI (i + 1))), some (.int (nI (ch i))), x4, x5, x6] [] h Q) : TT (d + 2) 165 17 [some (.ref 183), some (.int (nI t)), some (.int (nI i)), x3, x4, x5, x6] [] h Q := by
  refine t_go (op := o_iload 18 2) (fe_X12_cutAll 17) (fun _ _ => rfl) ?_
  refine t_go (op := o_aload 19 0) (fe_X12_cutAll 18) (fun _ _ => rfl) ?_
  refine t_go (op := o_getI 22 11 3) (fe_X12_cutAll 19) (g_getI hS (show (lay 183).1 = 11 by decide) (by decide)) ?_
  rw [show h.1 183 3 = nI len from hl]
  refine t_ite (op := o_icmp 25 279 (fun x y => y ≤ x) (fun _ _ => inferInstance)) (fe_X12_cutAll 22) g_icmp (fun c1 => ?_) (fun c1 => ?_)
  · exact absurd c1 (nI_ge hi (by omega))
  · refine t_go (op := o_aload 26 0) (fe_X12_cutAll 25) (fun _ _ => rfl) ?_
    refine t_go (op := o_getR 29 11 1) (fe_X12_cutAll 26) (g_getR hS (show (lay 183).1 = 11 by decide) (by decide) (fr_11_1 hS) (by decide)) ?_
    refine t_go (op := o_iload 30 2) (fe_X12_cutAll 29) (fun _ _ => rfl) ?_
    refine t_go (op := o_iald 31) (fe_X12_cutAll 30) (g_ialdN hS (show lay 184 = (20, 1000) by decide) rfl (by omega) (by decide)) ?_
    rw [show h.1 184 i = nI (ch i) from (hCH i (by omega)).1]
    refine t_go (op := o_istore 32 3) (fe_X12_cutAll 31) (fun _ _ => rfl) ?_
    refine t_go (op := o_iload 33 3) (fe_X12_cutAll 32) (fun _ _ => rfl) ?_
    refine t_go (op := o_ci 35 10) (fe_X12_cutAll 33) (fun _ _ => rfl) ?_
    refine t_ite (op := o_icmp 38 44 (fun x y => x = y) (fun _ _ => inferInstance)) (fe_X12_cutAll 35) g_icmp (fun c2 => ?_) (fun c2 => ?_)
    · refine t_go (op := o_iinc 47 2 1) (fe_X12_cutAll 44) (fun _ _ => rfl) ?_
      refine t_go (op := o_goto 17) (fe_X12_cutAll 47) (fun _ _ => rfl) ?_
      rw [nI_1]
      exact hq
    · refine t_go (op := o_iload 39 3) (fe_X12_cutAll 38) (fun _ _ => rfl) ?_
      refine t_go (op := o_ci 41 32) (fe_X12_cutAll 39) (fun _ _ => rfl) ?_
      refine t_ite (op := o_icmp 50 44 (fun x y => x = y) (fun _ _ => inferInstance)) (fe_X12_cutAll 41) g_icmp (fun c3 => ?_) (fun c3 => ?_)
      · refine t_go (op := o_iinc 47 2 1) (fe_X12_cutAll 44) (fun _ _ => rfl) ?_
        refine t_go (op := o_goto 17) (fe_X12_cutAll 47) (fun _ _ => rfl) ?_
        rw [nI_1]
        exact hq
      · exact absurd ((iB_n _ (hCH.lt hi)).mp hB) (fun q => q.elim c2 c3)
set_option maxRecDepth 8000 in
theorem lr_cutL {d : Nat} {h : AHP} {ch : Nat → Nat} {len : Nat} (hS : Std h) (hCH : CHr (h.1 184) ch len) (hlen : len ≤ 1000) (hl : h.1 183 3 = nI len) {t i : Nat} (ht : t ≤ 1000) {x3 x4 x5 x6 : Option Value} (hi : i < len) (hB : ¬ iB (ch i) = true) (hL : iL (ch i) = true) {e : Nat} (ee : rnE iL ch (len - i) i = e) (h8 : e - i ≤ 8) {Q : Option Value → AHP → Prop} (hq : TT (d + 2) 165 17 [some (.ref 183), some (.int (nI (t + 1))), some (.int (nI e)), some (.int (nI (ch i))), some (.int (nI i)), some (.long (lN (n37 (lts ch (min (e - i) 8) i)))), none] [] (sJ (sI (sI h 186 t (nI i)) 185 t 1) 187 t (lN (n37 (lts ch (min (e - i) 8) i)))) Q) : TT (d + 2) 165 17 [some (.ref 183), some (.int (nI t)), some (.int (nI i)), x3, x4, x5, x6] [] h Q := by
  have he := rnE_le (P := iL) (ch := ch) (len - i) i
  rw [ee] at he
  refine t_go (op := o_iload 18 2) (fe_X12_cutAll 17) (fun _ _ => rfl) ?_
  refine t_go (op := o_aload 19 0) (fe_X12_cutAll 18) (fun _ _ => rfl) ?_
  refine t_go (op := o_getI 22 11 3) (fe_X12_cutAll 19) (g_getI hS (show (lay 183).1 = 11 by decide) (by decide)) ?_
  rw [show h.1 183 3 = nI len from hl]
  refine t_ite (op := o_icmp 25 279 (fun x y => y ≤ x) (fun _ _ => inferInstance)) (fe_X12_cutAll 22) g_icmp (fun c1 => ?_) (fun c1 => ?_)
  · exact absurd c1 (nI_ge hi (by omega))
  · refine t_go (op := o_aload 26 0) (fe_X12_cutAll 25) (fun _ _ => rfl) ?_
    refine t_go (op := o_getR 29 11 1) (fe_X12_cutAll 26) (g_getR hS (show (lay 183).1 = 11 by decide) (by decide) (fr_11_1 hS) (by decide)) ?_
    refine t_go (op := o_iload 30 2) (fe_X12_cutAll 29) (fun _ _ => rfl) ?_
    refine t_go (op := o_iald 31) (fe_X12_cutAll 30) (g_ialdN hS (show lay 184 = (20, 1000) by decide) rfl (by omega) (by decide)) ?_
    rw [show h.1 184 i = nI (ch i) from (hCH i (by omega)).1]
    refine t_go (op := o_istore 32 3) (fe_X12_cutAll 31) (fun _ _ => rfl) ?_
    refine t_go (op := o_iload 33 3) (fe_X12_cutAll 32) (fun _ _ => rfl) ?_
    refine t_go (op := o_ci 35 10) (fe_X12_cutAll 33) (fun _ _ => rfl) ?_
    refine t_ite (op := o_icmp 38 44 (fun x y => x = y) (fun _ _ => inferInstance)) (fe_X12_cutAll 35) g_icmp (fun c2 => ?_) (fun c2 => ?_)
    · exact absurd ((iB_n _ (hCH.lt hi)).mpr (Or.inl c2)) hB
    · refine t_go (op := o_iload 39 3) (fe_X12_cutAll 38) (fun _ _ => rfl) ?_
      refine t_go (op := o_ci 41 32) (fe_X12_cutAll 39) (fun _ _ => rfl) ?_
      refine t_ite (op := o_icmp 50 44 (fun x y => x = y) (fun _ _ => inferInstance)) (fe_X12_cutAll 41) g_icmp (fun c3 => ?_) (fun c3 => ?_)
      · exact absurd ((iB_n _ (hCH.lt hi)).mpr (Or.inr c3)) hB
      · refine t_go (op := o_iload 51 2) (fe_X12_cutAll 50) (fun _ _ => rfl) ?_
        refine t_go (op := o_istore 53 4) (fe_X12_cutAll 51) (fun _ _ => rfl) ?_
        refine t_go (op := o_cl 54 0) (fe_X12_cutAll 53) (fun _ _ => rfl) ?_
        refine t_go (op := o_lstore 56 5) (fe_X12_cutAll 54) (fun _ _ => rfl) ?_
        refine t_go (op := o_aload 57 0) (fe_X12_cutAll 56) (fun _ _ => rfl) ?_
        refine t_go (op := o_getR 60 11 5) (fe_X12_cutAll 57) (g_getR hS (show (lay 183).1 = 11 by decide) (by decide) (fr_11_5 hS) (by decide)) ?_
        refine t_go (op := o_iload 61 1) (fe_X12_cutAll 60) (fun _ _ => rfl) ?_
        refine t_go (op := o_iload 62 2) (fe_X12_cutAll 61) (fun _ _ => rfl) ?_
        refine t_go (op := o_iast 63) (fe_X12_cutAll 62) (g_iastN hS (show lay 186 = (20, 1002) by decide) rfl (by omega) (by decide)) ?_
        refine t_go (op := o_iload 64 3) (fe_X12_cutAll 63) (fun _ _ => rfl) ?_
        refine t_call (op := o_callS 67 161 1) (fe_X12_cutAll 64) (g_callS rfl rfl rfl (Nat.le_of_ble_eq_true rfl)) ?_
        refine M_eq (r_isLetter (c := ch i) (hCH.lt (by omega))) ?_
        refine t_ite (op := o_if 70 152 (fun x => x = 0) (fun _ => inferInstance)) (fe_X12_cutAll 67) g_if (fun c4 => ?_) (fun c4 => ?_)
        · exact absurd hL (b2i_z c4)
        · replace c4 := b2i_nn c4
          rw [show (0 : Int64) = lN (n37 (lts ch (min (i - i) 8) i)) from by rw [Nat.sub_self]; rfl]
          refine lr_cl (h := sI h 186 t (nI i)) (q := i) hS (by rw [sI_ne (by decide)]; exact hCH) hlen (by rw [sI_ne (by decide)]; exact hl) (len - i) i () (by omega) (Nat.le_refl _) fun e2 he2 ee2 => ?_
          have e9 : e = e2 := (ee2.trans ee).symm
          subst e9
          refine t_go (op := o_aload 130 0) (fe_X12_cutAll 129) (fun _ _ => rfl) ?_
          refine t_go (op := o_getR 133 11 4) (fe_X12_cutAll 130) (g_getR hS (show (lay 183).1 = 11 by decide) (by decide) (fr_11_4 hS) (by decide)) ?_
          refine t_go (op := o_iload 134 1) (fe_X12_cutAll 133) (fun _ _ => rfl) ?_
          refine t_go (op := o_iload 135 2) (fe_X12_cutAll 134) (fun _ _ => rfl) ?_
          refine t_go (op := o_iload 137 4) (fe_X12_cutAll 135) (fun _ _ => rfl) ?_
          refine t_go (op := o_i2 138 (fun x y => x - y)) (fe_X12_cutAll 137) (fun _ _ => rfl) ?_
          refine t_go (op := o_ci 140 8) (fe_X12_cutAll 138) (fun _ _ => rfl) ?_
          refine t_ite (op := o_icmp 143 147 (fun x y => x ≤ y) (fun _ _ => inferInstance)) (fe_X12_cutAll 140) g_icmp (fun c5 => ?_) (fun c5 => ?_)
          · refine t_go (op := o_ci 148 1) (fe_X12_cutAll 147) (fun _ _ => rfl) ?_
            refine t_go (op := o_iast 149) (fe_X12_cutAll 148) (g_iastN hS (show lay 185 = (20, 1002) by decide) rfl (by omega) (by decide)) ?_
            refine t_go (op := o_goto 265) (fe_X12_cutAll 149) (fun _ _ => rfl) ?_
            refine t_go (op := o_aload 266 0) (fe_X12_cutAll 265) (fun _ _ => rfl) ?_
            refine t_go (op := o_getR 269 11 6) (fe_X12_cutAll 266) (g_getR hS (show (lay 183).1 = 11 by decide) (by decide) (fr_11_6 hS) (by decide)) ?_
            refine t_go (op := o_iload 270 1) (fe_X12_cutAll 269) (fun _ _ => rfl) ?_
            refine t_go (op := o_lload 272 5) (fe_X12_cutAll 270) (fun _ _ => rfl) ?_
            refine t_go (op := o_last 273) (fe_X12_cutAll 272) (g_lastN hS (show lay 187 = (21, 1002) by decide) rfl (by omega) (by decide)) ?_
            refine t_go (op := o_iinc 276 1 1) (fe_X12_cutAll 273) (fun _ _ => rfl) ?_
            refine t_go (op := o_goto 17) (fe_X12_cutAll 276) (fun _ _ => rfl) ?_
            rw [nI_1]
            exact hq
          · exact absurd (by show nI e - nI i ≤ 8; rw [nIs (a := e) (b := i) rfl rfl (by omega)]; exact nI_le (b := 8) h8 (by omega)) c5
set_option maxRecDepth 8000 in
theorem lr_cutLb {d : Nat} {h : AHP} {ch : Nat → Nat} {len : Nat} (hS : Std h) (hCH : CHr (h.1 184) ch len) (hlen : len ≤ 1000) (hl : h.1 183 3 = nI len) {t i : Nat} (ht : t ≤ 1000) {x3 x4 x5 x6 : Option Value} (hi : i < len) (hB : ¬ iB (ch i) = true) (hL : iL (ch i) = true) {e : Nat} (ee : rnE iL ch (len - i) i = e) (h8 : ¬ e - i ≤ 8) {Q : Option Value → AHP → Prop} (hq : TT (d + 2) 165 17 [some (.ref 183), some (.int (nI (t + 1))), some (.int (nI e)), some (.int (nI (ch i))), some (.int (nI i)), some (.long (lN (n37 (lts ch (min (e - i) 8) i)))), none] [] (sJ (sI (sI h 186 t (nI i)) 185 t 4) 187 t (lN (n37 (lts ch (min (e - i) 8) i)))) Q) : TT (d + 2) 165 17 [some (.ref 183), some (.int (nI t)), some (.int (nI i)), x3, x4, x5, x6] [] h Q := by
  have he := rnE_le (P := iL) (ch := ch) (len - i) i
  rw [ee] at he
  refine t_go (op := o_iload 18 2) (fe_X12_cutAll 17) (fun _ _ => rfl) ?_
  refine t_go (op := o_aload 19 0) (fe_X12_cutAll 18) (fun _ _ => rfl) ?_
  refine t_go (op := o_getI 22 11 3) (fe_X12_cutAll 19) (g_getI hS (show (lay 183).1 = 11 by decide) (by decide)) ?_
  rw [show h.1 183 3 = nI len from hl]
  refine t_ite (op := o_icmp 25 279 (fun x y => y ≤ x) (fun _ _ => inferInstance)) (fe_X12_cutAll 22) g_icmp (fun c1 => ?_) (fun c1 => ?_)
  · exact absurd c1 (nI_ge hi (by omega))
  · refine t_go (op := o_aload 26 0) (fe_X12_cutAll 25) (fun _ _ => rfl) ?_
    refine t_go (op := o_getR 29 11 1) (fe_X12_cutAll 26) (g_getR hS (show (lay 183).1 = 11 by decide) (by decide) (fr_11_1 hS) (by decide)) ?_
    refine t_go (op := o_iload 30 2) (fe_X12_cutAll 29) (fun _ _ => rfl) ?_
    refine t_go (op := o_iald 31) (fe_X12_cutAll 30) (g_ialdN hS (show lay 184 = (20, 1000) by decide) rfl (by omega) (by decide)) ?_
    rw [show h.1 184 i = nI (ch i) from (hCH i (by omega)).1]
    refine t_go (op := o_istore 32 3) (fe_X12_cutAll 31) (fun _ _ => rfl) ?_
    refine t_go (op := o_iload 33 3) (fe_X12_cutAll 32) (fun _ _ => rfl) ?_
    refine t_go (op := o_ci 35 10) (fe_X12_cutAll 33) (fun _ _ => rfl) ?_
    refine t_ite (op := o_icmp 38 44 (fun x y => x = y) (fun _ _ => inferInstance)) (fe_X12_cutAll 35) g_icmp (fun c2 => ?_) (fun c2 => ?_)
    · exact absurd ((iB_n _ (hCH.lt hi)).mpr (Or.inl c2)) hB
    · refine t_go (op := o_iload 39 3) (fe_X12_cutAll 38) (fun _ _ => rfl) ?_
      refine t_go (op := o_ci 41 32) (fe_X12_cutAll 39) (fun _ _ => rfl) ?_
      refine t_ite (op := o_icmp 50 44 (fun x y => x = y) (fun _ _ => inferInstance)) (fe_X12_cutAll 41) g_icmp (fun c3 => ?_) (fun c3 => ?_)
      · exact absurd ((iB_n _ (hCH.lt hi)).mpr (Or.inr c3)) hB
      · refine t_go (op := o_iload 51 2) (fe_X12_cutAll 50) (fun _ _ => rfl) ?_
        refine t_go (op := o_istore 53 4) (fe_X12_cutAll 51) (fun _ _ => rfl) ?_
        refine t_go (op := o_cl 54 0) (fe_X12_cutAll 53) (fun _ _ => rfl) ?_
        refine t_go (op := o_lstore 56 5) (fe_X12_cutAll 54) (fun _ _ => rfl) ?_
        refine t_go (op := o_aload 57 0) (fe_X12_cutAll 56) (fun _ _ => rfl) ?_
        refine t_go (op := o_getR 60 11 5) (fe_X12_cutAll 57) (g_getR hS (show (lay 183).1 = 11 by decide) (by decide) (fr_11_5 hS) (by decide)) ?_
        refine t_go (op := o_iload 61 1) (fe_X12_cutAll 60) (fun _ _ => rfl) ?_
        refine t_go (op := o_iload 62 2) (fe_X12_cutAll 61) (fun _ _ => rfl) ?_
        refine t_go (op := o_iast 63) (fe_X12_cutAll 62) (g_iastN hS (show lay 186 = (20, 1002) by decide) rfl (by omega) (by decide)) ?_
        refine t_go (op := o_iload 64 3) (fe_X12_cutAll 63) (fun _ _ => rfl) ?_
        refine t_call (op := o_callS 67 161 1) (fe_X12_cutAll 64) (g_callS rfl rfl rfl (Nat.le_of_ble_eq_true rfl)) ?_
        refine M_eq (r_isLetter (c := ch i) (hCH.lt (by omega))) ?_
        refine t_ite (op := o_if 70 152 (fun x => x = 0) (fun _ => inferInstance)) (fe_X12_cutAll 67) g_if (fun c4 => ?_) (fun c4 => ?_)
        · exact absurd hL (b2i_z c4)
        · replace c4 := b2i_nn c4
          rw [show (0 : Int64) = lN (n37 (lts ch (min (i - i) 8) i)) from by rw [Nat.sub_self]; rfl]
          refine lr_cl (h := sI h 186 t (nI i)) (q := i) hS (by rw [sI_ne (by decide)]; exact hCH) hlen (by rw [sI_ne (by decide)]; exact hl) (len - i) i () (by omega) (Nat.le_refl _) fun e2 he2 ee2 => ?_
          have e9 : e = e2 := (ee2.trans ee).symm
          subst e9
          refine t_go (op := o_aload 130 0) (fe_X12_cutAll 129) (fun _ _ => rfl) ?_
          refine t_go (op := o_getR 133 11 4) (fe_X12_cutAll 130) (g_getR hS (show (lay 183).1 = 11 by decide) (by decide) (fr_11_4 hS) (by decide)) ?_
          refine t_go (op := o_iload 134 1) (fe_X12_cutAll 133) (fun _ _ => rfl) ?_
          refine t_go (op := o_iload 135 2) (fe_X12_cutAll 134) (fun _ _ => rfl) ?_
          refine t_go (op := o_iload 137 4) (fe_X12_cutAll 135) (fun _ _ => rfl) ?_
          refine t_go (op := o_i2 138 (fun x y => x - y)) (fe_X12_cutAll 137) (fun _ _ => rfl) ?_
          refine t_go (op := o_ci 140 8) (fe_X12_cutAll 138) (fun _ _ => rfl) ?_
          refine t_ite (op := o_icmp 143 147 (fun x y => x ≤ y) (fun _ _ => inferInstance)) (fe_X12_cutAll 140) g_icmp (fun c5 => ?_) (fun c5 => ?_)
          · exact absurd (le_nI (a := e - i) (b := 8) (by omega) (by decide) (by rw [← nIs (a := e) (b := i) rfl rfl (by omega)]; exact c5)) h8
          · refine t_go (op := o_ci 144 4) (fe_X12_cutAll 143) (fun _ _ => rfl) ?_
            refine t_go (op := o_goto 148) (fe_X12_cutAll 144) (fun _ _ => rfl) ?_
            refine t_go (op := o_iast 149) (fe_X12_cutAll 148) (g_iastN hS (show lay 185 = (20, 1002) by decide) rfl (by omega) (by decide)) ?_
            refine t_go (op := o_goto 265) (fe_X12_cutAll 149) (fun _ _ => rfl) ?_
            refine t_go (op := o_aload 266 0) (fe_X12_cutAll 265) (fun _ _ => rfl) ?_
            refine t_go (op := o_getR 269 11 6) (fe_X12_cutAll 266) (g_getR hS (show (lay 183).1 = 11 by decide) (by decide) (fr_11_6 hS) (by decide)) ?_
            refine t_go (op := o_iload 270 1) (fe_X12_cutAll 269) (fun _ _ => rfl) ?_
            refine t_go (op := o_lload 272 5) (fe_X12_cutAll 270) (fun _ _ => rfl) ?_
            refine t_go (op := o_last 273) (fe_X12_cutAll 272) (g_lastN hS (show lay 187 = (21, 1002) by decide) rfl (by omega) (by decide)) ?_
            refine t_go (op := o_iinc 276 1 1) (fe_X12_cutAll 273) (fun _ _ => rfl) ?_
            refine t_go (op := o_goto 17) (fe_X12_cutAll 276) (fun _ _ => rfl) ?_
            rw [nI_1]
            exact hq
set_option maxRecDepth 8000 in
theorem lr_cutD {d : Nat} {h : AHP} {ch : Nat → Nat} {len : Nat} (hS : Std h) (hCH : CHr (h.1 184) ch len) (hlen : len ≤ 1000) (hl : h.1 183 3 = nI len) {t i : Nat} (ht : t ≤ 1000) {x3 x4 x5 x6 : Option Value} (hi : i < len) (hB : ¬ iB (ch i) = true) (hL : ¬ iL (ch i) = true) (hD : iD (ch i) = true) {e : Nat} (ee : rnE iD ch (len - i) i = e) (h8 : e - i ≤ 4) {Q : Option Value → AHP → Prop} (hq : TT (d + 2) 165 17 [some (.ref 183), some (.int (nI (t + 1))), some (.int (nI e)), some (.int (nI (ch i))), some (.int (nI i)), some (.long (lN (numN ch (min (e - i) 4) i 0))), none] [] (sJ (sI (sI h 186 t (nI i)) 185 t 2) 187 t (lN (numN ch (min (e - i) 4) i 0))) Q) : TT (d + 2) 165 17 [some (.ref 183), some (.int (nI t)), some (.int (nI i)), x3, x4, x5, x6] [] h Q := by
  have he := rnE_le (P := iD) (ch := ch) (len - i) i
  rw [ee] at he
  refine t_go (op := o_iload 18 2) (fe_X12_cutAll 17) (fun _ _ => rfl) ?_
  refine t_go (op := o_aload 19 0) (fe_X12_cutAll 18) (fun _ _ => rfl) ?_
  refine t_go (op := o_getI 22 11 3) (fe_X12_cutAll 19) (g_getI hS (show (lay 183).1 = 11 by decide) (by decide)) ?_
  rw [show h.1 183 3 = nI len from hl]
  refine t_ite (op := o_icmp 25 279 (fun x y => y ≤ x) (fun _ _ => inferInstance)) (fe_X12_cutAll 22) g_icmp (fun c1 => ?_) (fun c1 => ?_)
  · exact absurd c1 (nI_ge hi (by omega))
  · refine t_go (op := o_aload 26 0) (fe_X12_cutAll 25) (fun _ _ => rfl) ?_
    refine t_go (op := o_getR 29 11 1) (fe_X12_cutAll 26) (g_getR hS (show (lay 183).1 = 11 by decide) (by decide) (fr_11_1 hS) (by decide)) ?_
    refine t_go (op := o_iload 30 2) (fe_X12_cutAll 29) (fun _ _ => rfl) ?_
    refine t_go (op := o_iald 31) (fe_X12_cutAll 30) (g_ialdN hS (show lay 184 = (20, 1000) by decide) rfl (by omega) (by decide)) ?_
    rw [show h.1 184 i = nI (ch i) from (hCH i (by omega)).1]
    refine t_go (op := o_istore 32 3) (fe_X12_cutAll 31) (fun _ _ => rfl) ?_
    refine t_go (op := o_iload 33 3) (fe_X12_cutAll 32) (fun _ _ => rfl) ?_
    refine t_go (op := o_ci 35 10) (fe_X12_cutAll 33) (fun _ _ => rfl) ?_
    refine t_ite (op := o_icmp 38 44 (fun x y => x = y) (fun _ _ => inferInstance)) (fe_X12_cutAll 35) g_icmp (fun c2 => ?_) (fun c2 => ?_)
    · exact absurd ((iB_n _ (hCH.lt hi)).mpr (Or.inl c2)) hB
    · refine t_go (op := o_iload 39 3) (fe_X12_cutAll 38) (fun _ _ => rfl) ?_
      refine t_go (op := o_ci 41 32) (fe_X12_cutAll 39) (fun _ _ => rfl) ?_
      refine t_ite (op := o_icmp 50 44 (fun x y => x = y) (fun _ _ => inferInstance)) (fe_X12_cutAll 41) g_icmp (fun c3 => ?_) (fun c3 => ?_)
      · exact absurd ((iB_n _ (hCH.lt hi)).mpr (Or.inr c3)) hB
      · refine t_go (op := o_iload 51 2) (fe_X12_cutAll 50) (fun _ _ => rfl) ?_
        refine t_go (op := o_istore 53 4) (fe_X12_cutAll 51) (fun _ _ => rfl) ?_
        refine t_go (op := o_cl 54 0) (fe_X12_cutAll 53) (fun _ _ => rfl) ?_
        refine t_go (op := o_lstore 56 5) (fe_X12_cutAll 54) (fun _ _ => rfl) ?_
        refine t_go (op := o_aload 57 0) (fe_X12_cutAll 56) (fun _ _ => rfl) ?_
        refine t_go (op := o_getR 60 11 5) (fe_X12_cutAll 57) (g_getR hS (show (lay 183).1 = 11 by decide) (by decide) (fr_11_5 hS) (by decide)) ?_
        refine t_go (op := o_iload 61 1) (fe_X12_cutAll 60) (fun _ _ => rfl) ?_
        refine t_go (op := o_iload 62 2) (fe_X12_cutAll 61) (fun _ _ => rfl) ?_
        refine t_go (op := o_iast 63) (fe_X12_cutAll 62) (g_iastN hS (show lay 186 = (20, 1002) by decide) rfl (by omega) (by decide)) ?_
        refine t_go (op := o_iload 64 3) (fe_X12_cutAll 63) (fun _ _ => rfl) ?_
        refine t_call (op := o_callS 67 161 1) (fe_X12_cutAll 64) (g_callS rfl rfl rfl (Nat.le_of_ble_eq_true rfl)) ?_
        refine M_eq (r_isLetter (c := ch i) (hCH.lt (by omega))) ?_
        refine t_ite (op := o_if 70 152 (fun x => x = 0) (fun _ => inferInstance)) (fe_X12_cutAll 67) g_if (fun c4 => ?_) (fun c4 => ?_)
        · replace c4 := b2i_z c4
          refine t_go (op := o_iload 153 3) (fe_X12_cutAll 152) (fun _ _ => rfl) ?_
          refine t_call (op := o_callS 156 162 1) (fe_X12_cutAll 153) (g_callS rfl rfl rfl (Nat.le_of_ble_eq_true rfl)) ?_
          refine M_eq (r_isDigit (c := ch i) (hCH.lt (by omega))) ?_
          refine t_ite (op := o_if 159 240 (fun x => x = 0) (fun _ => inferInstance)) (fe_X12_cutAll 156) g_if (fun c5 => ?_) (fun c5 => ?_)
          · exact absurd hD (b2i_z c5)
          · replace c5 := b2i_nn c5
            rw [show (0 : Int64) = lN (numN ch (min (i - i) 4) i 0) from by rw [Nat.sub_self]; rfl]
            refine lr_cd (h := sI h 186 t (nI i)) (q := i) hS (by rw [sI_ne (by decide)]; exact hCH) hlen (by rw [sI_ne (by decide)]; exact hl) (len - i) i () (by omega) (Nat.le_refl _) fun e2 he2 ee2 => ?_
            have e9 : e = e2 := (ee2.trans ee).symm
            subst e9
            refine t_go (op := o_aload 219 0) (fe_X12_cutAll 218) (fun _ _ => rfl) ?_
            refine t_go (op := o_getR 222 11 4) (fe_X12_cutAll 219) (g_getR hS (show (lay 183).1 = 11 by decide) (by decide) (fr_11_4 hS) (by decide)) ?_
            refine t_go (op := o_iload 223 1) (fe_X12_cutAll 222) (fun _ _ => rfl) ?_
            refine t_go (op := o_iload 224 2) (fe_X12_cutAll 223) (fun _ _ => rfl) ?_
            refine t_go (op := o_iload 226 4) (fe_X12_cutAll 224) (fun _ _ => rfl) ?_
            refine t_go (op := o_i2 227 (fun x y => x - y)) (fe_X12_cutAll 226) (fun _ _ => rfl) ?_
            refine t_go (op := o_ci 228 4) (fe_X12_cutAll 227) (fun _ _ => rfl) ?_
            refine t_ite (op := o_icmp 231 235 (fun x y => x ≤ y) (fun _ _ => inferInstance)) (fe_X12_cutAll 228) g_icmp (fun c6 => ?_) (fun c6 => ?_)
            · refine t_go (op := o_ci 236 2) (fe_X12_cutAll 235) (fun _ _ => rfl) ?_
              refine t_go (op := o_iast 237) (fe_X12_cutAll 236) (g_iastN hS (show lay 185 = (20, 1002) by decide) rfl (by omega) (by decide)) ?_
              refine t_go (op := o_goto 265) (fe_X12_cutAll 237) (fun _ _ => rfl) ?_
              refine t_go (op := o_aload 266 0) (fe_X12_cutAll 265) (fun _ _ => rfl) ?_
              refine t_go (op := o_getR 269 11 6) (fe_X12_cutAll 266) (g_getR hS (show (lay 183).1 = 11 by decide) (by decide) (fr_11_6 hS) (by decide)) ?_
              refine t_go (op := o_iload 270 1) (fe_X12_cutAll 269) (fun _ _ => rfl) ?_
              refine t_go (op := o_lload 272 5) (fe_X12_cutAll 270) (fun _ _ => rfl) ?_
              refine t_go (op := o_last 273) (fe_X12_cutAll 272) (g_lastN hS (show lay 187 = (21, 1002) by decide) rfl (by omega) (by decide)) ?_
              refine t_go (op := o_iinc 276 1 1) (fe_X12_cutAll 273) (fun _ _ => rfl) ?_
              refine t_go (op := o_goto 17) (fe_X12_cutAll 276) (fun _ _ => rfl) ?_
              rw [nI_1]
              exact hq
            · exact absurd (by show nI e - nI i ≤ 4; rw [nIs (a := e) (b := i) rfl rfl (by omega)]; exact nI_le (b := 4) h8 (by omega)) c6
        · exact absurd (b2i_nn c4) hL
set_option maxRecDepth 8000 in
theorem lr_cutDb {d : Nat} {h : AHP} {ch : Nat → Nat} {len : Nat} (hS : Std h) (hCH : CHr (h.1 184) ch len) (hlen : len ≤ 1000) (hl : h.1 183 3 = nI len) {t i : Nat} (ht : t ≤ 1000) {x3 x4 x5 x6 : Option Value} (hi : i < len) (hB : ¬ iB (ch i) = true) (hL : ¬ iL (ch i) = true) (hD : iD (ch i) = true) {e : Nat} (ee : rnE iD ch (len - i) i = e) (h8 : ¬ e - i ≤ 4) {Q : Option Value → AHP → Prop} (hq : TT (d + 2) 165 17 [some (.ref 183), some (.int (nI (t + 1))), some (.int (nI e)), some (.int (nI (ch i))), some (.int (nI i)), some (.long (lN (numN ch (min (e - i) 4) i 0))), none] [] (sJ (sI (sI h 186 t (nI i)) 185 t 4) 187 t (lN (numN ch (min (e - i) 4) i 0))) Q) : TT (d + 2) 165 17 [some (.ref 183), some (.int (nI t)), some (.int (nI i)), x3, x4, x5, x6] [] h Q := by
  have he := rnE_le (P := iD) (ch := ch) (len - i) i
  rw [ee] at he
  refine t_go (op := o_iload 18 2) (fe_X12_cutAll 17) (fun _ _ => rfl) ?_
  refine t_go (op := o_aload 19 0) (fe_X12_cutAll 18) (fun _ _ => rfl) ?_
  refine t_go (op := o_getI 22 11 3) (fe_X12_cutAll 19) (g_getI hS (show (lay 183).1 = 11 by decide) (by decide)) ?_
  rw [show h.1 183 3 = nI len from hl]
  refine t_ite (op := o_icmp 25 279 (fun x y => y ≤ x) (fun _ _ => inferInstance)) (fe_X12_cutAll 22) g_icmp (fun c1 => ?_) (fun c1 => ?_)
  · exact absurd c1 (nI_ge hi (by omega))
  · refine t_go (op := o_aload 26 0) (fe_X12_cutAll 25) (fun _ _ => rfl) ?_
    refine t_go (op := o_getR 29 11 1) (fe_X12_cutAll 26) (g_getR hS (show (lay 183).1 = 11 by decide) (by decide) (fr_11_1 hS) (by decide)) ?_
    refine t_go (op := o_iload 30 2) (fe_X12_cutAll 29) (fun _ _ => rfl) ?_
    refine t_go (op := o_iald 31) (fe_X12_cutAll 30) (g_ialdN hS (show lay 184 = (20, 1000) by decide) rfl (by omega) (by decide)) ?_
    rw [show h.1 184 i = nI (ch i) from (hCH i (by omega)).1]
    refine t_go (op := o_istore 32 3) (fe_X12_cutAll 31) (fun _ _ => rfl) ?_
    refine t_go (op := o_iload 33 3) (fe_X12_cutAll 32) (fun _ _ => rfl) ?_
    refine t_go (op := o_ci 35 10) (fe_X12_cutAll 33) (fun _ _ => rfl) ?_
    refine t_ite (op := o_icmp 38 44 (fun x y => x = y) (fun _ _ => inferInstance)) (fe_X12_cutAll 35) g_icmp (fun c2 => ?_) (fun c2 => ?_)
    · exact absurd ((iB_n _ (hCH.lt hi)).mpr (Or.inl c2)) hB
    · refine t_go (op := o_iload 39 3) (fe_X12_cutAll 38) (fun _ _ => rfl) ?_
      refine t_go (op := o_ci 41 32) (fe_X12_cutAll 39) (fun _ _ => rfl) ?_
      refine t_ite (op := o_icmp 50 44 (fun x y => x = y) (fun _ _ => inferInstance)) (fe_X12_cutAll 41) g_icmp (fun c3 => ?_) (fun c3 => ?_)
      · exact absurd ((iB_n _ (hCH.lt hi)).mpr (Or.inr c3)) hB
      · refine t_go (op := o_iload 51 2) (fe_X12_cutAll 50) (fun _ _ => rfl) ?_
        refine t_go (op := o_istore 53 4) (fe_X12_cutAll 51) (fun _ _ => rfl) ?_
        refine t_go (op := o_cl 54 0) (fe_X12_cutAll 53) (fun _ _ => rfl) ?_
        refine t_go (op := o_lstore 56 5) (fe_X12_cutAll 54) (fun _ _ => rfl) ?_
        refine t_go (op := o_aload 57 0) (fe_X12_cutAll 56) (fun _ _ => rfl) ?_
        refine t_go (op := o_getR 60 11 5) (fe_X12_cutAll 57) (g_getR hS (show (lay 183).1 = 11 by decide) (by decide) (fr_11_5 hS) (by decide)) ?_
        refine t_go (op := o_iload 61 1) (fe_X12_cutAll 60) (fun _ _ => rfl) ?_
        refine t_go (op := o_iload 62 2) (fe_X12_cutAll 61) (fun _ _ => rfl) ?_
        refine t_go (op := o_iast 63) (fe_X12_cutAll 62) (g_iastN hS (show lay 186 = (20, 1002) by decide) rfl (by omega) (by decide)) ?_
        refine t_go (op := o_iload 64 3) (fe_X12_cutAll 63) (fun _ _ => rfl) ?_
        refine t_call (op := o_callS 67 161 1) (fe_X12_cutAll 64) (g_callS rfl rfl rfl (Nat.le_of_ble_eq_true rfl)) ?_
        refine M_eq (r_isLetter (c := ch i) (hCH.lt (by omega))) ?_
        refine t_ite (op := o_if 70 152 (fun x => x = 0) (fun _ => inferInstance)) (fe_X12_cutAll 67) g_if (fun c4 => ?_) (fun c4 => ?_)
        · replace c4 := b2i_z c4
          refine t_go (op := o_iload 153 3) (fe_X12_cutAll 152) (fun _ _ => rfl) ?_
          refine t_call (op := o_callS 156 162 1) (fe_X12_cutAll 153) (g_callS rfl rfl rfl (Nat.le_of_ble_eq_true rfl)) ?_
          refine M_eq (r_isDigit (c := ch i) (hCH.lt (by omega))) ?_
          refine t_ite (op := o_if 159 240 (fun x => x = 0) (fun _ => inferInstance)) (fe_X12_cutAll 156) g_if (fun c5 => ?_) (fun c5 => ?_)
          · exact absurd hD (b2i_z c5)
          · replace c5 := b2i_nn c5
            rw [show (0 : Int64) = lN (numN ch (min (i - i) 4) i 0) from by rw [Nat.sub_self]; rfl]
            refine lr_cd (h := sI h 186 t (nI i)) (q := i) hS (by rw [sI_ne (by decide)]; exact hCH) hlen (by rw [sI_ne (by decide)]; exact hl) (len - i) i () (by omega) (Nat.le_refl _) fun e2 he2 ee2 => ?_
            have e9 : e = e2 := (ee2.trans ee).symm
            subst e9
            refine t_go (op := o_aload 219 0) (fe_X12_cutAll 218) (fun _ _ => rfl) ?_
            refine t_go (op := o_getR 222 11 4) (fe_X12_cutAll 219) (g_getR hS (show (lay 183).1 = 11 by decide) (by decide) (fr_11_4 hS) (by decide)) ?_
            refine t_go (op := o_iload 223 1) (fe_X12_cutAll 222) (fun _ _ => rfl) ?_
            refine t_go (op := o_iload 224 2) (fe_X12_cutAll 223) (fun _ _ => rfl) ?_
            refine t_go (op := o_iload 226 4) (fe_X12_cutAll 224) (fun _ _ => rfl) ?_
            refine t_go (op := o_i2 227 (fun x y => x - y)) (fe_X12_cutAll 226) (fun _ _ => rfl) ?_
            refine t_go (op := o_ci 228 4) (fe_X12_cutAll 227) (fun _ _ => rfl) ?_
            refine t_ite (op := o_icmp 231 235 (fun x y => x ≤ y) (fun _ _ => inferInstance)) (fe_X12_cutAll 228) g_icmp (fun c6 => ?_) (fun c6 => ?_)
            · exact absurd (le_nI (a := e - i) (b := 4) (by omega) (by decide) (by rw [← nIs (a := e) (b := i) rfl rfl (by omega)]; exact c6)) h8
            · refine t_go (op := o_ci 232 4) (fe_X12_cutAll 231) (fun _ _ => rfl) ?_
              refine t_go (op := o_goto 236) (fe_X12_cutAll 232) (fun _ _ => rfl) ?_
              refine t_go (op := o_iast 237) (fe_X12_cutAll 236) (g_iastN hS (show lay 185 = (20, 1002) by decide) rfl (by omega) (by decide)) ?_
              refine t_go (op := o_goto 265) (fe_X12_cutAll 237) (fun _ _ => rfl) ?_
              refine t_go (op := o_aload 266 0) (fe_X12_cutAll 265) (fun _ _ => rfl) ?_
              refine t_go (op := o_getR 269 11 6) (fe_X12_cutAll 266) (g_getR hS (show (lay 183).1 = 11 by decide) (by decide) (fr_11_6 hS) (by decide)) ?_
              refine t_go (op := o_iload 270 1) (fe_X12_cutAll 269) (fun _ _ => rfl) ?_
              refine t_go (op := o_lload 272 5) (fe_X12_cutAll 270) (fun _ _ => rfl) ?_
              refine t_go (op := o_last 273) (fe_X12_cutAll 272) (g_lastN hS (show lay 187 = (21, 1002) by decide) rfl (by omega) (by decide)) ?_
              refine t_go (op := o_iinc 276 1 1) (fe_X12_cutAll 273) (fun _ _ => rfl) ?_
              refine t_go (op := o_goto 17) (fe_X12_cutAll 276) (fun _ _ => rfl) ?_
              rw [nI_1]
              exact hq
        · exact absurd (b2i_nn c4) hL
set_option maxRecDepth 8000 in
theorem lr_cutS {d : Nat} {h : AHP} {ch : Nat → Nat} {len : Nat} (hS : Std h) (hCH : CHr (h.1 184) ch len) (hlen : len ≤ 1000) (hl : h.1 183 3 = nI len) {t i : Nat} (ht : t ≤ 1000) {x3 x4 x5 x6 : Option Value} (hi : i < len) (hB : ¬ iB (ch i) = true) (hL : ¬ iL (ch i) = true) (hD : ¬ iD (ch i) = true) (hG : iG (ch i) = true) {Q : Option Value → AHP → Prop} (hq : TT (d + 2) 165 17 [some (.ref 183), some (.int (nI (t + 1))), some (.int (nI (i + 1))), some (.int (nI (ch i))), some (.int (nI i)), some (.long (lN (ch i))), none] [] (sJ (sI (sI h 186 t (nI i)) 185 t 3) 187 t (lN (ch i))) Q) : TT (d + 2) 165 17 [some (.ref 183), some (.int (nI t)), some (.int (nI i)), x3, x4, x5, x6] [] h Q := by
  refine t_go (op := o_iload 18 2) (fe_X12_cutAll 17) (fun _ _ => rfl) ?_
  refine t_go (op := o_aload 19 0) (fe_X12_cutAll 18) (fun _ _ => rfl) ?_
  refine t_go (op := o_getI 22 11 3) (fe_X12_cutAll 19) (g_getI hS (show (lay 183).1 = 11 by decide) (by decide)) ?_
  rw [show h.1 183 3 = nI len from hl]
  refine t_ite (op := o_icmp 25 279 (fun x y => y ≤ x) (fun _ _ => inferInstance)) (fe_X12_cutAll 22) g_icmp (fun c1 => ?_) (fun c1 => ?_)
  · exact absurd c1 (nI_ge hi (by omega))
  · refine t_go (op := o_aload 26 0) (fe_X12_cutAll 25) (fun _ _ => rfl) ?_
    refine t_go (op := o_getR 29 11 1) (fe_X12_cutAll 26) (g_getR hS (show (lay 183).1 = 11 by decide) (by decide) (fr_11_1 hS) (by decide)) ?_
    refine t_go (op := o_iload 30 2) (fe_X12_cutAll 29) (fun _ _ => rfl) ?_
    refine t_go (op := o_iald 31) (fe_X12_cutAll 30) (g_ialdN hS (show lay 184 = (20, 1000) by decide) rfl (by omega) (by decide)) ?_
    rw [show h.1 184 i = nI (ch i) from (hCH i (by omega)).1]
    refine t_go (op := o_istore 32 3) (fe_X12_cutAll 31) (fun _ _ => rfl) ?_
    refine t_go (op := o_iload 33 3) (fe_X12_cutAll 32) (fun _ _ => rfl) ?_
    refine t_go (op := o_ci 35 10) (fe_X12_cutAll 33) (fun _ _ => rfl) ?_
    refine t_ite (op := o_icmp 38 44 (fun x y => x = y) (fun _ _ => inferInstance)) (fe_X12_cutAll 35) g_icmp (fun c2 => ?_) (fun c2 => ?_)
    · exact absurd ((iB_n _ (hCH.lt hi)).mpr (Or.inl c2)) hB
    · refine t_go (op := o_iload 39 3) (fe_X12_cutAll 38) (fun _ _ => rfl) ?_
      refine t_go (op := o_ci 41 32) (fe_X12_cutAll 39) (fun _ _ => rfl) ?_
      refine t_ite (op := o_icmp 50 44 (fun x y => x = y) (fun _ _ => inferInstance)) (fe_X12_cutAll 41) g_icmp (fun c3 => ?_) (fun c3 => ?_)
      · exact absurd ((iB_n _ (hCH.lt hi)).mpr (Or.inr c3)) hB
      · refine t_go (op := o_iload 51 2) (fe_X12_cutAll 50) (fun _ _ => rfl) ?_
        refine t_go (op := o_istore 53 4) (fe_X12_cutAll 51) (fun _ _ => rfl) ?_
        refine t_go (op := o_cl 54 0) (fe_X12_cutAll 53) (fun _ _ => rfl) ?_
        refine t_go (op := o_lstore 56 5) (fe_X12_cutAll 54) (fun _ _ => rfl) ?_
        refine t_go (op := o_aload 57 0) (fe_X12_cutAll 56) (fun _ _ => rfl) ?_
        refine t_go (op := o_getR 60 11 5) (fe_X12_cutAll 57) (g_getR hS (show (lay 183).1 = 11 by decide) (by decide) (fr_11_5 hS) (by decide)) ?_
        refine t_go (op := o_iload 61 1) (fe_X12_cutAll 60) (fun _ _ => rfl) ?_
        refine t_go (op := o_iload 62 2) (fe_X12_cutAll 61) (fun _ _ => rfl) ?_
        refine t_go (op := o_iast 63) (fe_X12_cutAll 62) (g_iastN hS (show lay 186 = (20, 1002) by decide) rfl (by omega) (by decide)) ?_
        refine t_go (op := o_iload 64 3) (fe_X12_cutAll 63) (fun _ _ => rfl) ?_
        refine t_call (op := o_callS 67 161 1) (fe_X12_cutAll 64) (g_callS rfl rfl rfl (Nat.le_of_ble_eq_true rfl)) ?_
        refine M_eq (r_isLetter (c := ch i) (hCH.lt (by omega))) ?_
        refine t_ite (op := o_if 70 152 (fun x => x = 0) (fun _ => inferInstance)) (fe_X12_cutAll 67) g_if (fun c4 => ?_) (fun c4 => ?_)
        · replace c4 := b2i_z c4
          refine t_go (op := o_iload 153 3) (fe_X12_cutAll 152) (fun _ _ => rfl) ?_
          refine t_call (op := o_callS 156 162 1) (fe_X12_cutAll 153) (g_callS rfl rfl rfl (Nat.le_of_ble_eq_true rfl)) ?_
          refine M_eq (r_isDigit (c := ch i) (hCH.lt (by omega))) ?_
          refine t_ite (op := o_if 159 240 (fun x => x = 0) (fun _ => inferInstance)) (fe_X12_cutAll 156) g_if (fun c5 => ?_) (fun c5 => ?_)
          · replace c5 := b2i_z c5
            refine t_go (op := o_iload 241 3) (fe_X12_cutAll 240) (fun _ _ => rfl) ?_
            refine t_go (op := o_i2l 242) (fe_X12_cutAll 241) (fun _ _ => rfl) ?_
            refine t_go (op := o_lstore 244 5) (fe_X12_cutAll 242) (fun _ _ => rfl) ?_
            refine t_go (op := o_aload 245 0) (fe_X12_cutAll 244) (fun _ _ => rfl) ?_
            refine t_go (op := o_getR 248 11 4) (fe_X12_cutAll 245) (g_getR hS (show (lay 183).1 = 11 by decide) (by decide) (fr_11_4 hS) (by decide)) ?_
            refine t_go (op := o_iload 249 1) (fe_X12_cutAll 248) (fun _ _ => rfl) ?_
            refine t_go (op := o_iload 250 3) (fe_X12_cutAll 249) (fun _ _ => rfl) ?_
            refine t_call (op := o_callS 253 164 1) (fe_X12_cutAll 250) (g_callS rfl rfl rfl (Nat.le_of_ble_eq_true rfl)) ?_
            refine M_eq (r_isSignOf (c := ch i) (hCH.lt (by omega))) ?_
            refine t_ite (op := o_if 256 260 (fun x => x = 0) (fun _ => inferInstance)) (fe_X12_cutAll 253) g_if (fun c6 => ?_) (fun c6 => ?_)
            · exact absurd hG (b2i_z c6)
            · replace c6 := b2i_nn c6
              refine t_go (op := o_ci 257 3) (fe_X12_cutAll 256) (fun _ _ => rfl) ?_
              refine t_go (op := o_goto 261) (fe_X12_cutAll 257) (fun _ _ => rfl) ?_
              refine t_go (op := o_iast 262) (fe_X12_cutAll 261) (g_iastN hS (show lay 185 = (20, 1002) by decide) rfl (by omega) (by decide)) ?_
              refine t_go (op := o_iinc 265 2 1) (fe_X12_cutAll 262) (fun _ _ => rfl) ?_
              refine t_go (op := o_aload 266 0) (fe_X12_cutAll 265) (fun _ _ => rfl) ?_
              refine t_go (op := o_getR 269 11 6) (fe_X12_cutAll 266) (g_getR hS (show (lay 183).1 = 11 by decide) (by decide) (fr_11_6 hS) (by decide)) ?_
              refine t_go (op := o_iload 270 1) (fe_X12_cutAll 269) (fun _ _ => rfl) ?_
              refine t_go (op := o_lload 272 5) (fe_X12_cutAll 270) (fun _ _ => rfl) ?_
              refine t_go (op := o_last 273) (fe_X12_cutAll 272) (g_lastN hS (show lay 187 = (21, 1002) by decide) rfl (by omega) (by decide)) ?_
              refine t_go (op := o_iinc 276 1 1) (fe_X12_cutAll 273) (fun _ _ => rfl) ?_
              refine t_go (op := o_goto 17) (fe_X12_cutAll 276) (fun _ _ => rfl) ?_
              rw [nI_1, nI_1, show Int32.toInt64 (nI (ch i)) = lN (ch i) from nI_l (by have := hCH.lt hi; omega)]
              exact hq
          · exact absurd (b2i_nn c5) hD
        · exact absurd (b2i_nn c4) hL
set_option maxRecDepth 8000 in
theorem lr_cutSb {d : Nat} {h : AHP} {ch : Nat → Nat} {len : Nat} (hS : Std h) (hCH : CHr (h.1 184) ch len) (hlen : len ≤ 1000) (hl : h.1 183 3 = nI len) {t i : Nat} (ht : t ≤ 1000) {x3 x4 x5 x6 : Option Value} (hi : i < len) (hB : ¬ iB (ch i) = true) (hL : ¬ iL (ch i) = true) (hD : ¬ iD (ch i) = true) (hG : ¬ iG (ch i) = true) {Q : Option Value → AHP → Prop} (hq : TT (d + 2) 165 17 [some (.ref 183), some (.int (nI (t + 1))), some (.int (nI (i + 1))), some (.int (nI (ch i))), some (.int (nI i)), some (.long (lN (ch i))), none] [] (sJ (sI (sI h 186 t (nI i)) 185 t 4) 187 t (lN (ch i))) Q) : TT (d + 2) 165 17 [some (.ref 183), some (.int (nI t)), some (.int (nI i)), x3, x4, x5, x6] [] h Q := by
  refine t_go (op := o_iload 18 2) (fe_X12_cutAll 17) (fun _ _ => rfl) ?_
  refine t_go (op := o_aload 19 0) (fe_X12_cutAll 18) (fun _ _ => rfl) ?_
  refine t_go (op := o_getI 22 11 3) (fe_X12_cutAll 19) (g_getI hS (show (lay 183).1 = 11 by decide) (by decide)) ?_
  rw [show h.1 183 3 = nI len from hl]
  refine t_ite (op := o_icmp 25 279 (fun x y => y ≤ x) (fun _ _ => inferInstance)) (fe_X12_cutAll 22) g_icmp (fun c1 => ?_) (fun c1 => ?_)
  · exact absurd c1 (nI_ge hi (by omega))
  · refine t_go (op := o_aload 26 0) (fe_X12_cutAll 25) (fun _ _ => rfl) ?_
    refine t_go (op := o_getR 29 11 1) (fe_X12_cutAll 26) (g_getR hS (show (lay 183).1 = 11 by decide) (by decide) (fr_11_1 hS) (by decide)) ?_
    refine t_go (op := o_iload 30 2) (fe_X12_cutAll 29) (fun _ _ => rfl) ?_
    refine t_go (op := o_iald 31) (fe_X12_cutAll 30) (g_ialdN hS (show lay 184 = (20, 1000) by decide) rfl (by omega) (by decide)) ?_
    rw [show h.1 184 i = nI (ch i) from (hCH i (by omega)).1]
    refine t_go (op := o_istore 32 3) (fe_X12_cutAll 31) (fun _ _ => rfl) ?_
    refine t_go (op := o_iload 33 3) (fe_X12_cutAll 32) (fun _ _ => rfl) ?_
    refine t_go (op := o_ci 35 10) (fe_X12_cutAll 33) (fun _ _ => rfl) ?_
    refine t_ite (op := o_icmp 38 44 (fun x y => x = y) (fun _ _ => inferInstance)) (fe_X12_cutAll 35) g_icmp (fun c2 => ?_) (fun c2 => ?_)
    · exact absurd ((iB_n _ (hCH.lt hi)).mpr (Or.inl c2)) hB
    · refine t_go (op := o_iload 39 3) (fe_X12_cutAll 38) (fun _ _ => rfl) ?_
      refine t_go (op := o_ci 41 32) (fe_X12_cutAll 39) (fun _ _ => rfl) ?_
      refine t_ite (op := o_icmp 50 44 (fun x y => x = y) (fun _ _ => inferInstance)) (fe_X12_cutAll 41) g_icmp (fun c3 => ?_) (fun c3 => ?_)
      · exact absurd ((iB_n _ (hCH.lt hi)).mpr (Or.inr c3)) hB
      · refine t_go (op := o_iload 51 2) (fe_X12_cutAll 50) (fun _ _ => rfl) ?_
        refine t_go (op := o_istore 53 4) (fe_X12_cutAll 51) (fun _ _ => rfl) ?_
        refine t_go (op := o_cl 54 0) (fe_X12_cutAll 53) (fun _ _ => rfl) ?_
        refine t_go (op := o_lstore 56 5) (fe_X12_cutAll 54) (fun _ _ => rfl) ?_
        refine t_go (op := o_aload 57 0) (fe_X12_cutAll 56) (fun _ _ => rfl) ?_
        refine t_go (op := o_getR 60 11 5) (fe_X12_cutAll 57) (g_getR hS (show (lay 183).1 = 11 by decide) (by decide) (fr_11_5 hS) (by decide)) ?_
        refine t_go (op := o_iload 61 1) (fe_X12_cutAll 60) (fun _ _ => rfl) ?_
        refine t_go (op := o_iload 62 2) (fe_X12_cutAll 61) (fun _ _ => rfl) ?_
        refine t_go (op := o_iast 63) (fe_X12_cutAll 62) (g_iastN hS (show lay 186 = (20, 1002) by decide) rfl (by omega) (by decide)) ?_
        refine t_go (op := o_iload 64 3) (fe_X12_cutAll 63) (fun _ _ => rfl) ?_
        refine t_call (op := o_callS 67 161 1) (fe_X12_cutAll 64) (g_callS rfl rfl rfl (Nat.le_of_ble_eq_true rfl)) ?_
        refine M_eq (r_isLetter (c := ch i) (hCH.lt (by omega))) ?_
        refine t_ite (op := o_if 70 152 (fun x => x = 0) (fun _ => inferInstance)) (fe_X12_cutAll 67) g_if (fun c4 => ?_) (fun c4 => ?_)
        · replace c4 := b2i_z c4
          refine t_go (op := o_iload 153 3) (fe_X12_cutAll 152) (fun _ _ => rfl) ?_
          refine t_call (op := o_callS 156 162 1) (fe_X12_cutAll 153) (g_callS rfl rfl rfl (Nat.le_of_ble_eq_true rfl)) ?_
          refine M_eq (r_isDigit (c := ch i) (hCH.lt (by omega))) ?_
          refine t_ite (op := o_if 159 240 (fun x => x = 0) (fun _ => inferInstance)) (fe_X12_cutAll 156) g_if (fun c5 => ?_) (fun c5 => ?_)
          · replace c5 := b2i_z c5
            refine t_go (op := o_iload 241 3) (fe_X12_cutAll 240) (fun _ _ => rfl) ?_
            refine t_go (op := o_i2l 242) (fe_X12_cutAll 241) (fun _ _ => rfl) ?_
            refine t_go (op := o_lstore 244 5) (fe_X12_cutAll 242) (fun _ _ => rfl) ?_
            refine t_go (op := o_aload 245 0) (fe_X12_cutAll 244) (fun _ _ => rfl) ?_
            refine t_go (op := o_getR 248 11 4) (fe_X12_cutAll 245) (g_getR hS (show (lay 183).1 = 11 by decide) (by decide) (fr_11_4 hS) (by decide)) ?_
            refine t_go (op := o_iload 249 1) (fe_X12_cutAll 248) (fun _ _ => rfl) ?_
            refine t_go (op := o_iload 250 3) (fe_X12_cutAll 249) (fun _ _ => rfl) ?_
            refine t_call (op := o_callS 253 164 1) (fe_X12_cutAll 250) (g_callS rfl rfl rfl (Nat.le_of_ble_eq_true rfl)) ?_
            refine M_eq (r_isSignOf (c := ch i) (hCH.lt (by omega))) ?_
            refine t_ite (op := o_if 256 260 (fun x => x = 0) (fun _ => inferInstance)) (fe_X12_cutAll 253) g_if (fun c6 => ?_) (fun c6 => ?_)
            · replace c6 := b2i_z c6
              refine t_go (op := o_ci 261 4) (fe_X12_cutAll 260) (fun _ _ => rfl) ?_
              refine t_go (op := o_iast 262) (fe_X12_cutAll 261) (g_iastN hS (show lay 185 = (20, 1002) by decide) rfl (by omega) (by decide)) ?_
              refine t_go (op := o_iinc 265 2 1) (fe_X12_cutAll 262) (fun _ _ => rfl) ?_
              refine t_go (op := o_aload 266 0) (fe_X12_cutAll 265) (fun _ _ => rfl) ?_
              refine t_go (op := o_getR 269 11 6) (fe_X12_cutAll 266) (g_getR hS (show (lay 183).1 = 11 by decide) (by decide) (fr_11_6 hS) (by decide)) ?_
              refine t_go (op := o_iload 270 1) (fe_X12_cutAll 269) (fun _ _ => rfl) ?_
              refine t_go (op := o_lload 272 5) (fe_X12_cutAll 270) (fun _ _ => rfl) ?_
              refine t_go (op := o_last 273) (fe_X12_cutAll 272) (g_lastN hS (show lay 187 = (21, 1002) by decide) rfl (by omega) (by decide)) ?_
              refine t_go (op := o_iinc 276 1 1) (fe_X12_cutAll 273) (fun _ _ => rfl) ?_
              refine t_go (op := o_goto 17) (fe_X12_cutAll 276) (fun _ _ => rfl) ?_
              rw [nI_1, nI_1, show Int32.toInt64 (nI (ch i)) = lN (ch i) from nI_l (by have := hCH.lt hi; omega)]
              exact hq
            · exact absurd (b2i_nn c6) hG
          · exact absurd (b2i_nn c5) hD
        · exact absurd (b2i_nn c4) hL
set_option maxRecDepth 8000 in
theorem lr_cutE {d : Nat} {h : AHP} {ch : Nat → Nat} {len : Nat} (hS : Std h) (hCH : CHr (h.1 184) ch len) (hlen : len ≤ 1000) (hl : h.1 183 3 = nI len) {t i : Nat} (ht : t ≤ 1000) {x3 x4 x5 x6 : Option Value} (hi : i = len) {Q : Option Value → AHP → Prop} (hq : Q none (sI (sI (sI (sI h 185 t 0) 186 t (nI len)) 183 7 0) 183 8 0)) : TT (d + 2) 165 17 [some (.ref 183), some (.int (nI t)), some (.int (nI i)), x3, x4, x5, x6] [] h Q := by
  refine t_go (op := o_iload 18 2) (fe_X12_cutAll 17) (fun _ _ => rfl) ?_
  refine t_go (op := o_aload 19 0) (fe_X12_cutAll 18) (fun _ _ => rfl) ?_
  refine t_go (op := o_getI 22 11 3) (fe_X12_cutAll 19) (g_getI hS (show (lay 183).1 = 11 by decide) (by decide)) ?_
  rw [show h.1 183 3 = nI len from hl]
  refine t_ite (op := o_icmp 25 279 (fun x y => y ≤ x) (fun _ _ => inferInstance)) (fe_X12_cutAll 22) g_icmp (fun c1 => ?_) (fun c1 => ?_)
  · refine t_go (op := o_aload 280 0) (fe_X12_cutAll 279) (fun _ _ => rfl) ?_
    refine t_go (op := o_getR 283 11 4) (fe_X12_cutAll 280) (g_getR hS (show (lay 183).1 = 11 by decide) (by decide) (fr_11_4 hS) (by decide)) ?_
    refine t_go (op := o_iload 284 1) (fe_X12_cutAll 283) (fun _ _ => rfl) ?_
    refine t_go (op := o_ci 285 0) (fe_X12_cutAll 284) (fun _ _ => rfl) ?_
    refine t_go (op := o_iast 286) (fe_X12_cutAll 285) (g_iastN hS (show lay 185 = (20, 1002) by decide) rfl (by omega) (by decide)) ?_
    refine t_go (op := o_aload 287 0) (fe_X12_cutAll 286) (fun _ _ => rfl) ?_
    refine t_go (op := o_getR 290 11 5) (fe_X12_cutAll 287) (g_getR hS (show (lay 183).1 = 11 by decide) (by decide) (fr_11_5 hS) (by decide)) ?_
    refine t_go (op := o_iload 291 1) (fe_X12_cutAll 290) (fun _ _ => rfl) ?_
    refine t_go (op := o_aload 292 0) (fe_X12_cutAll 291) (fun _ _ => rfl) ?_
    refine t_go (op := o_getI 295 11 3) (fe_X12_cutAll 292) (g_getI hS (show (lay 183).1 = 11 by decide) (by decide)) ?_
    rw [show (sI h 185 t 0).1 183 3 = nI len from hl]
    refine t_go (op := o_iast 296) (fe_X12_cutAll 295) (g_iastN hS (show lay 186 = (20, 1002) by decide) rfl (by omega) (by decide)) ?_
    refine t_go (op := o_aload 297 0) (fe_X12_cutAll 296) (fun _ _ => rfl) ?_
    refine t_go (op := o_ci 298 0) (fe_X12_cutAll 297) (fun _ _ => rfl) ?_
    refine t_go (op := o_putI 301 11 7) (fe_X12_cutAll 298) (g_putI hS (show (lay 183).1 = 11 by decide) (by decide)) ?_
    refine t_go (op := o_aload 302 0) (fe_X12_cutAll 301) (fun _ _ => rfl) ?_
    refine t_go (op := o_ci 303 0) (fe_X12_cutAll 302) (fun _ _ => rfl) ?_
    refine t_go (op := o_putI 306 11 8) (fe_X12_cutAll 303) (g_putI hS (show (lay 183).1 = 11 by decide) (by decide)) ?_
    refine t_ret (op := o_vret) (fe_X12_cutAll 306) (fun _ _ => rfl) ?_
    exact hq
  · exact absurd (by rw [hi]; exact Int32.le_refl _) c1
