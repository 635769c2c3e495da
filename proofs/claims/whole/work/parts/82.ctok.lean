/-! ===== the class: tokens ===== -/
def blV (x : Int32) : Int32 := if x = 32 then 1 else if x = 10 then 1 else 0
def leV (x : Int32) : Int32 := if x < 97 then 0 else if 122 < x then 0 else 1
def diV (x : Int32) : Int32 := if x < 48 then 0 else if 57 < x then 0 else 1
def osV (x : Int32) : Int32 := if x = 40 then 1 else if x = 41 then 1 else if x = 60 then 1 else if x = 61 then 1 else if x = 43 then 1 else if x = 45 then 1 else if x = 42 then 1 else if x = 59 then 1 else 0
theorem b2i_b {b : Bool} : b2i (b = true) = if b = true then 1 else 0 := by
  by_cases h : b = true
  · rw [b2i_t h, if_pos h]
  · rw [b2i_f h, if_neg h]
theorem blV_n : ∀ c, c < 128 → blV (nI c) = if iB c = true then 1 else 0 := by decide +kernel
theorem leV_n : ∀ c, c < 128 → leV (nI c) = if iL c = true then 1 else 0 := by decide +kernel
theorem diV_n : ∀ c, c < 128 → diV (nI c) = if iD c = true then 1 else 0 := by decide +kernel
theorem osV_n : ∀ c, c < 128 → osV (nI c) = if iG c = true then 1 else 0 := by decide +kernel
theorem sJ_sJ {h : AHP} {a i : Nat} {u v : Int64} : sJ (sJ h a i u) a i v = sJ h a i v := by
  have : up2 (up2 h.2.1 a i u) a i v = up2 h.2.1 a i v := by
    funext b j
    unfold up2
    by_cases h1 : b = a
    · by_cases h2 : j = i
      · simp [h1, h2]
      · simp [h1, h2]
    · simp [h1]
  unfold sJ
  rw [show (h.1, up2 h.2.1 a i u, h.2.2).2.1 = up2 h.2.1 a i u from rfl, this]
theorem sI_sI {h : AHP} {a i : Nat} {u v : Int32} : sI (sI h a i u) a i v = sI h a i v := by
  refine AHP_ext (fun b j => ?_) rfl
  simp only [sI, up2]
  by_cases h1 : b = a
  · by_cases h2 : j = i
    · simp [h1, h2]
    · simp [h1, h2]
  · simp [h1]
theorem rdJ2 {h : AHP} {a i : Nat} {v : Int64} : (sJ h a i v).2.1 a i = v := by simp [sJ, up2]
theorem numN_snoc {ch : Nat → Nat} : ∀ (j p a : Nat), numN ch (j + 1) p a = 10 * numN ch j p a + (ch (p + j) - 48) := by
  intro j
  induction j with
  | zero => intro p a; rfl
  | succ j ih => intro p a; rw [numN, ih, numN, show p + 1 + j = p + (j + 1) by omega]
theorem c0_isBlank {d : Nat} {h : AHP} {x : Int32} : MM d 99 [.int x] h (fun v h2 => v = some (.int (blV x)) ∧ h2 = h) := by
  refine ⟨Nat.le_of_ble_eq_true rfl, ?_⟩
  refine t_go (op := o_iload 1 0) (fe_X9_isBlank 0) (fun _ _ => rfl) ?_
  refine t_go (op := o_ci 3 32) (fe_X9_isBlank 1) (fun _ _ => rfl) ?_
  refine t_ite (op := o_icmp 6 12 (fun x y => x = y) (fun _ _ => inferInstance)) (fe_X9_isBlank 3) g_icmp (fun c1 => ?_) (fun c1 => ?_)
  · refine t_go (op := o_ci 13 1) (fe_X9_isBlank 12) (fun _ _ => rfl) ?_
    refine t_go (op := o_goto 17) (fe_X9_isBlank 13) (fun _ _ => rfl) ?_
    refine t_ret (op := o_zret) (fe_X9_isBlank 17) (g_zret (Or.inr rfl)) ?_
    exact ⟨congrArg (fun z => some (Value.int z)) (Eq.symm (show blV x = _ from (if_pos c1))), rfl⟩
  · refine t_go (op := o_iload 7 0) (fe_X9_isBlank 6) (fun _ _ => rfl) ?_
    refine t_go (op := o_ci 9 10) (fe_X9_isBlank 7) (fun _ _ => rfl) ?_
    refine t_ite (op := o_icmp 16 12 (fun x y => x = y) (fun _ _ => inferInstance)) (fe_X9_isBlank 9) g_icmp (fun c2 => ?_) (fun c2 => ?_)
    · refine t_go (op := o_ci 13 1) (fe_X9_isBlank 12) (fun _ _ => rfl) ?_
      refine t_go (op := o_goto 17) (fe_X9_isBlank 13) (fun _ _ => rfl) ?_
      refine t_ret (op := o_zret) (fe_X9_isBlank 17) (g_zret (Or.inr rfl)) ?_
      exact ⟨congrArg (fun z => some (Value.int z)) (Eq.symm (show blV x = _ from (Eq.trans (if_neg c1) (if_pos c2)))), rfl⟩
    · refine t_go (op := o_ci 17 0) (fe_X9_isBlank 16) (fun _ _ => rfl) ?_
      refine t_ret (op := o_zret) (fe_X9_isBlank 17) (g_zret (Or.inl rfl)) ?_
      exact ⟨congrArg (fun z => some (Value.int z)) (Eq.symm (show blV x = _ from (Eq.trans (if_neg c1) (if_neg c2)))), rfl⟩
theorem c_isBlank {d : Nat} {h : AHP} {c : Nat} (hc : c < 128) : MM d 99 [.int (nI c)] h (fun v h2 => v = some (.int (b2i (iB c = true))) ∧ h2 = h) := by
  have q := c0_isBlank (d := d) (h := h) (x := nI c)
  rw [blV_n c hc, ← b2i_b] at q
  exact q
theorem c0_isLetter {d : Nat} {h : AHP} {x : Int32} : MM d 100 [.int x] h (fun v h2 => v = some (.int (leV x)) ∧ h2 = h) := by
  refine ⟨Nat.le_of_ble_eq_true rfl, ?_⟩
  refine t_go (op := o_iload 1 0) (fe_X9_isLetter 0) (fun _ _ => rfl) ?_
  refine t_go (op := o_ci 3 97) (fe_X9_isLetter 1) (fun _ _ => rfl) ?_
  refine t_ite (op := o_icmp 6 16 (fun x y => x < y) (fun _ _ => inferInstance)) (fe_X9_isLetter 3) g_icmp (fun c1 => ?_) (fun c1 => ?_)
  · refine t_go (op := o_ci 17 0) (fe_X9_isLetter 16) (fun _ _ => rfl) ?_
    refine t_ret (op := o_zret) (fe_X9_isLetter 17) (g_zret (Or.inl rfl)) ?_
    exact ⟨congrArg (fun z => some (Value.int z)) (Eq.symm (show leV x = _ from (if_pos c1))), rfl⟩
  · refine t_go (op := o_iload 7 0) (fe_X9_isLetter 6) (fun _ _ => rfl) ?_
    refine t_go (op := o_ci 9 122) (fe_X9_isLetter 7) (fun _ _ => rfl) ?_
    refine t_ite (op := o_icmp 12 16 (fun x y => y < x) (fun _ _ => inferInstance)) (fe_X9_isLetter 9) g_icmp (fun c2 => ?_) (fun c2 => ?_)
    · refine t_go (op := o_ci 17 0) (fe_X9_isLetter 16) (fun _ _ => rfl) ?_
      refine t_ret (op := o_zret) (fe_X9_isLetter 17) (g_zret (Or.inl rfl)) ?_
      exact ⟨congrArg (fun z => some (Value.int z)) (Eq.symm (show leV x = _ from (Eq.trans (if_neg c1) (if_pos c2)))), rfl⟩
    · refine t_go (op := o_ci 13 1) (fe_X9_isLetter 12) (fun _ _ => rfl) ?_
      refine t_go (op := o_goto 17) (fe_X9_isLetter 13) (fun _ _ => rfl) ?_
      refine t_ret (op := o_zret) (fe_X9_isLetter 17) (g_zret (Or.inr rfl)) ?_
      exact ⟨congrArg (fun z => some (Value.int z)) (Eq.symm (show leV x = _ from (Eq.trans (if_neg c1) (if_neg c2)))), rfl⟩
theorem c_isLetter {d : Nat} {h : AHP} {c : Nat} (hc : c < 128) : MM d 100 [.int (nI c)] h (fun v h2 => v = some (.int (b2i (iL c = true))) ∧ h2 = h) := by
  have q := c0_isLetter (d := d) (h := h) (x := nI c)
  rw [leV_n c hc, ← b2i_b] at q
  exact q
theorem c0_isDigit {d : Nat} {h : AHP} {x : Int32} : MM d 101 [.int x] h (fun v h2 => v = some (.int (diV x)) ∧ h2 = h) := by
  refine ⟨Nat.le_of_ble_eq_true rfl, ?_⟩
  refine t_go (op := o_iload 1 0) (fe_X9_isDigit 0) (fun _ _ => rfl) ?_
  refine t_go (op := o_ci 3 48) (fe_X9_isDigit 1) (fun _ _ => rfl) ?_
  refine t_ite (op := o_icmp 6 16 (fun x y => x < y) (fun _ _ => inferInstance)) (fe_X9_isDigit 3) g_icmp (fun c1 => ?_) (fun c1 => ?_)
  · refine t_go (op := o_ci 17 0) (fe_X9_isDigit 16) (fun _ _ => rfl) ?_
    refine t_ret (op := o_zret) (fe_X9_isDigit 17) (g_zret (Or.inl rfl)) ?_
    exact ⟨congrArg (fun z => some (Value.int z)) (Eq.symm (show diV x = _ from (if_pos c1))), rfl⟩
  · refine t_go (op := o_iload 7 0) (fe_X9_isDigit 6) (fun _ _ => rfl) ?_
    refine t_go (op := o_ci 9 57) (fe_X9_isDigit 7) (fun _ _ => rfl) ?_
    refine t_ite (op := o_icmp 12 16 (fun x y => y < x) (fun _ _ => inferInstance)) (fe_X9_isDigit 9) g_icmp (fun c2 => ?_) (fun c2 => ?_)
    · refine t_go (op := o_ci 17 0) (fe_X9_isDigit 16) (fun _ _ => rfl) ?_
      refine t_ret (op := o_zret) (fe_X9_isDigit 17) (g_zret (Or.inl rfl)) ?_
      exact ⟨congrArg (fun z => some (Value.int z)) (Eq.symm (show diV x = _ from (Eq.trans (if_neg c1) (if_pos c2)))), rfl⟩
    · refine t_go (op := o_ci 13 1) (fe_X9_isDigit 12) (fun _ _ => rfl) ?_
      refine t_go (op := o_goto 17) (fe_X9_isDigit 13) (fun _ _ => rfl) ?_
      refine t_ret (op := o_zret) (fe_X9_isDigit 17) (g_zret (Or.inr rfl)) ?_
      exact ⟨congrArg (fun z => some (Value.int z)) (Eq.symm (show diV x = _ from (Eq.trans (if_neg c1) (if_neg c2)))), rfl⟩
theorem c_isDigit {d : Nat} {h : AHP} {c : Nat} (hc : c < 128) : MM d 101 [.int (nI c)] h (fun v h2 => v = some (.int (b2i (iD c = true))) ∧ h2 = h) := by
  have q := c0_isDigit (d := d) (h := h) (x := nI c)
  rw [diV_n c hc, ← b2i_b] at q
  exact q
theorem c0_isOwnSign {d : Nat} {h : AHP} {x : Int32} : MM d 102 [.int x] h (fun v h2 => v = some (.int (osV x)) ∧ h2 = h) := by
  refine ⟨Nat.le_of_ble_eq_true rfl, ?_⟩
  refine t_go (op := o_iload 1 0) (fe_X9_isOwnSign 0) (fun _ _ => rfl) ?_
  refine t_go (op := o_ci 3 40) (fe_X9_isOwnSign 1) (fun _ _ => rfl) ?_
  refine t_ite (op := o_icmp 6 48 (fun x y => x = y) (fun _ _ => inferInstance)) (fe_X9_isOwnSign 3) g_icmp (fun c1 => ?_) (fun c1 => ?_)
  · refine t_go (op := o_ci 49 1) (fe_X9_isOwnSign 48) (fun _ _ => rfl) ?_
    refine t_go (op := o_goto 53) (fe_X9_isOwnSign 49) (fun _ _ => rfl) ?_
    refine t_ret (op := o_zret) (fe_X9_isOwnSign 53) (g_zret (Or.inr rfl)) ?_
    exact ⟨congrArg (fun z => some (Value.int z)) (Eq.symm (show osV x = _ from (if_pos c1))), rfl⟩
  · refine t_go (op := o_iload 7 0) (fe_X9_isOwnSign 6) (fun _ _ => rfl) ?_
    refine t_go (op := o_ci 9 41) (fe_X9_isOwnSign 7) (fun _ _ => rfl) ?_
    refine t_ite (op := o_icmp 12 48 (fun x y => x = y) (fun _ _ => inferInstance)) (fe_X9_isOwnSign 9) g_icmp (fun c2 => ?_) (fun c2 => ?_)
    · refine t_go (op := o_ci 49 1) (fe_X9_isOwnSign 48) (fun _ _ => rfl) ?_
      refine t_go (op := o_goto 53) (fe_X9_isOwnSign 49) (fun _ _ => rfl) ?_
      refine t_ret (op := o_zret) (fe_X9_isOwnSign 53) (g_zret (Or.inr rfl)) ?_
      exact ⟨congrArg (fun z => some (Value.int z)) (Eq.symm (show osV x = _ from (Eq.trans (if_neg c1) (if_pos c2)))), rfl⟩
    · refine t_go (op := o_iload 13 0) (fe_X9_isOwnSign 12) (fun _ _ => rfl) ?_
      refine t_go (op := o_ci 15 60) (fe_X9_isOwnSign 13) (fun _ _ => rfl) ?_
      refine t_ite (op := o_icmp 18 48 (fun x y => x = y) (fun _ _ => inferInstance)) (fe_X9_isOwnSign 15) g_icmp (fun c3 => ?_) (fun c3 => ?_)
      · refine t_go (op := o_ci 49 1) (fe_X9_isOwnSign 48) (fun _ _ => rfl) ?_
        refine t_go (op := o_goto 53) (fe_X9_isOwnSign 49) (fun _ _ => rfl) ?_
        refine t_ret (op := o_zret) (fe_X9_isOwnSign 53) (g_zret (Or.inr rfl)) ?_
        exact ⟨congrArg (fun z => some (Value.int z)) (Eq.symm (show osV x = _ from (Eq.trans (if_neg c1) (Eq.trans (if_neg c2) (if_pos c3))))), rfl⟩
      · refine t_go (op := o_iload 19 0) (fe_X9_isOwnSign 18) (fun _ _ => rfl) ?_
        refine t_go (op := o_ci 21 61) (fe_X9_isOwnSign 19) (fun _ _ => rfl) ?_
        refine t_ite (op := o_icmp 24 48 (fun x y => x = y) (fun _ _ => inferInstance)) (fe_X9_isOwnSign 21) g_icmp (fun c4 => ?_) (fun c4 => ?_)
        · refine t_go (op := o_ci 49 1) (fe_X9_isOwnSign 48) (fun _ _ => rfl) ?_
          refine t_go (op := o_goto 53) (fe_X9_isOwnSign 49) (fun _ _ => rfl) ?_
          refine t_ret (op := o_zret) (fe_X9_isOwnSign 53) (g_zret (Or.inr rfl)) ?_
          exact ⟨congrArg (fun z => some (Value.int z)) (Eq.symm (show osV x = _ from (Eq.trans (if_neg c1) (Eq.trans (if_neg c2) (Eq.trans (if_neg c3) (if_pos c4)))))), rfl⟩
        · refine t_go (op := o_iload 25 0) (fe_X9_isOwnSign 24) (fun _ _ => rfl) ?_
          refine t_go (op := o_ci 27 43) (fe_X9_isOwnSign 25) (fun _ _ => rfl) ?_
          refine t_ite (op := o_icmp 30 48 (fun x y => x = y) (fun _ _ => inferInstance)) (fe_X9_isOwnSign 27) g_icmp (fun c5 => ?_) (fun c5 => ?_)
          · refine t_go (op := o_ci 49 1) (fe_X9_isOwnSign 48) (fun _ _ => rfl) ?_
            refine t_go (op := o_goto 53) (fe_X9_isOwnSign 49) (fun _ _ => rfl) ?_
            refine t_ret (op := o_zret) (fe_X9_isOwnSign 53) (g_zret (Or.inr rfl)) ?_
            exact ⟨congrArg (fun z => some (Value.int z)) (Eq.symm (show osV x = _ from (Eq.trans (if_neg c1) (Eq.trans (if_neg c2) (Eq.trans (if_neg c3) (Eq.trans (if_neg c4) (if_pos c5))))))), rfl⟩
          · refine t_go (op := o_iload 31 0) (fe_X9_isOwnSign 30) (fun _ _ => rfl) ?_
            refine t_go (op := o_ci 33 45) (fe_X9_isOwnSign 31) (fun _ _ => rfl) ?_
            refine t_ite (op := o_icmp 36 48 (fun x y => x = y) (fun _ _ => inferInstance)) (fe_X9_isOwnSign 33) g_icmp (fun c6 => ?_) (fun c6 => ?_)
            · refine t_go (op := o_ci 49 1) (fe_X9_isOwnSign 48) (fun _ _ => rfl) ?_
              refine t_go (op := o_goto 53) (fe_X9_isOwnSign 49) (fun _ _ => rfl) ?_
              refine t_ret (op := o_zret) (fe_X9_isOwnSign 53) (g_zret (Or.inr rfl)) ?_
              exact ⟨congrArg (fun z => some (Value.int z)) (Eq.symm (show osV x = _ from (Eq.trans (if_neg c1) (Eq.trans (if_neg c2) (Eq.trans (if_neg c3) (Eq.trans (if_neg c4) (Eq.trans (if_neg c5) (if_pos c6)))))))), rfl⟩
            · refine t_go (op := o_iload 37 0) (fe_X9_isOwnSign 36) (fun _ _ => rfl) ?_
              refine t_go (op := o_ci 39 42) (fe_X9_isOwnSign 37) (fun _ _ => rfl) ?_
              refine t_ite (op := o_icmp 42 48 (fun x y => x = y) (fun _ _ => inferInstance)) (fe_X9_isOwnSign 39) g_icmp (fun c7 => ?_) (fun c7 => ?_)
              · refine t_go (op := o_ci 49 1) (fe_X9_isOwnSign 48) (fun _ _ => rfl) ?_
                refine t_go (op := o_goto 53) (fe_X9_isOwnSign 49) (fun _ _ => rfl) ?_
                refine t_ret (op := o_zret) (fe_X9_isOwnSign 53) (g_zret (Or.inr rfl)) ?_
                exact ⟨congrArg (fun z => some (Value.int z)) (Eq.symm (show osV x = _ from (Eq.trans (if_neg c1) (Eq.trans (if_neg c2) (Eq.trans (if_neg c3) (Eq.trans (if_neg c4) (Eq.trans (if_neg c5) (Eq.trans (if_neg c6) (if_pos c7))))))))), rfl⟩
              · refine t_go (op := o_iload 43 0) (fe_X9_isOwnSign 42) (fun _ _ => rfl) ?_
                refine t_go (op := o_ci 45 59) (fe_X9_isOwnSign 43) (fun _ _ => rfl) ?_
                refine t_ite (op := o_icmp 52 48 (fun x y => x = y) (fun _ _ => inferInstance)) (fe_X9_isOwnSign 45) g_icmp (fun c8 => ?_) (fun c8 => ?_)
                · refine t_go (op := o_ci 49 1) (fe_X9_isOwnSign 48) (fun _ _ => rfl) ?_
                  refine t_go (op := o_goto 53) (fe_X9_isOwnSign 49) (fun _ _ => rfl) ?_
                  refine t_ret (op := o_zret) (fe_X9_isOwnSign 53) (g_zret (Or.inr rfl)) ?_
                  exact ⟨congrArg (fun z => some (Value.int z)) (Eq.symm (show osV x = _ from (Eq.trans (if_neg c1) (Eq.trans (if_neg c2) (Eq.trans (if_neg c3) (Eq.trans (if_neg c4) (Eq.trans (if_neg c5) (Eq.trans (if_neg c6) (Eq.trans (if_neg c7) (if_pos c8)))))))))), rfl⟩
                · refine t_go (op := o_ci 53 0) (fe_X9_isOwnSign 52) (fun _ _ => rfl) ?_
                  refine t_ret (op := o_zret) (fe_X9_isOwnSign 53) (g_zret (Or.inl rfl)) ?_
                  exact ⟨congrArg (fun z => some (Value.int z)) (Eq.symm (show osV x = _ from (Eq.trans (if_neg c1) (Eq.trans (if_neg c2) (Eq.trans (if_neg c3) (Eq.trans (if_neg c4) (Eq.trans (if_neg c5) (Eq.trans (if_neg c6) (Eq.trans (if_neg c7) (if_neg c8)))))))))), rfl⟩
theorem c_isOwnSign {d : Nat} {h : AHP} {c : Nat} (hc : c < 128) : MM d 102 [.int (nI c)] h (fun v h2 => v = some (.int (b2i (iG c = true))) ∧ h2 = h) := by
  have q := c0_isOwnSign (d := d) (h := h) (x := nI c)
  rw [osV_n c hc, ← b2i_b] at q
  exact q
theorem c_withLetter {d : Nat} {h : AHP} {a c : Nat} (h1 : 97 ≤ c) (h2 : c ≤ 122) : MM d 55 [.long (lN a), .int (nI c)] h (fun v h2 => v = some (.long (lN (a * 32 + (c - 96)))) ∧ h2 = h) := by
  refine ⟨Nat.le_of_ble_eq_true rfl, ?_⟩
  refine t_go (op := o_lload 1 0) (fe_X4_withLetter 0) (fun _ _ => rfl) ?_
  refine t_go (op := o_cl 4 32) (fe_X4_withLetter 1) (fun _ _ => rfl) ?_
  refine t_go (op := o_l2 5 (fun x y => x * y)) (fe_X4_withLetter 4) (fun _ _ => rfl) ?_
  refine t_go (op := o_iload 6 2) (fe_X4_withLetter 5) (fun _ _ => rfl) ?_
  refine t_go (op := o_ci 8 97) (fe_X4_withLetter 6) (fun _ _ => rfl) ?_
  refine t_go (op := o_i2 9 (fun x y => x - y)) (fe_X4_withLetter 8) (fun _ _ => rfl) ?_
  refine t_go (op := o_ci 10 1) (fe_X4_withLetter 9) (fun _ _ => rfl) ?_
  refine t_go (op := o_i2 11 (fun x y => x + y)) (fe_X4_withLetter 10) (fun _ _ => rfl) ?_
  refine t_go (op := o_i2l 12) (fe_X4_withLetter 11) (fun _ _ => rfl) ?_
  refine t_go (op := o_l2 13 (fun x y => x + y)) (fe_X4_withLetter 12) (fun _ _ => rfl) ?_
  refine t_ret (op := o_lret) (fe_X4_withLetter 13) (fun _ _ => rfl) ?_
  refine ⟨congrArg (fun z => some (Value.long z)) ?_, rfl⟩
  show lN a * 32 + Int32.toInt64 (nI c - 97 + 1) = _
  rw [show nI c - 97 + 1 = nI (c - 96) from by rw [show nI c - 97 = nI (c - 97) from nIs rfl rfl h1, nI_1, show c - 97 + 1 = c - 96 by omega], nI_l (by omega), show lN a * 32 = lN (a * 32) from lN_mul a 32, lN_add]
theorem kLet_n : ∀ i, i < 23 → kLet i = lN (n32 (KWi i)) := by decide +kernel
theorem cmp_0 {x y : Int64} : lg_cmp x y = 0 ↔ x = y := by
  unfold lg_cmp
  by_cases h1 : x > y
  · rw [if_pos h1]
    exact ⟨fun q => absurd q (by decide), fun q => by rw [q] at h1; exact absurd h1 (Int64.lt_irrefl)⟩
  · rw [if_neg h1]
    by_cases h2 : x = y
    · rw [if_pos h2]; exact ⟨fun _ => h2, fun _ => rfl⟩
    · rw [if_neg h2]; exact ⟨fun q => absurd q (by decide), fun q => absurd q h2⟩
theorem okL_W {w : List Nat} (h : okW w) : okL w := h.2.2
theorem okW_ne {w : List Nat} (h : okW w) : w ≠ [] := fun e => by have := h.1; rw [e] at this; exact absurd this (by decide)
theorem n32_b {w : List Nat} (h : okW w) : n32 w < 2 ^ 40 := by have := n32_lt 8 w h.2.1 h.2.2; omega
theorem n37_b {w : List Nat} (h : okW w) : n37 w < 2 ^ 42 := by have := n37_lt 8 w h.2.1 h.2.2; omega
theorem fb_eq {a b : Nat} (ha : a < 2 ^ 63) (hb : b < 2 ^ 63) : lN a = lN b ↔ a = b := pk_lEQ ha hb
theorem let_eq {w : List Nat} {i : Nat} (hw : okW w) (hi : i < 25) : kLet i = lN (n32 w) ↔ (i < 23 ∧ kw w = i) := by
  have hb := n32_b hw
  rcases Nat.lt_or_ge i 23 with h | h
  · have hk := n32_b (KW_ok i h)
    rw [kLet_n i h, fb_eq (by omega) (by omega)]
    constructor
    · intro e; exact ⟨h, (kw_in h).mp (n32_inj 8 _ _ (KW_ok i h).2.1 (KW_ok i h).2.2 hw.2.2 e)⟩
    · intro e; rw [(kw_in h).mpr e.2]
  · have e0 : kLet i = lN 0 := by
      have : i = 23 ∨ i = 24 := by omega
      rcases this with rfl | rfl <;> rfl
    rw [e0, fb_eq (by decide) (by omega)]
    have := n32_pos hw.2.2 (okW_ne hw)
    exact ⟨fun e => by omega, fun e => by omega⟩
theorem lc_ofL {d : Nat} {h : AHP} {w : List Nat} (hw : okW w) {Q : Option Value → AHP → Prop} : ∀ (j i : Nat) (_ : Unit), i + j = 25 → (∀ j, j < i → j < 23 → ¬ kw w = j) → Q (some (.ref (200000 + kw w))) h → TT d 56 2 [some (.long (lN (n32 w))), none, some (.int (nI i))] [] h Q := by
  intro j
  induction j with
  | zero =>
    intro i _ hi hlo hq
    have hN : i = 25 := by omega
    refine t_go (op := o_iload 3 2) (fe_X4_ofLetters 2) (fun _ _ => rfl) ?_
    refine t_go (op := o_gets 6 200100) (fe_X4_ofLetters 3) (fun _ _ => rfl) ?_
    refine t_go (op := o_alenK 7) (fe_X4_ofLetters 6) (g_alenK) ?_
    refine t_ite (op := o_icmp 10 35 (fun x y => y ≤ x) (fun _ _ => inferInstance)) (fe_X4_ofLetters 7) g_icmp (fun c1 => ?_) (fun c1 => ?_)
    · refine t_go (op := o_gets 38 200023) (fe_X4_ofLetters 35) (fun _ _ => rfl) ?_
      refine t_ret (op := o_aret) (fe_X4_ofLetters 38) (fun _ _ => rfl) ?_
      have e : kw w = 23 := by
        have h1 := kw_le w
        rcases Nat.lt_or_ge (kw w) 23 with h2 | h2
        · exact absurd rfl (hlo (kw w) (by omega) h2)
        · omega
      rw [show 200023 = 200000 + kw w by rw [e]]
      exact hq
    · exact absurd (by rw [hN]; exact Int32.le_refl _) c1
  | succ j ih =>
    intro i _ hi hlo hq
    have hi7 : i < 25 := by omega
    refine t_go (op := o_iload 3 2) (fe_X4_ofLetters 2) (fun _ _ => rfl) ?_
    refine t_go (op := o_gets 6 200100) (fe_X4_ofLetters 3) (fun _ _ => rfl) ?_
    refine t_go (op := o_alenK 7) (fe_X4_ofLetters 6) (g_alenK) ?_
    refine t_ite (op := o_icmp 10 35 (fun x y => y ≤ x) (fun _ _ => inferInstance)) (fe_X4_ofLetters 7) g_icmp (fun c1 => ?_) (fun c1 => ?_)
    · exact absurd c1 (nI_ge hi7 (by decide))
    · refine t_go (op := o_gets 13 200100) (fe_X4_ofLetters 10) (fun _ _ => rfl) ?_
      refine t_go (op := o_iload 14 2) (fe_X4_ofLetters 13) (fun _ _ => rfl) ?_
      refine t_go (op := o_aaldK 15) (fe_X4_ofLetters 14) (g_aaldK (inb_n (by omega) (by decide))) ?_
      refine t_go (op := o_keyJ 18 kLet) (fe_X4_ofLetters 15) (g_keyJ (by rw [nI_clamp (by omega)]; omega)) ?_
      refine t_go (op := o_lload 19 0) (fe_X4_ofLetters 18) (fun _ _ => rfl) ?_
      refine t_go (op := o_lcmp 20) (fe_X4_ofLetters 19) (fun _ _ => rfl) ?_
      refine t_ite (op := o_if 29 23 (fun x => x = 0) (fun _ => inferInstance)) (fe_X4_ofLetters 20) g_if (fun c2 => ?_) (fun c2 => ?_)
      · refine t_go (op := o_gets 26 200100) (fe_X4_ofLetters 23) (fun _ _ => rfl) ?_
        refine t_go (op := o_iload 27 2) (fe_X4_ofLetters 26) (fun _ _ => rfl) ?_
        refine t_go (op := o_aaldK 28) (fe_X4_ofLetters 27) (g_aaldK (inb_n (by omega) (by decide))) ?_
        refine t_ret (op := o_aret) (fe_X4_ofLetters 28) (fun _ _ => rfl) ?_
        rw [show 200000 + (nI i).toNatClampNeg - 200000 = i from by rw [nI_clamp (by omega)]; omega] at c2
        have e := (let_eq hw (by omega)).mp (cmp_0.mp c2)
        rw [show 200000 + (nI i).toNatClampNeg = 200000 + kw w from by rw [nI_clamp (by omega), e.2]]
        exact hq
      · refine t_go (op := o_iinc 32 2 1) (fe_X4_ofLetters 29) (fun _ _ => rfl) ?_
        refine t_go (op := o_goto 2) (fe_X4_ofLetters 32) (fun _ _ => rfl) ?_
        rw [show 200000 + (nI i).toNatClampNeg - 200000 = i from by rw [nI_clamp (by omega)]; omega] at c2
        rw [nI_1]
        refine ih (i + 1) () (by omega) (fun j hj hj2 => ?_) hq
        by_cases e : j = i
        · rw [e]; exact fun q => c2 (cmp_0.mpr ((let_eq hw (by omega)).mpr ⟨by omega, q⟩))
        · exact hlo j (by omega) hj2
theorem c_ofLetters {d : Nat} {h : AHP} {w : List Nat} (hw : okW w) : MM d 56 [.long (lN (n32 w))] h (fun v h2 => v = some (.ref (200000 + kw w)) ∧ h2 = h) := by
  refine ⟨Nat.le_of_ble_eq_true rfl, ?_⟩
  refine t_go (op := o_ci 1 0) (fe_X4_ofLetters 0) (fun _ _ => rfl) ?_
  refine t_go (op := o_istore 2 2) (fe_X4_ofLetters 1) (fun _ _ => rfl) ?_
  exact lc_ofL hw 25 0 () (by omega) (fun j hj => absurd hj (Nat.not_lt_zero j)) ⟨rfl, rfl⟩
