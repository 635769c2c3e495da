/-! ===== the class's rests: what it calls ===== -/
theorem atC_1 {a b c : Int32} {k : Nat} {F O : Bool} (hF : Nat.beq (k / 2) 1 = F) (hO : Nat.beq (k % 2) 1 = O) (h : gnV a b c F O < gnV a b c (!F) O) : ¬ atR a b c k = true := by
  subst hF hO
  show ¬ ((!(decide _) && !(decide _)) = true)
  rw [decide_eq_true h]; simp
theorem atC_2 {a b c : Int32} {k : Nat} {F O : Bool} (hF : Nat.beq (k / 2) 1 = F) (hO : Nat.beq (k % 2) 1 = O) (h : gnV a b c O F < gnV a b c (!O) F) : ¬ atR a b c k = true := by
  subst hF hO
  show ¬ ((!(decide _) && !(decide _)) = true)
  rw [decide_eq_true h]; simp
theorem atC_t {a b c : Int32} {k : Nat} {F O : Bool} (hF : Nat.beq (k / 2) 1 = F) (hO : Nat.beq (k % 2) 1 = O) (h : ¬ gnV a b c F O < gnV a b c (!F) O) (h2 : ¬ gnV a b c O F < gnV a b c (!O) F) : atR a b c k = true := by
  subst hF hO
  show (!(decide _) && !(decide _)) = true
  rw [decide_eq_false h, decide_eq_false h2]; rfl
theorem c_isGain {d : Nat} {h : AHP} {x : Int32} : MM d 153 [.int x] h (fun v h2 => v = some (.int (b2i (gnP x = true))) ∧ h2 = h) := by
  refine ⟨Nat.le_of_ble_eq_true rfl, ?_⟩
  refine t_go (op := o_iload 1 0) (fe_X11_isGain 0) (fun _ _ => rfl) ?_
  refine t_ite (op := o_if 4 14 (fun x => x < 0) (fun _ => inferInstance)) (fe_X11_isGain 1) g_if (fun c1 => ?_) (fun c1 => ?_)
  · refine t_go (op := o_ci 15 0) (fe_X11_isGain 14) (fun _ _ => rfl) ?_
    refine t_ret (op := o_zret) (fe_X11_isGain 15) (g_zret (Or.inl rfl)) ?_
    exact ⟨congrArg (fun z => some (Value.int z)) (Eq.symm (b2i_f (p := gnP x = true) (fun q => (of_decide_eq_true q).1 c1))), rfl⟩
  · refine t_go (op := o_iload 5 0) (fe_X11_isGain 4) (fun _ _ => rfl) ?_
    refine t_go (op := o_ci 7 9) (fe_X11_isGain 5) (fun _ _ => rfl) ?_
    refine t_ite (op := o_icmp 10 14 (fun x y => y < x) (fun _ _ => inferInstance)) (fe_X11_isGain 7) g_icmp (fun c2 => ?_) (fun c2 => ?_)
    · refine t_go (op := o_ci 15 0) (fe_X11_isGain 14) (fun _ _ => rfl) ?_
      refine t_ret (op := o_zret) (fe_X11_isGain 15) (g_zret (Or.inl rfl)) ?_
      exact ⟨congrArg (fun z => some (Value.int z)) (Eq.symm (b2i_f (p := gnP x = true) (fun q => (of_decide_eq_true q).2 c2))), rfl⟩
    · refine t_go (op := o_ci 11 1) (fe_X11_isGain 10) (fun _ _ => rfl) ?_
      refine t_go (op := o_goto 15) (fe_X11_isGain 11) (fun _ _ => rfl) ?_
      refine t_ret (op := o_zret) (fe_X11_isGain 15) (g_zret (Or.inr rfl)) ?_
      exact ⟨congrArg (fun z => some (Value.int z)) (Eq.symm (b2i_t (p := gnP x = true) (decide_eq_true ⟨c1, c2⟩))), rfl⟩
theorem c_gainOf {d : Nat} {h : AHP} {x y a b c : Int32} {F O : Bool} (hx : decide (¬ x = 0) = F) (hy : decide (¬ y = 0) = O) : MM d 156 [.int a, .int b, .int c, .int x, .int y] h (fun v h2 => v = some (.int (gnV a b c F O)) ∧ h2 = h) := by
  refine ⟨Nat.le_of_ble_eq_true rfl, ?_⟩
  refine t_go (op := o_iload 1 3) (fe_X11_gainOf 0) (fun _ _ => rfl) ?_
  refine t_ite (op := o_if 4 16 (fun x => x = 0) (fun _ => inferInstance)) (fe_X11_gainOf 1) g_if (fun c1 => ?_) (fun c1 => ?_)
  · refine t_go (op := o_iload 18 4) (fe_X11_gainOf 16) (fun _ _ => rfl) ?_
    refine t_ite (op := o_if 21 25 (fun x => x = 0) (fun _ => inferInstance)) (fe_X11_gainOf 18) g_if (fun c2 => ?_) (fun c2 => ?_)
    · refine t_go (op := o_ci 26 0) (fe_X11_gainOf 25) (fun _ _ => rfl) ?_
      refine t_ret (op := o_iret) (fe_X11_gainOf 26) (fun _ _ => rfl) ?_
      subst hx hy
      exact ⟨by rw [decide_eq_false (fun q : ¬ _ => q c1), decide_eq_false (fun q : ¬ _ => q c2)]; rfl, rfl⟩
    · refine t_go (op := o_iload 22 2) (fe_X11_gainOf 21) (fun _ _ => rfl) ?_
      refine t_go (op := o_goto 26) (fe_X11_gainOf 22) (fun _ _ => rfl) ?_
      refine t_ret (op := o_iret) (fe_X11_gainOf 26) (fun _ _ => rfl) ?_
      subst hx hy
      exact ⟨by rw [decide_eq_false (fun q : ¬ _ => q c1), decide_eq_true c2]; rfl, rfl⟩
  · refine t_go (op := o_iload 6 4) (fe_X11_gainOf 4) (fun _ _ => rfl) ?_
    refine t_ite (op := o_if 9 13 (fun x => x = 0) (fun _ => inferInstance)) (fe_X11_gainOf 6) g_if (fun c3 => ?_) (fun c3 => ?_)
    · refine t_go (op := o_iload 14 1) (fe_X11_gainOf 13) (fun _ _ => rfl) ?_
      refine t_go (op := o_i1 15 (fun x => -x)) (fe_X11_gainOf 14) (fun _ _ => rfl) ?_
      refine t_ret (op := o_iret) (fe_X11_gainOf 15) (fun _ _ => rfl) ?_
      subst hx hy
      exact ⟨by rw [decide_eq_true c1, decide_eq_false (fun q : ¬ _ => q c3)]; rfl, rfl⟩
    · refine t_go (op := o_iload 10 0) (fe_X11_gainOf 9) (fun _ _ => rfl) ?_
      refine t_go (op := o_goto 15) (fe_X11_gainOf 10) (fun _ _ => rfl) ?_
      refine t_ret (op := o_iret) (fe_X11_gainOf 15) (fun _ _ => rfl) ?_
      subst hx hy
      exact ⟨by rw [decide_eq_true c1, decide_eq_true c3]; rfl, rfl⟩
theorem c_turn00 {d : Nat} {h : AHP} {a b c : Int32} : MM (d + 1) 155 [.int a, .int b, .int c, .int 0, .int 0] h (fun v h2 => v = some (.int (b2i (gnV a b c false false < gnV a b c (!false) false))) ∧ h2 = h) := by
  refine ⟨Nat.le_of_ble_eq_true rfl, ?_⟩
  refine t_go (op := o_iload 1 0) (fe_X11_gainsByTurning 0) (fun _ _ => rfl) ?_
  refine t_go (op := o_iload 2 1) (fe_X11_gainsByTurning 1) (fun _ _ => rfl) ?_
  refine t_go (op := o_iload 3 2) (fe_X11_gainsByTurning 2) (fun _ _ => rfl) ?_
  refine t_go (op := o_iload 4 3) (fe_X11_gainsByTurning 3) (fun _ _ => rfl) ?_
  refine t_ite (op := o_if 11 7 (fun x => x = 0) (fun _ => inferInstance)) (fe_X11_gainsByTurning 4) g_if (fun c1 => ?_) (fun c1 => ?_)
  · clear c1
    refine t_go (op := o_ci 8 1) (fe_X11_gainsByTurning 7) (fun _ _ => rfl) ?_
    refine t_go (op := o_goto 12) (fe_X11_gainsByTurning 8) (fun _ _ => rfl) ?_
    refine t_go (op := o_iload 14 4) (fe_X11_gainsByTurning 12) (fun _ _ => rfl) ?_
    refine t_call (op := o_callS 17 156 5) (fe_X11_gainsByTurning 14) (g_callS rfl rfl rfl (Nat.le_of_ble_eq_true rfl)) ?_
    refine M_eq (c_gainOf (F := true) (O := false) (by decide) (by decide)) ?_
    refine t_go (op := o_iload 18 0) (fe_X11_gainsByTurning 17) (fun _ _ => rfl) ?_
    refine t_go (op := o_iload 19 1) (fe_X11_gainsByTurning 18) (fun _ _ => rfl) ?_
    refine t_go (op := o_iload 20 2) (fe_X11_gainsByTurning 19) (fun _ _ => rfl) ?_
    refine t_go (op := o_iload 21 3) (fe_X11_gainsByTurning 20) (fun _ _ => rfl) ?_
    refine t_go (op := o_iload 23 4) (fe_X11_gainsByTurning 21) (fun _ _ => rfl) ?_
    refine t_call (op := o_callS 26 156 5) (fe_X11_gainsByTurning 23) (g_callS rfl rfl rfl (Nat.le_of_ble_eq_true rfl)) ?_
    refine M_eq (c_gainOf (F := false) (O := false) (by decide) (by decide)) ?_
    refine t_ite (op := o_icmp 29 33 (fun x y => x ≤ y) (fun _ _ => inferInstance)) (fe_X11_gainsByTurning 26) g_icmp (fun c2 => ?_) (fun c2 => ?_)
    · refine t_go (op := o_ci 34 0) (fe_X11_gainsByTurning 33) (fun _ _ => rfl) ?_
      refine t_ret (op := o_zret) (fe_X11_gainsByTurning 34) (g_zret (Or.inl rfl)) ?_
      exact ⟨congrArg (fun z => some (Value.int z)) (Eq.symm (b2i_f (p := gnV a b c false false < gnV a b c (!false) false) (Int32.not_lt.mpr c2))), rfl⟩
    · refine t_go (op := o_ci 30 1) (fe_X11_gainsByTurning 29) (fun _ _ => rfl) ?_
      refine t_go (op := o_goto 34) (fe_X11_gainsByTurning 30) (fun _ _ => rfl) ?_
      refine t_ret (op := o_zret) (fe_X11_gainsByTurning 34) (g_zret (Or.inr rfl)) ?_
      exact ⟨congrArg (fun z => some (Value.int z)) (Eq.symm (b2i_t (p := gnV a b c false false < gnV a b c (!false) false) (Int32.not_le.mp c2))), rfl⟩
  · exact absurd (by decide) c1
theorem c_turn01 {d : Nat} {h : AHP} {a b c : Int32} : MM (d + 1) 155 [.int a, .int b, .int c, .int 0, .int 1] h (fun v h2 => v = some (.int (b2i (gnV a b c false true < gnV a b c (!false) true))) ∧ h2 = h) := by
  refine ⟨Nat.le_of_ble_eq_true rfl, ?_⟩
  refine t_go (op := o_iload 1 0) (fe_X11_gainsByTurning 0) (fun _ _ => rfl) ?_
  refine t_go (op := o_iload 2 1) (fe_X11_gainsByTurning 1) (fun _ _ => rfl) ?_
  refine t_go (op := o_iload 3 2) (fe_X11_gainsByTurning 2) (fun _ _ => rfl) ?_
  refine t_go (op := o_iload 4 3) (fe_X11_gainsByTurning 3) (fun _ _ => rfl) ?_
  refine t_ite (op := o_if 11 7 (fun x => x = 0) (fun _ => inferInstance)) (fe_X11_gainsByTurning 4) g_if (fun c1 => ?_) (fun c1 => ?_)
  · clear c1
    refine t_go (op := o_ci 8 1) (fe_X11_gainsByTurning 7) (fun _ _ => rfl) ?_
    refine t_go (op := o_goto 12) (fe_X11_gainsByTurning 8) (fun _ _ => rfl) ?_
    refine t_go (op := o_iload 14 4) (fe_X11_gainsByTurning 12) (fun _ _ => rfl) ?_
    refine t_call (op := o_callS 17 156 5) (fe_X11_gainsByTurning 14) (g_callS rfl rfl rfl (Nat.le_of_ble_eq_true rfl)) ?_
    refine M_eq (c_gainOf (F := true) (O := true) (by decide) (by decide)) ?_
    refine t_go (op := o_iload 18 0) (fe_X11_gainsByTurning 17) (fun _ _ => rfl) ?_
    refine t_go (op := o_iload 19 1) (fe_X11_gainsByTurning 18) (fun _ _ => rfl) ?_
    refine t_go (op := o_iload 20 2) (fe_X11_gainsByTurning 19) (fun _ _ => rfl) ?_
    refine t_go (op := o_iload 21 3) (fe_X11_gainsByTurning 20) (fun _ _ => rfl) ?_
    refine t_go (op := o_iload 23 4) (fe_X11_gainsByTurning 21) (fun _ _ => rfl) ?_
    refine t_call (op := o_callS 26 156 5) (fe_X11_gainsByTurning 23) (g_callS rfl rfl rfl (Nat.le_of_ble_eq_true rfl)) ?_
    refine M_eq (c_gainOf (F := false) (O := true) (by decide) (by decide)) ?_
    refine t_ite (op := o_icmp 29 33 (fun x y => x ≤ y) (fun _ _ => inferInstance)) (fe_X11_gainsByTurning 26) g_icmp (fun c2 => ?_) (fun c2 => ?_)
    · refine t_go (op := o_ci 34 0) (fe_X11_gainsByTurning 33) (fun _ _ => rfl) ?_
      refine t_ret (op := o_zret) (fe_X11_gainsByTurning 34) (g_zret (Or.inl rfl)) ?_
      exact ⟨congrArg (fun z => some (Value.int z)) (Eq.symm (b2i_f (p := gnV a b c false true < gnV a b c (!false) true) (Int32.not_lt.mpr c2))), rfl⟩
    · refine t_go (op := o_ci 30 1) (fe_X11_gainsByTurning 29) (fun _ _ => rfl) ?_
      refine t_go (op := o_goto 34) (fe_X11_gainsByTurning 30) (fun _ _ => rfl) ?_
      refine t_ret (op := o_zret) (fe_X11_gainsByTurning 34) (g_zret (Or.inr rfl)) ?_
      exact ⟨congrArg (fun z => some (Value.int z)) (Eq.symm (b2i_t (p := gnV a b c false true < gnV a b c (!false) true) (Int32.not_le.mp c2))), rfl⟩
  · exact absurd (by decide) c1
theorem c_turn10 {d : Nat} {h : AHP} {a b c : Int32} : MM (d + 1) 155 [.int a, .int b, .int c, .int 1, .int 0] h (fun v h2 => v = some (.int (b2i (gnV a b c true false < gnV a b c (!true) false))) ∧ h2 = h) := by
  refine ⟨Nat.le_of_ble_eq_true rfl, ?_⟩
  refine t_go (op := o_iload 1 0) (fe_X11_gainsByTurning 0) (fun _ _ => rfl) ?_
  refine t_go (op := o_iload 2 1) (fe_X11_gainsByTurning 1) (fun _ _ => rfl) ?_
  refine t_go (op := o_iload 3 2) (fe_X11_gainsByTurning 2) (fun _ _ => rfl) ?_
  refine t_go (op := o_iload 4 3) (fe_X11_gainsByTurning 3) (fun _ _ => rfl) ?_
  refine t_ite (op := o_if 11 7 (fun x => x = 0) (fun _ => inferInstance)) (fe_X11_gainsByTurning 4) g_if (fun c1 => ?_) (fun c1 => ?_)
  · exact absurd c1 (by decide)
  · clear c1
    refine t_go (op := o_ci 12 0) (fe_X11_gainsByTurning 11) (fun _ _ => rfl) ?_
    refine t_go (op := o_iload 14 4) (fe_X11_gainsByTurning 12) (fun _ _ => rfl) ?_
    refine t_call (op := o_callS 17 156 5) (fe_X11_gainsByTurning 14) (g_callS rfl rfl rfl (Nat.le_of_ble_eq_true rfl)) ?_
    refine M_eq (c_gainOf (F := false) (O := false) (by decide) (by decide)) ?_
    refine t_go (op := o_iload 18 0) (fe_X11_gainsByTurning 17) (fun _ _ => rfl) ?_
    refine t_go (op := o_iload 19 1) (fe_X11_gainsByTurning 18) (fun _ _ => rfl) ?_
    refine t_go (op := o_iload 20 2) (fe_X11_gainsByTurning 19) (fun _ _ => rfl) ?_
    refine t_go (op := o_iload 21 3) (fe_X11_gainsByTurning 20) (fun _ _ => rfl) ?_
    refine t_go (op := o_iload 23 4) (fe_X11_gainsByTurning 21) (fun _ _ => rfl) ?_
    refine t_call (op := o_callS 26 156 5) (fe_X11_gainsByTurning 23) (g_callS rfl rfl rfl (Nat.le_of_ble_eq_true rfl)) ?_
    refine M_eq (c_gainOf (F := true) (O := false) (by decide) (by decide)) ?_
    refine t_ite (op := o_icmp 29 33 (fun x y => x ≤ y) (fun _ _ => inferInstance)) (fe_X11_gainsByTurning 26) g_icmp (fun c2 => ?_) (fun c2 => ?_)
    · refine t_go (op := o_ci 34 0) (fe_X11_gainsByTurning 33) (fun _ _ => rfl) ?_
      refine t_ret (op := o_zret) (fe_X11_gainsByTurning 34) (g_zret (Or.inl rfl)) ?_
      exact ⟨congrArg (fun z => some (Value.int z)) (Eq.symm (b2i_f (p := gnV a b c true false < gnV a b c (!true) false) (Int32.not_lt.mpr c2))), rfl⟩
    · refine t_go (op := o_ci 30 1) (fe_X11_gainsByTurning 29) (fun _ _ => rfl) ?_
      refine t_go (op := o_goto 34) (fe_X11_gainsByTurning 30) (fun _ _ => rfl) ?_
      refine t_ret (op := o_zret) (fe_X11_gainsByTurning 34) (g_zret (Or.inr rfl)) ?_
      exact ⟨congrArg (fun z => some (Value.int z)) (Eq.symm (b2i_t (p := gnV a b c true false < gnV a b c (!true) false) (Int32.not_le.mp c2))), rfl⟩
theorem c_turn11 {d : Nat} {h : AHP} {a b c : Int32} : MM (d + 1) 155 [.int a, .int b, .int c, .int 1, .int 1] h (fun v h2 => v = some (.int (b2i (gnV a b c true true < gnV a b c (!true) true))) ∧ h2 = h) := by
  refine ⟨Nat.le_of_ble_eq_true rfl, ?_⟩
  refine t_go (op := o_iload 1 0) (fe_X11_gainsByTurning 0) (fun _ _ => rfl) ?_
  refine t_go (op := o_iload 2 1) (fe_X11_gainsByTurning 1) (fun _ _ => rfl) ?_
  refine t_go (op := o_iload 3 2) (fe_X11_gainsByTurning 2) (fun _ _ => rfl) ?_
  refine t_go (op := o_iload 4 3) (fe_X11_gainsByTurning 3) (fun _ _ => rfl) ?_
  refine t_ite (op := o_if 11 7 (fun x => x = 0) (fun _ => inferInstance)) (fe_X11_gainsByTurning 4) g_if (fun c1 => ?_) (fun c1 => ?_)
  · exact absurd c1 (by decide)
  · clear c1
    refine t_go (op := o_ci 12 0) (fe_X11_gainsByTurning 11) (fun _ _ => rfl) ?_
    refine t_go (op := o_iload 14 4) (fe_X11_gainsByTurning 12) (fun _ _ => rfl) ?_
    refine t_call (op := o_callS 17 156 5) (fe_X11_gainsByTurning 14) (g_callS rfl rfl rfl (Nat.le_of_ble_eq_true rfl)) ?_
    refine M_eq (c_gainOf (F := false) (O := true) (by decide) (by decide)) ?_
    refine t_go (op := o_iload 18 0) (fe_X11_gainsByTurning 17) (fun _ _ => rfl) ?_
    refine t_go (op := o_iload 19 1) (fe_X11_gainsByTurning 18) (fun _ _ => rfl) ?_
    refine t_go (op := o_iload 20 2) (fe_X11_gainsByTurning 19) (fun _ _ => rfl) ?_
    refine t_go (op := o_iload 21 3) (fe_X11_gainsByTurning 20) (fun _ _ => rfl) ?_
    refine t_go (op := o_iload 23 4) (fe_X11_gainsByTurning 21) (fun _ _ => rfl) ?_
    refine t_call (op := o_callS 26 156 5) (fe_X11_gainsByTurning 23) (g_callS rfl rfl rfl (Nat.le_of_ble_eq_true rfl)) ?_
    refine M_eq (c_gainOf (F := true) (O := true) (by decide) (by decide)) ?_
    refine t_ite (op := o_icmp 29 33 (fun x y => x ≤ y) (fun _ _ => inferInstance)) (fe_X11_gainsByTurning 26) g_icmp (fun c2 => ?_) (fun c2 => ?_)
    · refine t_go (op := o_ci 34 0) (fe_X11_gainsByTurning 33) (fun _ _ => rfl) ?_
      refine t_ret (op := o_zret) (fe_X11_gainsByTurning 34) (g_zret (Or.inl rfl)) ?_
      exact ⟨congrArg (fun z => some (Value.int z)) (Eq.symm (b2i_f (p := gnV a b c true true < gnV a b c (!true) true) (Int32.not_lt.mpr c2))), rfl⟩
    · refine t_go (op := o_ci 30 1) (fe_X11_gainsByTurning 29) (fun _ _ => rfl) ?_
      refine t_go (op := o_goto 34) (fe_X11_gainsByTurning 30) (fun _ _ => rfl) ?_
      refine t_ret (op := o_zret) (fe_X11_gainsByTurning 34) (g_zret (Or.inr rfl)) ?_
      exact ⟨congrArg (fun z => some (Value.int z)) (Eq.symm (b2i_t (p := gnV a b c true true < gnV a b c (!true) true) (Int32.not_le.mp c2))), rfl⟩
theorem c_rest0 {d : Nat} {h : AHP} {a b c : Int32} : MM (d + 2) 154 [.int a, .int b, .int c, .int (nI 0)] h (fun v h2 => v = some (.int (b2i (atR a b c 0 = true))) ∧ h2 = h) := by
  refine ⟨Nat.le_of_ble_eq_true rfl, ?_⟩
  refine t_go (op := o_iload 1 3) (fe_X11_isAtRest 0) (fun _ _ => rfl) ?_
  refine t_go (op := o_ci 2 1) (fe_X11_isAtRest 1) (fun _ _ => rfl) ?_
  refine t_go (op := o_i2 3 (fun x y => x >>> (y &&& 31))) (fe_X11_isAtRest 2) (fun _ _ => rfl) ?_
  refine t_go (op := o_ci 4 1) (fe_X11_isAtRest 3) (fun _ _ => rfl) ?_
  refine t_ite (op := o_icmp 11 7 (fun x y => x = y) (fun _ _ => inferInstance)) (fe_X11_isAtRest 4) g_icmp (fun c1 => ?_) (fun c1 => ?_)
  · exact absurd c1 (by decide)
  · refine t_go (op := o_ci 12 0) (fe_X11_isAtRest 11) (fun _ _ => rfl) ?_
    refine t_go (op := o_istore 14 4) (fe_X11_isAtRest 12) (fun _ _ => rfl) ?_
    refine t_go (op := o_iload 15 3) (fe_X11_isAtRest 14) (fun _ _ => rfl) ?_
    refine t_go (op := o_ci 16 1) (fe_X11_isAtRest 15) (fun _ _ => rfl) ?_
    refine t_go (op := o_i2 17 (fun x y => x &&& y)) (fe_X11_isAtRest 16) (fun _ _ => rfl) ?_
    refine t_go (op := o_ci 18 1) (fe_X11_isAtRest 17) (fun _ _ => rfl) ?_
    refine t_ite (op := o_icmp 25 21 (fun x y => x = y) (fun _ _ => inferInstance)) (fe_X11_isAtRest 18) g_icmp (fun c2 => ?_) (fun c2 => ?_)
    · exact absurd c2 (by decide)
    · refine t_go (op := o_ci 26 0) (fe_X11_isAtRest 25) (fun _ _ => rfl) ?_
      refine t_go (op := o_istore 28 5) (fe_X11_isAtRest 26) (fun _ _ => rfl) ?_
      refine t_go (op := o_iload 29 0) (fe_X11_isAtRest 28) (fun _ _ => rfl) ?_
      refine t_go (op := o_iload 30 1) (fe_X11_isAtRest 29) (fun _ _ => rfl) ?_
      refine t_go (op := o_iload 31 2) (fe_X11_isAtRest 30) (fun _ _ => rfl) ?_
      refine t_go (op := o_iload 33 4) (fe_X11_isAtRest 31) (fun _ _ => rfl) ?_
      refine t_go (op := o_iload 35 5) (fe_X11_isAtRest 33) (fun _ _ => rfl) ?_
      refine t_call (op := o_callS 38 155 5) (fe_X11_isAtRest 35) (g_callS rfl rfl rfl (Nat.le_of_ble_eq_true rfl)) ?_
      refine M_eq c_turn00 ?_
      refine t_ite (op := o_if 58 41 (fun x => x = 0) (fun _ => inferInstance)) (fe_X11_isAtRest 38) g_if (fun c3 => ?_) (fun c3 => ?_)
      · replace c3 := b2i_z c3
        refine t_go (op := o_iload 42 0) (fe_X11_isAtRest 41) (fun _ _ => rfl) ?_
        refine t_go (op := o_iload 43 1) (fe_X11_isAtRest 42) (fun _ _ => rfl) ?_
        refine t_go (op := o_iload 44 2) (fe_X11_isAtRest 43) (fun _ _ => rfl) ?_
        refine t_go (op := o_iload 46 5) (fe_X11_isAtRest 44) (fun _ _ => rfl) ?_
        refine t_go (op := o_iload 48 4) (fe_X11_isAtRest 46) (fun _ _ => rfl) ?_
        refine t_call (op := o_callS 51 155 5) (fe_X11_isAtRest 48) (g_callS rfl rfl rfl (Nat.le_of_ble_eq_true rfl)) ?_
        refine M_eq c_turn00 ?_
        refine t_ite (op := o_if 58 54 (fun x => x = 0) (fun _ => inferInstance)) (fe_X11_isAtRest 51) g_if (fun c4 => ?_) (fun c4 => ?_)
        · replace c4 := b2i_z c4
          refine t_go (op := o_ci 55 1) (fe_X11_isAtRest 54) (fun _ _ => rfl) ?_
          refine t_go (op := o_goto 59) (fe_X11_isAtRest 55) (fun _ _ => rfl) ?_
          refine t_ret (op := o_zret) (fe_X11_isAtRest 59) (g_zret (Or.inr rfl)) ?_
          exact ⟨by rw [b2i_t (atC_t (F := false) (O := false) rfl rfl c3 c4)], rfl⟩
        · replace c4 := b2i_nn c4
          refine t_go (op := o_ci 59 0) (fe_X11_isAtRest 58) (fun _ _ => rfl) ?_
          refine t_ret (op := o_zret) (fe_X11_isAtRest 59) (g_zret (Or.inl rfl)) ?_
          exact ⟨by rw [b2i_f (atC_2 (F := false) (O := false) rfl rfl c4)], rfl⟩
      · replace c3 := b2i_nn c3
        refine t_go (op := o_ci 59 0) (fe_X11_isAtRest 58) (fun _ _ => rfl) ?_
        refine t_ret (op := o_zret) (fe_X11_isAtRest 59) (g_zret (Or.inl rfl)) ?_
        exact ⟨by rw [b2i_f (atC_1 (F := false) (O := false) rfl rfl c3)], rfl⟩
theorem c_rest1 {d : Nat} {h : AHP} {a b c : Int32} : MM (d + 2) 154 [.int a, .int b, .int c, .int (nI 1)] h (fun v h2 => v = some (.int (b2i (atR a b c 1 = true))) ∧ h2 = h) := by
  refine ⟨Nat.le_of_ble_eq_true rfl, ?_⟩
  refine t_go (op := o_iload 1 3) (fe_X11_isAtRest 0) (fun _ _ => rfl) ?_
  refine t_go (op := o_ci 2 1) (fe_X11_isAtRest 1) (fun _ _ => rfl) ?_
  refine t_go (op := o_i2 3 (fun x y => x >>> (y &&& 31))) (fe_X11_isAtRest 2) (fun _ _ => rfl) ?_
  refine t_go (op := o_ci 4 1) (fe_X11_isAtRest 3) (fun _ _ => rfl) ?_
  refine t_ite (op := o_icmp 11 7 (fun x y => x = y) (fun _ _ => inferInstance)) (fe_X11_isAtRest 4) g_icmp (fun c1 => ?_) (fun c1 => ?_)
  · exact absurd c1 (by decide)
  · refine t_go (op := o_ci 12 0) (fe_X11_isAtRest 11) (fun _ _ => rfl) ?_
    refine t_go (op := o_istore 14 4) (fe_X11_isAtRest 12) (fun _ _ => rfl) ?_
    refine t_go (op := o_iload 15 3) (fe_X11_isAtRest 14) (fun _ _ => rfl) ?_
    refine t_go (op := o_ci 16 1) (fe_X11_isAtRest 15) (fun _ _ => rfl) ?_
    refine t_go (op := o_i2 17 (fun x y => x &&& y)) (fe_X11_isAtRest 16) (fun _ _ => rfl) ?_
    refine t_go (op := o_ci 18 1) (fe_X11_isAtRest 17) (fun _ _ => rfl) ?_
    refine t_ite (op := o_icmp 25 21 (fun x y => x = y) (fun _ _ => inferInstance)) (fe_X11_isAtRest 18) g_icmp (fun c2 => ?_) (fun c2 => ?_)
    · refine t_go (op := o_ci 22 1) (fe_X11_isAtRest 21) (fun _ _ => rfl) ?_
      refine t_go (op := o_goto 26) (fe_X11_isAtRest 22) (fun _ _ => rfl) ?_
      refine t_go (op := o_istore 28 5) (fe_X11_isAtRest 26) (fun _ _ => rfl) ?_
      refine t_go (op := o_iload 29 0) (fe_X11_isAtRest 28) (fun _ _ => rfl) ?_
      refine t_go (op := o_iload 30 1) (fe_X11_isAtRest 29) (fun _ _ => rfl) ?_
      refine t_go (op := o_iload 31 2) (fe_X11_isAtRest 30) (fun _ _ => rfl) ?_
      refine t_go (op := o_iload 33 4) (fe_X11_isAtRest 31) (fun _ _ => rfl) ?_
      refine t_go (op := o_iload 35 5) (fe_X11_isAtRest 33) (fun _ _ => rfl) ?_
      refine t_call (op := o_callS 38 155 5) (fe_X11_isAtRest 35) (g_callS rfl rfl rfl (Nat.le_of_ble_eq_true rfl)) ?_
      refine M_eq c_turn01 ?_
      refine t_ite (op := o_if 58 41 (fun x => x = 0) (fun _ => inferInstance)) (fe_X11_isAtRest 38) g_if (fun c3 => ?_) (fun c3 => ?_)
      · replace c3 := b2i_z c3
        refine t_go (op := o_iload 42 0) (fe_X11_isAtRest 41) (fun _ _ => rfl) ?_
        refine t_go (op := o_iload 43 1) (fe_X11_isAtRest 42) (fun _ _ => rfl) ?_
        refine t_go (op := o_iload 44 2) (fe_X11_isAtRest 43) (fun _ _ => rfl) ?_
        refine t_go (op := o_iload 46 5) (fe_X11_isAtRest 44) (fun _ _ => rfl) ?_
        refine t_go (op := o_iload 48 4) (fe_X11_isAtRest 46) (fun _ _ => rfl) ?_
        refine t_call (op := o_callS 51 155 5) (fe_X11_isAtRest 48) (g_callS rfl rfl rfl (Nat.le_of_ble_eq_true rfl)) ?_
        refine M_eq c_turn10 ?_
        refine t_ite (op := o_if 58 54 (fun x => x = 0) (fun _ => inferInstance)) (fe_X11_isAtRest 51) g_if (fun c4 => ?_) (fun c4 => ?_)
        · replace c4 := b2i_z c4
          refine t_go (op := o_ci 55 1) (fe_X11_isAtRest 54) (fun _ _ => rfl) ?_
          refine t_go (op := o_goto 59) (fe_X11_isAtRest 55) (fun _ _ => rfl) ?_
          refine t_ret (op := o_zret) (fe_X11_isAtRest 59) (g_zret (Or.inr rfl)) ?_
          exact ⟨by rw [b2i_t (atC_t (F := false) (O := true) rfl rfl c3 c4)], rfl⟩
        · replace c4 := b2i_nn c4
          refine t_go (op := o_ci 59 0) (fe_X11_isAtRest 58) (fun _ _ => rfl) ?_
          refine t_ret (op := o_zret) (fe_X11_isAtRest 59) (g_zret (Or.inl rfl)) ?_
          exact ⟨by rw [b2i_f (atC_2 (F := false) (O := true) rfl rfl c4)], rfl⟩
      · replace c3 := b2i_nn c3
        refine t_go (op := o_ci 59 0) (fe_X11_isAtRest 58) (fun _ _ => rfl) ?_
        refine t_ret (op := o_zret) (fe_X11_isAtRest 59) (g_zret (Or.inl rfl)) ?_
        exact ⟨by rw [b2i_f (atC_1 (F := false) (O := true) rfl rfl c3)], rfl⟩
    · exact absurd (by decide) c2
theorem c_rest2 {d : Nat} {h : AHP} {a b c : Int32} : MM (d + 2) 154 [.int a, .int b, .int c, .int (nI 2)] h (fun v h2 => v = some (.int (b2i (atR a b c 2 = true))) ∧ h2 = h) := by
  refine ⟨Nat.le_of_ble_eq_true rfl, ?_⟩
  refine t_go (op := o_iload 1 3) (fe_X11_isAtRest 0) (fun _ _ => rfl) ?_
  refine t_go (op := o_ci 2 1) (fe_X11_isAtRest 1) (fun _ _ => rfl) ?_
  refine t_go (op := o_i2 3 (fun x y => x >>> (y &&& 31))) (fe_X11_isAtRest 2) (fun _ _ => rfl) ?_
  refine t_go (op := o_ci 4 1) (fe_X11_isAtRest 3) (fun _ _ => rfl) ?_
  refine t_ite (op := o_icmp 11 7 (fun x y => x = y) (fun _ _ => inferInstance)) (fe_X11_isAtRest 4) g_icmp (fun c1 => ?_) (fun c1 => ?_)
  · refine t_go (op := o_ci 8 1) (fe_X11_isAtRest 7) (fun _ _ => rfl) ?_
    refine t_go (op := o_goto 12) (fe_X11_isAtRest 8) (fun _ _ => rfl) ?_
    refine t_go (op := o_istore 14 4) (fe_X11_isAtRest 12) (fun _ _ => rfl) ?_
    refine t_go (op := o_iload 15 3) (fe_X11_isAtRest 14) (fun _ _ => rfl) ?_
    refine t_go (op := o_ci 16 1) (fe_X11_isAtRest 15) (fun _ _ => rfl) ?_
    refine t_go (op := o_i2 17 (fun x y => x &&& y)) (fe_X11_isAtRest 16) (fun _ _ => rfl) ?_
    refine t_go (op := o_ci 18 1) (fe_X11_isAtRest 17) (fun _ _ => rfl) ?_
    refine t_ite (op := o_icmp 25 21 (fun x y => x = y) (fun _ _ => inferInstance)) (fe_X11_isAtRest 18) g_icmp (fun c2 => ?_) (fun c2 => ?_)
    · exact absurd c2 (by decide)
    · refine t_go (op := o_ci 26 0) (fe_X11_isAtRest 25) (fun _ _ => rfl) ?_
      refine t_go (op := o_istore 28 5) (fe_X11_isAtRest 26) (fun _ _ => rfl) ?_
      refine t_go (op := o_iload 29 0) (fe_X11_isAtRest 28) (fun _ _ => rfl) ?_
      refine t_go (op := o_iload 30 1) (fe_X11_isAtRest 29) (fun _ _ => rfl) ?_
      refine t_go (op := o_iload 31 2) (fe_X11_isAtRest 30) (fun _ _ => rfl) ?_
      refine t_go (op := o_iload 33 4) (fe_X11_isAtRest 31) (fun _ _ => rfl) ?_
      refine t_go (op := o_iload 35 5) (fe_X11_isAtRest 33) (fun _ _ => rfl) ?_
      refine t_call (op := o_callS 38 155 5) (fe_X11_isAtRest 35) (g_callS rfl rfl rfl (Nat.le_of_ble_eq_true rfl)) ?_
      refine M_eq c_turn10 ?_
      refine t_ite (op := o_if 58 41 (fun x => x = 0) (fun _ => inferInstance)) (fe_X11_isAtRest 38) g_if (fun c3 => ?_) (fun c3 => ?_)
      · replace c3 := b2i_z c3
        refine t_go (op := o_iload 42 0) (fe_X11_isAtRest 41) (fun _ _ => rfl) ?_
        refine t_go (op := o_iload 43 1) (fe_X11_isAtRest 42) (fun _ _ => rfl) ?_
        refine t_go (op := o_iload 44 2) (fe_X11_isAtRest 43) (fun _ _ => rfl) ?_
        refine t_go (op := o_iload 46 5) (fe_X11_isAtRest 44) (fun _ _ => rfl) ?_
        refine t_go (op := o_iload 48 4) (fe_X11_isAtRest 46) (fun _ _ => rfl) ?_
        refine t_call (op := o_callS 51 155 5) (fe_X11_isAtRest 48) (g_callS rfl rfl rfl (Nat.le_of_ble_eq_true rfl)) ?_
        refine M_eq c_turn01 ?_
        refine t_ite (op := o_if 58 54 (fun x => x = 0) (fun _ => inferInstance)) (fe_X11_isAtRest 51) g_if (fun c4 => ?_) (fun c4 => ?_)
        · replace c4 := b2i_z c4
          refine t_go (op := o_ci 55 1) (fe_X11_isAtRest 54) (fun _ _ => rfl) ?_
          refine t_go (op := o_goto 59) (fe_X11_isAtRest 55) (fun _ _ => rfl) ?_
          refine t_ret (op := o_zret) (fe_X11_isAtRest 59) (g_zret (Or.inr rfl)) ?_
          exact ⟨by rw [b2i_t (atC_t (F := true) (O := false) rfl rfl c3 c4)], rfl⟩
        · replace c4 := b2i_nn c4
          refine t_go (op := o_ci 59 0) (fe_X11_isAtRest 58) (fun _ _ => rfl) ?_
          refine t_ret (op := o_zret) (fe_X11_isAtRest 59) (g_zret (Or.inl rfl)) ?_
          exact ⟨by rw [b2i_f (atC_2 (F := true) (O := false) rfl rfl c4)], rfl⟩
      · replace c3 := b2i_nn c3
        refine t_go (op := o_ci 59 0) (fe_X11_isAtRest 58) (fun _ _ => rfl) ?_
        refine t_ret (op := o_zret) (fe_X11_isAtRest 59) (g_zret (Or.inl rfl)) ?_
        exact ⟨by rw [b2i_f (atC_1 (F := true) (O := false) rfl rfl c3)], rfl⟩
  · exact absurd (by decide) c1
theorem c_rest3 {d : Nat} {h : AHP} {a b c : Int32} : MM (d + 2) 154 [.int a, .int b, .int c, .int (nI 3)] h (fun v h2 => v = some (.int (b2i (atR a b c 3 = true))) ∧ h2 = h) := by
  refine ⟨Nat.le_of_ble_eq_true rfl, ?_⟩
  refine t_go (op := o_iload 1 3) (fe_X11_isAtRest 0) (fun _ _ => rfl) ?_
  refine t_go (op := o_ci 2 1) (fe_X11_isAtRest 1) (fun _ _ => rfl) ?_
  refine t_go (op := o_i2 3 (fun x y => x >>> (y &&& 31))) (fe_X11_isAtRest 2) (fun _ _ => rfl) ?_
  refine t_go (op := o_ci 4 1) (fe_X11_isAtRest 3) (fun _ _ => rfl) ?_
  refine t_ite (op := o_icmp 11 7 (fun x y => x = y) (fun _ _ => inferInstance)) (fe_X11_isAtRest 4) g_icmp (fun c1 => ?_) (fun c1 => ?_)
  · refine t_go (op := o_ci 8 1) (fe_X11_isAtRest 7) (fun _ _ => rfl) ?_
    refine t_go (op := o_goto 12) (fe_X11_isAtRest 8) (fun _ _ => rfl) ?_
    refine t_go (op := o_istore 14 4) (fe_X11_isAtRest 12) (fun _ _ => rfl) ?_
    refine t_go (op := o_iload 15 3) (fe_X11_isAtRest 14) (fun _ _ => rfl) ?_
    refine t_go (op := o_ci 16 1) (fe_X11_isAtRest 15) (fun _ _ => rfl) ?_
    refine t_go (op := o_i2 17 (fun x y => x &&& y)) (fe_X11_isAtRest 16) (fun _ _ => rfl) ?_
    refine t_go (op := o_ci 18 1) (fe_X11_isAtRest 17) (fun _ _ => rfl) ?_
    refine t_ite (op := o_icmp 25 21 (fun x y => x = y) (fun _ _ => inferInstance)) (fe_X11_isAtRest 18) g_icmp (fun c2 => ?_) (fun c2 => ?_)
    · refine t_go (op := o_ci 22 1) (fe_X11_isAtRest 21) (fun _ _ => rfl) ?_
      refine t_go (op := o_goto 26) (fe_X11_isAtRest 22) (fun _ _ => rfl) ?_
      refine t_go (op := o_istore 28 5) (fe_X11_isAtRest 26) (fun _ _ => rfl) ?_
      refine t_go (op := o_iload 29 0) (fe_X11_isAtRest 28) (fun _ _ => rfl) ?_
      refine t_go (op := o_iload 30 1) (fe_X11_isAtRest 29) (fun _ _ => rfl) ?_
      refine t_go (op := o_iload 31 2) (fe_X11_isAtRest 30) (fun _ _ => rfl) ?_
      refine t_go (op := o_iload 33 4) (fe_X11_isAtRest 31) (fun _ _ => rfl) ?_
      refine t_go (op := o_iload 35 5) (fe_X11_isAtRest 33) (fun _ _ => rfl) ?_
      refine t_call (op := o_callS 38 155 5) (fe_X11_isAtRest 35) (g_callS rfl rfl rfl (Nat.le_of_ble_eq_true rfl)) ?_
      refine M_eq c_turn11 ?_
      refine t_ite (op := o_if 58 41 (fun x => x = 0) (fun _ => inferInstance)) (fe_X11_isAtRest 38) g_if (fun c3 => ?_) (fun c3 => ?_)
      · replace c3 := b2i_z c3
        refine t_go (op := o_iload 42 0) (fe_X11_isAtRest 41) (fun _ _ => rfl) ?_
        refine t_go (op := o_iload 43 1) (fe_X11_isAtRest 42) (fun _ _ => rfl) ?_
        refine t_go (op := o_iload 44 2) (fe_X11_isAtRest 43) (fun _ _ => rfl) ?_
        refine t_go (op := o_iload 46 5) (fe_X11_isAtRest 44) (fun _ _ => rfl) ?_
        refine t_go (op := o_iload 48 4) (fe_X11_isAtRest 46) (fun _ _ => rfl) ?_
        refine t_call (op := o_callS 51 155 5) (fe_X11_isAtRest 48) (g_callS rfl rfl rfl (Nat.le_of_ble_eq_true rfl)) ?_
        refine M_eq c_turn11 ?_
        refine t_ite (op := o_if 58 54 (fun x => x = 0) (fun _ => inferInstance)) (fe_X11_isAtRest 51) g_if (fun c4 => ?_) (fun c4 => ?_)
        · replace c4 := b2i_z c4
          refine t_go (op := o_ci 55 1) (fe_X11_isAtRest 54) (fun _ _ => rfl) ?_
          refine t_go (op := o_goto 59) (fe_X11_isAtRest 55) (fun _ _ => rfl) ?_
          refine t_ret (op := o_zret) (fe_X11_isAtRest 59) (g_zret (Or.inr rfl)) ?_
          exact ⟨by rw [b2i_t (atC_t (F := true) (O := true) rfl rfl c3 c4)], rfl⟩
        · replace c4 := b2i_nn c4
          refine t_go (op := o_ci 59 0) (fe_X11_isAtRest 58) (fun _ _ => rfl) ?_
          refine t_ret (op := o_zret) (fe_X11_isAtRest 59) (g_zret (Or.inl rfl)) ?_
          exact ⟨by rw [b2i_f (atC_2 (F := true) (O := true) rfl rfl c4)], rfl⟩
      · replace c3 := b2i_nn c3
        refine t_go (op := o_ci 59 0) (fe_X11_isAtRest 58) (fun _ _ => rfl) ?_
        refine t_ret (op := o_zret) (fe_X11_isAtRest 59) (g_zret (Or.inl rfl)) ?_
        exact ⟨by rw [b2i_f (atC_1 (F := true) (O := true) rfl rfl c3)], rfl⟩
    · exact absurd (by decide) c2
  · exact absurd (by decide) c1
theorem c_isAtRest {d : Nat} {h : AHP} {a b c : Int32} {k : Nat} (hk : k < 4) : MM (d + 2) 154 [.int a, .int b, .int c, .int (nI k)] h (fun v h2 => v = some (.int (b2i (atR a b c k = true))) ∧ h2 = h) := by
  match k, hk with
  | 0, _ => exact c_rest0
  | 1, _ => exact c_rest1
  | 2, _ => exact c_rest2
  | 3, _ => exact c_rest3
  | k + 4, hk => omega
theorem met_MM {w : WD} {l : Launch} {d k : Nat} {as : List Value} {h : AHP} {v : Value} (hm : MM d k as h (fun x h2 => x = some v ∧ h2 = h)) : MetM w l (mt k) d as h (some v, h) := by
  obtain ⟨hl, n, r, hr, q1, q2⟩ := hm
  have hg := arun_sound (w := w) (l := l) (fun k _ => mt_own k) (fun k pc op h => (fe_ok k pc op h).1) n d k 0 _ _ h r hr
  have hM := met_of (mt_own k).1 (mt_own k).2 hl hg
  obtain ⟨r1, r2⟩ := r
  have e1 : r1 = some v := q1
  have e2 : r2 = h := q2
  subst e1 e2
  exact hM
/-! ===== a walk with any end ===== -/
def WP (w : WD) (l : Launch) (μ : MR) (p : Program) (e : Env) (R : Room) (s : State) (m : MethodId) (args : Array Value) (below : List Frame) (meth : Method) (c : Code) (n0 : Nat) (Z : State → Prop) (pc : Nat) (ls : ALS) (st : List Value) (h : AHP) : Prop :=
  ∀ H locs cells slots lsA, Pt w h s n0 H locs cells slots → LR w μ.2.2.2.1 ls lsA → W p l e R s m args below meth c H locs cells slots Z (F0 m pc lsA (st.map (vv w)))
section WPS
variable {w : WD} {l : Launch} {μ : MR} {d : Nat} {p : Program} {e : Env} {R : Room} {s : State} {m : MethodId} {args : Array Value} {below : List Frame} {meth : Method} {c : Code} {n0 : Nat} {Z : State → Prop} {pc : Nat} {ls : ALS} {st : List Value} {h : AHP}
theorem zp_iload (hcx : Cx w μ d p R s m args meth c) {i : Nat} {x : Int32} (hd : decode μ.2.2.1 pc = .ok (.iload i, 2)) (hx : lg ls i = some (.int x)) (k : WP w l μ p e R s m args below meth c n0 Z (pc + 2) ls (.int x :: st) h) : WP w l μ p e R s m args below meth c n0 Z pc ls st h :=
  fun H locs cells slots lsA hpt hlr => lv_iload hcx.1 hcx.2.1 hd (hlr.2.2.2 _ _ hx) (k H locs cells slots lsA hpt hlr)
theorem zp_iload_n (hcx : Cx w μ d p R s m args meth c) {i : Nat} {j : Fin 4} {x : Int32} (hj : (j : Nat) = i) (hd : decode μ.2.2.1 pc = .ok (.iload_n j, 1)) (hx : lg ls i = some (.int x)) (k : WP w l μ p e R s m args below meth c n0 Z (pc + 1) ls (.int x :: st) h) : WP w l μ p e R s m args below meth c n0 Z pc ls st h :=
  fun H locs cells slots lsA hpt hlr => lv_iload_n hcx.1 hcx.2.1 hd hj (hlr.2.2.2 _ _ hx) (k H locs cells slots lsA hpt hlr)
theorem zp_aload (hcx : Cx w μ d p R s m args meth c) {i x : Nat} (hd : decode μ.2.2.1 pc = .ok (.aload i, 2)) (hx : lg ls i = some (.ref x)) (k : WP w l μ p e R s m args below meth c n0 Z (pc + 2) ls (.ref x :: st) h) : WP w l μ p e R s m args below meth c n0 Z pc ls st h :=
  fun H locs cells slots lsA hpt hlr => lv_aload hcx.1 hcx.2.1 hd (hlr.2.2.2 _ _ hx) (k H locs cells slots lsA hpt hlr)
theorem zp_aload_n (hcx : Cx w μ d p R s m args meth c) {i x : Nat} {j : Fin 4} (hj : (j : Nat) = i) (hd : decode μ.2.2.1 pc = .ok (.aload_n j, 1)) (hx : lg ls i = some (.ref x)) (k : WP w l μ p e R s m args below meth c n0 Z (pc + 1) ls (.ref x :: st) h) : WP w l μ p e R s m args below meth c n0 Z pc ls st h :=
  fun H locs cells slots lsA hpt hlr => lv_aload_n hcx.1 hcx.2.1 hd hj (hlr.2.2.2 _ _ hx) (k H locs cells slots lsA hpt hlr)
theorem zp_iconst (hcx : Cx w μ d p R s m args meth c) {n : Int} {v : Int32} (hv : Int32.ofInt n = v) (hd : decode μ.2.2.1 pc = .ok (.iconst n, 1)) (k : WP w l μ p e R s m args below meth c n0 Z (pc + 1) ls (.int v :: st) h) : WP w l μ p e R s m args below meth c n0 Z pc ls st h :=
  fun H locs cells slots lsA hpt hlr => lv_iconst hcx.1 hcx.2.1 hd hv (k H locs cells slots lsA hpt hlr)
theorem zp_istore (hcx : Cx w μ d p R s m args meth c) {i : Nat} {x : Int32} (hd : decode μ.2.2.1 pc = .ok (.istore i, 2)) (hi : i < ls.length) (k : WP w l μ p e R s m args below meth c n0 Z (pc + 2) (st1 ls i (.int x)) st h) : WP w l μ p e R s m args below meth c n0 Z pc ls (.int x :: st) h :=
  fun H locs cells slots lsA hpt hlr => lv_istore hcx.1 hcx.2.1 hd hlr.has (by rw [← hlr.2.1]; exact hi) rfl (fun ls2 h2 => k H locs cells slots ls2 hpt (hlr.store1 (v := .int x) (by rw [← hlr.2.1]; exact hi) h2))
theorem zp_iinc (hcx : Cx w μ d p R s m args meth c) {i : Nat} {n : Int} {v x : Int32} (hv : Int32.ofInt n = v) (hd : decode μ.2.2.1 pc = .ok (.iinc i n, 3)) (hx1 : lg ls i = some (.int x)) (kk : WP w l μ p e R s m args below meth c n0 Z (pc + 3) (st1 ls i (.int (x + v))) st h) : WP w l μ p e R s m args below meth c n0 Z pc ls st h :=
  fun H locs cells slots lsA hpt hlr => by
    have hm : (i, Value.int x) ∈ lvl w ls := lvl_mem.mpr ⟨_, hx1, rfl⟩
    obtain ⟨q, hq⟩ := List.getElem?_of_mem hm
    have hi : i < μ.2.2.2.1 := by rw [← hlr.2.1]; exact lg_lt _ _ _ hx1
    exact lv_iinc (v := x + v) hcx.1 hcx.2.1 hd hlr.has hq (by rw [hv]) hi rfl (fun ls2 h2 => kk H locs cells slots ls2 hpt (hlr.store1 (v := .int (x + v)) hi h2))
theorem zp_goto (hcx : Cx w μ d p R s m args meth c) {off : Int} {tgt : Nat} (ht : (pc : Int) + off = (tgt : Int)) (hd : decode μ.2.2.1 pc = .ok (.goto off, 3)) (k : WP w l μ p e R s m args below meth c n0 Z tgt ls st h) : WP w l μ p e R s m args below meth c n0 Z pc ls st h :=
  fun H locs cells slots lsA hpt hlr => lv_goto hcx.1 hcx.2.1 hd ht (k H locs cells slots lsA hpt hlr)
theorem zp_if_eq (hcx : Cx w μ d p R s m args meth c) {off : Int} {tgt : Nat} {x : Int32} (ht : (pc : Int) + off = (tgt : Int)) (hd : decode μ.2.2.1 pc = .ok (.ifCond .eq off, 3)) (k1 : x = 0 → WP w l μ p e R s m args below meth c n0 Z tgt ls st h) (k2 : ¬ x = 0 → WP w l μ p e R s m args below meth c n0 Z (pc + 3) ls st h) : WP w l μ p e R s m args below meth c n0 Z pc ls (.int x :: st) h :=
  fun H locs cells slots lsA hpt hlr => lv_if_eq hcx.1 hcx.2.1 hd ht (fun q => k1 q H locs cells slots lsA hpt hlr) (fun q => k2 q H locs cells slots lsA hpt hlr)
theorem zp_if_ne (hcx : Cx w μ d p R s m args meth c) {off : Int} {tgt : Nat} {x : Int32} (ht : (pc : Int) + off = (tgt : Int)) (hd : decode μ.2.2.1 pc = .ok (.ifCond .ne off, 3)) (k1 : ¬ x = 0 → WP w l μ p e R s m args below meth c n0 Z tgt ls st h) (k2 : x = 0 → WP w l μ p e R s m args below meth c n0 Z (pc + 3) ls st h) : WP w l μ p e R s m args below meth c n0 Z pc ls (.int x :: st) h :=
  fun H locs cells slots lsA hpt hlr => lv_if_ne hcx.1 hcx.2.1 hd ht (fun q => k1 q H locs cells slots lsA hpt hlr) (fun q => k2 q H locs cells slots lsA hpt hlr)
theorem zp_icmp_eq (hcx : Cx w μ d p R s m args meth c) {off : Int} {tgt : Nat} {x y : Int32} (ht : (pc : Int) + off = (tgt : Int)) (hd : decode μ.2.2.1 pc = .ok (.if_icmp .eq off, 3)) (k1 : x = y → WP w l μ p e R s m args below meth c n0 Z tgt ls st h) (k2 : ¬ x = y → WP w l μ p e R s m args below meth c n0 Z (pc + 3) ls st h) : WP w l μ p e R s m args below meth c n0 Z pc ls (.int y :: .int x :: st) h :=
  fun H locs cells slots lsA hpt hlr => lv_icmp_eq hcx.1 hcx.2.1 hd ht (fun q => k1 q H locs cells slots lsA hpt hlr) (fun q => k2 q H locs cells slots lsA hpt hlr)
theorem zp_icmp_ne (hcx : Cx w μ d p R s m args meth c) {off : Int} {tgt : Nat} {x y : Int32} (ht : (pc : Int) + off = (tgt : Int)) (hd : decode μ.2.2.1 pc = .ok (.if_icmp .ne off, 3)) (k1 : ¬ x = y → WP w l μ p e R s m args below meth c n0 Z tgt ls st h) (k2 : x = y → WP w l μ p e R s m args below meth c n0 Z (pc + 3) ls st h) : WP w l μ p e R s m args below meth c n0 Z pc ls (.int y :: .int x :: st) h :=
  fun H locs cells slots lsA hpt hlr => lv_icmp_ne hcx.1 hcx.2.1 hd ht (fun q => k1 q H locs cells slots lsA hpt hlr) (fun q => k2 q H locs cells slots lsA hpt hlr)
theorem zp_icmp_ge (hcx : Cx w μ d p R s m args meth c) {off : Int} {tgt : Nat} {x y : Int32} (ht : (pc : Int) + off = (tgt : Int)) (hd : decode μ.2.2.1 pc = .ok (.if_icmp .ge off, 3)) (k1 : y ≤ x → WP w l μ p e R s m args below meth c n0 Z tgt ls st h) (k2 : ¬ y ≤ x → WP w l μ p e R s m args below meth c n0 Z (pc + 3) ls st h) : WP w l μ p e R s m args below meth c n0 Z pc ls (.int y :: .int x :: st) h :=
  fun H locs cells slots lsA hpt hlr => lv_icmp_ge hcx.1 hcx.2.1 hd ht (fun q => k1 q H locs cells slots lsA hpt hlr) (fun q => k2 q H locs cells slots lsA hpt hlr)
theorem zp_callS (hcx : Cx w μ d p R s m args meth c) {k j idx d' : Nat} {v : Value} {as rest : List Value} (hdd : d = d' + 1) (hm : CalOK (mt k) j) (hw : Cond.methodLink μ.1 idx (mt k).2.1 ∈ WSg) (hw2 : Cond.static (mt k).2.1 ∈ WSg) (hd : decode μ.2.2.1 pc = .ok (.invokestatic idx, 3)) (hM : MetM w l (mt k) d' as h (some v, h)) (hj : as.length = j) (hst : st = as.reverse ++ rest) (hr8 : (rest.map fun v => v.category).sum ≤ 8) (hrm : h.2.2.2 ≤ R.cells + n0 ∧ sl h.2.2.2 ≤ R.slots + sl n0) (kk : WP w l μ p e R s m args below meth c n0 Z (pc + 3) ls (v :: rest) h) : WP w l μ p e R s m args below meth c n0 Z pc ls st h :=
  fun H locs cells slots lsA hpt hlr => W_size fun hz => by
    have hR := hcx.2.2.2.2.2.2.2.2.1
    have hst2 : st.map (vv w) = (as.map (vv w)).reverse ++ rest.map (vv w) := by
      rw [hst, List.map_append, List.map_reverse]
    have a1 := hpt.2.2.1
    have a2 := hpt.2.2.2.1
    refine am_after (r1 := (some v, h)) hpt (Nat.le_refl _) (va_runS (As := as.map (vv w)) (rest := rest.map (vv w)) (n := j) (bytes := (mt k).2.2.1) (maxL := (mt k).2.2.2.1) (ret := (mt k).2.2.2.2) ⟨hcx.1, hcx.2.1, hcx.2.2.1, hcx.2.2.2.1, hcx.2.2.2.2.1⟩ hM ⟨callB_of j hcx.2.2.2.2.1 (good_l (ws_all hm)) rfl rfl rfl (hcx.2.2.2.2.1 _ hm.2.1) (hcx.2.2.2.2.1 _ hw) hm.2.2.2 ⟨by show d' + 1 + 1 ≤ _; omega, by show 8 + (_ + 11) + 60 * (d' + 1) ≤ _; have := hm.2.2.1; omega⟩, hcx.2.2.2.2.1 _ hw2⟩ ⟨blind_PcM, pc_PcM hcx.2.2.2.2.2.1 hpt.1 (hpt.size hz)⟩ rfl (by rw [List.length_map]; exact hj) hlr.1 hst2 (lv_room (by rw [cat_map]; exact hr8)) hd ⟨by show cells + (h.2.2.2 - h.2.2.2) ≤ _; omega, by show slots + (sl h.2.2.2 - sl h.2.2.2) ≤ _; omega⟩) (fun H1 locs1 hp1 => ?_)
    exact kk H1 locs1 _ _ lsA hp1 hlr
end WPS
