/-! ===== rests of the reference ===== -/
def rf (a b c e : Int32) : Nat → Nat → Nat → Int32 → Nat × Int32
  | 0, _, m, fo => (m, fo)
  | j + 1, k, m, fo => if atR a b c k = true then rf a b c e j (k + 1) (m + 1) (if nI m = e then nI k else fo) else rf a b c e j (k + 1) m fo
theorem rf_n {a b c e : Int32} : ∀ j k m fo, (rf a b c e j k m fo).1 ≤ m + j := by
  intro j
  induction j with
  | zero => intro k m fo; exact Nat.le_refl _
  | succ j ih =>
    intro k m fo
    rw [rf]
    by_cases hA : atR a b c k = true
    · rw [if_pos hA]; have := ih (k + 1) (m + 1) (if nI m = e then nI k else fo); omega
    · rw [if_neg hA]; have := ih (k + 1) m fo; omega
theorem rs_A {a b c : Int32} : ∀ j k m fo, m + j ≤ 100 → rsL a b c (-1) j k (nI m) = some (nI (rf a b c (-1) j k m fo).1) := by
  intro j
  induction j with
  | zero => intro k m fo _; rfl
  | succ j ih =>
    intro k m fo hm
    rw [rsL, rf, nI_1]
    by_cases hA : atR a b c k = true
    · rw [if_pos hA, if_pos hA, if_neg (nI_m1 (by omega))]; exact ih _ _ _ (by omega)
    · rw [if_neg hA, if_neg hA]; exact ih _ _ _ (by omega)
theorem rs_C {a b c e : Int32} {D : Nat} (he : e = nI D) (hD : D < 2 ^ 31) : ∀ j k m fo, m + j ≤ 100 → D < m → (rf a b c e j k m fo).2 = fo := by
  intro j
  induction j with
  | zero => intro k m fo _ _; rfl
  | succ j ih =>
    intro k m fo hm hd
    rw [rf]
    by_cases hA : atR a b c k = true
    · rw [if_pos hA, if_neg (fun q => by rw [he] at q; have := nI_inj (by omega) hD q; omega)]; exact ih _ _ _ (by omega) (by omega)
    · rw [if_neg hA]; exact ih _ _ _ (by omega) hd
theorem rs_B {a b c e : Int32} {D : Nat} (he : e = nI D) (hD : D < 2 ^ 31) : ∀ j k m, k + j ≤ 100 → m + j ≤ 100 → rsL a b c e j k (nI m) = if (rf a b c e j k m (-1)).2 < 0 then none else some (rf a b c e j k m (-1)).2 := by
  intro j
  induction j with
  | zero =>
    intro k m _ _
    show (if e = -1 then some (nI m) else none) = if (-1 : Int32) < 0 then none else some (-1 : Int32)
    rw [if_neg (fun q => by rw [he] at q; exact nI_m1 hD q), if_pos (by decide)]
  | succ j ih =>
    intro k m hk hm
    rw [rsL, rf, nI_1]
    by_cases hA : atR a b c k = true
    · rw [if_pos hA, if_pos hA]
      by_cases hn : nI m = e
      · rw [if_pos hn, if_pos hn, rs_C he hD j _ _ _ (by omega) (by have := nI_inj (by omega) hD (hn.trans he); omega), if_neg (nI_pos (by omega))]
      · rw [if_neg hn, if_neg hn]; exact ih _ _ (by omega) (by omega)
    · rw [if_neg hA, if_neg hA]; exact ih _ _ (by omega) (by omega)
theorem rs_D {a b c e : Int32} (he : e < -1) : ∀ j k m, m + j ≤ 100 → rsL a b c e j k (nI m) = none := by
  intro j
  induction j with
  | zero =>
    intro k m _
    rw [rsL, if_neg (fun q => by rw [q] at he; exact absurd he (by decide))]
  | succ j ih =>
    intro k m hm
    rw [rsL, nI_1]
    by_cases hA : atR a b c k = true
    · rw [if_pos hA, if_neg (fun q => by rw [← q] at he; exact absurd (Int32.lt_trans he (by decide : (-1 : Int32) < 0)) (nI_pos (by omega)))]; exact ih _ _ (by omega)
    · rw [if_neg hA]; exact ih _ _ (by omega)
theorem m1_of {e : Int32} (h1 : ¬ e < -1) (h2 : e < 0) : e = -1 := by
  rw [Int32.lt_iff_toInt_lt] at h1 h2
  have e1 : (-1 : Int32).toInt = -1 := by decide
  have e0 : (0 : Int32).toInt = 0 := by decide
  exact Int32.toInt_inj.mp (by omega)
theorem nn_of {e : Int32} (h2 : ¬ e < 0) : ∃ D, D < 2 ^ 31 ∧ e = nI D := by
  rw [Int32.lt_iff_toInt_lt] at h2
  have e0 : (0 : Int32).toInt = 0 := by decide
  have h3 := Int32.toInt_lt e
  refine ⟨e.toInt.toNat, by omega, Int32.toInt_inj.mp ?_⟩
  rw [nI_toInt (by omega)]
  omega
theorem atR_f1 {a b c : Int32} {k : Nat} {F O : Bool} (hF : Nat.beq (k / 2) 1 = F) (hO : Nat.beq (k % 2) 1 = O) (h : gnV a b c F O < gnV a b c (!F) O) : ¬ atR a b c k = true := by
  subst hF hO
  show ¬ ((!(decide _) && !(decide _)) = true)
  rw [decide_eq_true h]; simp
theorem atR_f2 {a b c : Int32} {k : Nat} {F O : Bool} (hF : Nat.beq (k / 2) 1 = F) (hO : Nat.beq (k % 2) 1 = O) (h : gnV a b c O F < gnV a b c (!O) F) : ¬ atR a b c k = true := by
  subst hF hO
  show ¬ ((!(decide _) && !(decide _)) = true)
  rw [decide_eq_true h]; simp
theorem atR_t {a b c : Int32} {k : Nat} {F O : Bool} (hF : Nat.beq (k / 2) 1 = F) (hO : Nat.beq (k % 2) 1 = O) (h : ¬ gnV a b c F O < gnV a b c (!F) O) (h2 : ¬ gnV a b c O F < gnV a b c (!O) F) : atR a b c k = true := by
  subst hF hO
  show (!(decide _) && !(decide _)) = true
  rw [decide_eq_false h, decide_eq_false h2]; rfl
theorem r_gets {d : Nat} {h : AHP} {x y a b c : Int32} {F O : Bool} (hx : decide (x = 1) = F) (hy : decide (y = 1) = O) : MM d 263 [.int x, .int y, .int a, .int b, .int c] h (fun v h2 => v = some (.int (gnV a b c F O)) ∧ h2 = h) := by
  refine ⟨Nat.le_of_ble_eq_true rfl, ?_⟩
  refine t_go (op := o_iload 1 0) (fe_X12_getsBy 0) (fun _ _ => rfl) ?_
  refine t_go (op := o_ci 2 1) (fe_X12_getsBy 1) (fun _ _ => rfl) ?_
  refine t_ite (op := o_icmp 19 5 (fun x y => x = y) (fun _ _ => inferInstance)) (fe_X12_getsBy 2) g_icmp (fun c1 => ?_) (fun c1 => ?_)
  · refine t_go (op := o_iload 6 1) (fe_X12_getsBy 5) (fun _ _ => rfl) ?_
    refine t_go (op := o_ci 7 1) (fe_X12_getsBy 6) (fun _ _ => rfl) ?_
    refine t_ite (op := o_icmp 14 10 (fun x y => x = y) (fun _ _ => inferInstance)) (fe_X12_getsBy 7) g_icmp (fun c2 => ?_) (fun c2 => ?_)
    · refine t_go (op := o_iload 11 2) (fe_X12_getsBy 10) (fun _ _ => rfl) ?_
      refine t_go (op := o_goto 30) (fe_X12_getsBy 11) (fun _ _ => rfl) ?_
      refine t_ret (op := o_iret) (fe_X12_getsBy 30) (fun _ _ => rfl) ?_
      subst hx hy
      exact ⟨by rw [decide_eq_true c1, decide_eq_true c2]; rfl, rfl⟩
    · refine t_go (op := o_iload 15 3) (fe_X12_getsBy 14) (fun _ _ => rfl) ?_
      refine t_go (op := o_i1 16 (fun x => -x)) (fe_X12_getsBy 15) (fun _ _ => rfl) ?_
      refine t_go (op := o_goto 30) (fe_X12_getsBy 16) (fun _ _ => rfl) ?_
      refine t_ret (op := o_iret) (fe_X12_getsBy 30) (fun _ _ => rfl) ?_
      subst hx hy
      exact ⟨by rw [decide_eq_true c1, decide_eq_false c2]; rfl, rfl⟩
  · refine t_go (op := o_iload 20 1) (fe_X12_getsBy 19) (fun _ _ => rfl) ?_
    refine t_go (op := o_ci 21 1) (fe_X12_getsBy 20) (fun _ _ => rfl) ?_
    refine t_ite (op := o_icmp 29 24 (fun x y => x = y) (fun _ _ => inferInstance)) (fe_X12_getsBy 21) g_icmp (fun c3 => ?_) (fun c3 => ?_)
    · refine t_go (op := o_iload 26 4) (fe_X12_getsBy 24) (fun _ _ => rfl) ?_
      refine t_go (op := o_goto 30) (fe_X12_getsBy 26) (fun _ _ => rfl) ?_
      refine t_ret (op := o_iret) (fe_X12_getsBy 30) (fun _ _ => rfl) ?_
      subst hx hy
      exact ⟨by rw [decide_eq_false c1, decide_eq_true c3]; rfl, rfl⟩
    · refine t_go (op := o_ci 30 0) (fe_X12_getsBy 29) (fun _ _ => rfl) ?_
      refine t_ret (op := o_iret) (fe_X12_getsBy 30) (fun _ _ => rfl) ?_
      subst hx hy
      exact ⟨by rw [decide_eq_false c1, decide_eq_false c3]; rfl, rfl⟩
set_option maxRecDepth 8000 in
theorem r_rs0 {d : Nat} {h : AHP} {a b c e fo : Int32} {m : Nat} {x9 x10 x11 : Option Value} (hS : Std h) {Q : Option Value → AHP → Prop} (hqF : ¬ atR a b c 0 = true → ∀ x9 x10 x11, TT (d + 1) 264 52 [some (.ref 183), some (.int a), some (.int b), some (.int c), some (.int e), some (.int 1), some (.int (nI m)), some (.int fo), some (.int (nI 1)), x9, x10, x11] [] h Q) (hqN : atR a b c 0 = true → ¬ nI m = e → ∀ x9 x10 x11, TT (d + 1) 264 52 [some (.ref 183), some (.int a), some (.int b), some (.int c), some (.int e), some (.int 1), some (.int (nI (m + 1))), some (.int fo), some (.int (nI 1)), x9, x10, x11] [] h Q) (hqY : atR a b c 0 = true → nI m = e → ∀ x9 x10 x11, TT (d + 1) 264 52 [some (.ref 183), some (.int a), some (.int b), some (.int c), some (.int e), some (.int 1), some (.int (nI (m + 1))), some (.int (nI 0)), some (.int (nI 1)), x9, x10, x11] [] h Q) : TT (d + 1) 264 52 [some (.ref 183), some (.int a), some (.int b), some (.int c), some (.int e), some (.int 1), some (.int (nI m)), some (.int fo), some (.int (nI 0)), x9, x10, x11] [] h Q := by
  refine t_go (op := o_iload 54 8) (fe_X12_rests 52) (fun _ _ => rfl) ?_
  refine t_go (op := o_ci 55 4) (fe_X12_rests 54) (fun _ _ => rfl) ?_
  refine t_ite (op := o_icmp 58 174 (fun x y => y ≤ x) (fun _ _ => inferInstance)) (fe_X12_rests 55) g_icmp (fun c1 => ?_) (fun c1 => ?_)
  · exact absurd c1 (by decide)
  · refine t_go (op := o_iload 60 5) (fe_X12_rests 58) (fun _ _ => rfl) ?_
    refine t_ite (op := o_if 63 174 (fun x => x = 0) (fun _ => inferInstance)) (fe_X12_rests 60) g_if (fun c2 => ?_) (fun c2 => ?_)
    · exact absurd c2 (by decide)
    · clear c2
      refine t_go (op := o_iload 65 8) (fe_X12_rests 63) (fun _ _ => rfl) ?_
      refine t_go (op := o_ci 66 2) (fe_X12_rests 65) (fun _ _ => rfl) ?_
      refine t_go (op := o_i2d 67 (fun x y => x / y)) (fe_X12_rests 66) (g_i2d (by decide)) ?_
      refine t_go (op := o_istore 69 9) (fe_X12_rests 67) (fun _ _ => rfl) ?_
      refine t_go (op := o_iload 71 8) (fe_X12_rests 69) (fun _ _ => rfl) ?_
      refine t_go (op := o_ci 72 2) (fe_X12_rests 71) (fun _ _ => rfl) ?_
      refine t_go (op := o_i2d 73 (fun x y => x - x / y * y)) (fe_X12_rests 72) (g_i2d (by decide)) ?_
      refine t_go (op := o_istore 75 10) (fe_X12_rests 73) (fun _ _ => rfl) ?_
      refine t_go (op := o_ci 76 1) (fe_X12_rests 75) (fun _ _ => rfl) ?_
      refine t_go (op := o_iload 78 9) (fe_X12_rests 76) (fun _ _ => rfl) ?_
      refine t_go (op := o_i2 79 (fun x y => x - y)) (fe_X12_rests 78) (fun _ _ => rfl) ?_
      refine t_go (op := o_iload 81 10) (fe_X12_rests 79) (fun _ _ => rfl) ?_
      refine t_go (op := o_iload 82 1) (fe_X12_rests 81) (fun _ _ => rfl) ?_
      refine t_go (op := o_iload 83 2) (fe_X12_rests 82) (fun _ _ => rfl) ?_
      refine t_go (op := o_iload 84 3) (fe_X12_rests 83) (fun _ _ => rfl) ?_
      refine t_call (op := o_callS 87 263 5) (fe_X12_rests 84) (g_callS rfl rfl rfl (Nat.le_of_ble_eq_true rfl)) ?_
      refine M_eq (r_gets (F := true) (O := false) (by decide) (by decide)) ?_
      refine t_go (op := o_iload 89 9) (fe_X12_rests 87) (fun _ _ => rfl) ?_
      refine t_go (op := o_iload 91 10) (fe_X12_rests 89) (fun _ _ => rfl) ?_
      refine t_go (op := o_iload 92 1) (fe_X12_rests 91) (fun _ _ => rfl) ?_
      refine t_go (op := o_iload 93 2) (fe_X12_rests 92) (fun _ _ => rfl) ?_
      refine t_go (op := o_iload 94 3) (fe_X12_rests 93) (fun _ _ => rfl) ?_
      refine t_call (op := o_callS 97 263 5) (fe_X12_rests 94) (g_callS rfl rfl rfl (Nat.le_of_ble_eq_true rfl)) ?_
      refine M_eq (r_gets (F := false) (O := false) (by decide) (by decide)) ?_
      refine t_ite (op := o_icmp 100 129 (fun x y => y < x) (fun _ _ => inferInstance)) (fe_X12_rests 97) g_icmp (fun c3 => ?_) (fun c3 => ?_)
      · refine t_go (op := o_ci 130 0) (fe_X12_rests 129) (fun _ _ => rfl) ?_
        refine t_go (op := o_istore 132 11) (fe_X12_rests 130) (fun _ _ => rfl) ?_
        refine t_go (op := o_iload 134 11) (fe_X12_rests 132) (fun _ _ => rfl) ?_
        refine t_ite (op := o_if 137 149 (fun x => x = 0) (fun _ => inferInstance)) (fe_X12_rests 134) g_if (fun c4 => ?_) (fun c4 => ?_)
        · clear c4
          refine t_go (op := o_iload 151 7) (fe_X12_rests 149) (fun _ _ => rfl) ?_
          refine t_go (op := o_istore 153 7) (fe_X12_rests 151) (fun _ _ => rfl) ?_
          refine t_go (op := o_iload 155 6) (fe_X12_rests 153) (fun _ _ => rfl) ?_
          refine t_go (op := o_iload 157 11) (fe_X12_rests 155) (fun _ _ => rfl) ?_
          refine t_ite (op := o_if 160 164 (fun x => x = 0) (fun _ => inferInstance)) (fe_X12_rests 157) g_if (fun c5 => ?_) (fun c5 => ?_)
          · clear c5
            refine t_go (op := o_ci 165 0) (fe_X12_rests 164) (fun _ _ => rfl) ?_
            refine t_go (op := o_i2 166 (fun x y => x + y)) (fe_X12_rests 165) (fun _ _ => rfl) ?_
            refine t_go (op := o_istore 168 6) (fe_X12_rests 166) (fun _ _ => rfl) ?_
            refine t_go (op := o_iinc 171 8 1) (fe_X12_rests 168) (fun _ _ => rfl) ?_
            refine t_go (op := o_goto 52) (fe_X12_rests 171) (fun _ _ => rfl) ?_
            rw [show (fun x y : Int32 => x + y) (nI m) 0 = nI m from Int32.add_zero _]
            exact hqF (atR_f1 (F := false) (O := false) rfl rfl c3) _ _ _
          · exact absurd (by decide) c5
        · exact absurd (by decide) c4
      · refine t_go (op := o_ci 101 1) (fe_X12_rests 100) (fun _ _ => rfl) ?_
        refine t_go (op := o_iload 103 10) (fe_X12_rests 101) (fun _ _ => rfl) ?_
        refine t_go (op := o_i2 104 (fun x y => x - y)) (fe_X12_rests 103) (fun _ _ => rfl) ?_
        refine t_go (op := o_iload 106 9) (fe_X12_rests 104) (fun _ _ => rfl) ?_
        refine t_go (op := o_iload 107 1) (fe_X12_rests 106) (fun _ _ => rfl) ?_
        refine t_go (op := o_iload 108 2) (fe_X12_rests 107) (fun _ _ => rfl) ?_
        refine t_go (op := o_iload 109 3) (fe_X12_rests 108) (fun _ _ => rfl) ?_
        refine t_call (op := o_callS 112 263 5) (fe_X12_rests 109) (g_callS rfl rfl rfl (Nat.le_of_ble_eq_true rfl)) ?_
        refine M_eq (r_gets (F := true) (O := false) (by decide) (by decide)) ?_
        refine t_go (op := o_iload 114 10) (fe_X12_rests 112) (fun _ _ => rfl) ?_
        refine t_go (op := o_iload 116 9) (fe_X12_rests 114) (fun _ _ => rfl) ?_
        refine t_go (op := o_iload 117 1) (fe_X12_rests 116) (fun _ _ => rfl) ?_
        refine t_go (op := o_iload 118 2) (fe_X12_rests 117) (fun _ _ => rfl) ?_
        refine t_go (op := o_iload 119 3) (fe_X12_rests 118) (fun _ _ => rfl) ?_
        refine t_call (op := o_callS 122 263 5) (fe_X12_rests 119) (g_callS rfl rfl rfl (Nat.le_of_ble_eq_true rfl)) ?_
        refine M_eq (r_gets (F := false) (O := false) (by decide) (by decide)) ?_
        refine t_ite (op := o_icmp 125 129 (fun x y => y < x) (fun _ _ => inferInstance)) (fe_X12_rests 122) g_icmp (fun c6 => ?_) (fun c6 => ?_)
        · refine t_go (op := o_ci 130 0) (fe_X12_rests 129) (fun _ _ => rfl) ?_
          refine t_go (op := o_istore 132 11) (fe_X12_rests 130) (fun _ _ => rfl) ?_
          refine t_go (op := o_iload 134 11) (fe_X12_rests 132) (fun _ _ => rfl) ?_
          refine t_ite (op := o_if 137 149 (fun x => x = 0) (fun _ => inferInstance)) (fe_X12_rests 134) g_if (fun c7 => ?_) (fun c7 => ?_)
          · clear c7
            refine t_go (op := o_iload 151 7) (fe_X12_rests 149) (fun _ _ => rfl) ?_
            refine t_go (op := o_istore 153 7) (fe_X12_rests 151) (fun _ _ => rfl) ?_
            refine t_go (op := o_iload 155 6) (fe_X12_rests 153) (fun _ _ => rfl) ?_
            refine t_go (op := o_iload 157 11) (fe_X12_rests 155) (fun _ _ => rfl) ?_
            refine t_ite (op := o_if 160 164 (fun x => x = 0) (fun _ => inferInstance)) (fe_X12_rests 157) g_if (fun c8 => ?_) (fun c8 => ?_)
            · clear c8
              refine t_go (op := o_ci 165 0) (fe_X12_rests 164) (fun _ _ => rfl) ?_
              refine t_go (op := o_i2 166 (fun x y => x + y)) (fe_X12_rests 165) (fun _ _ => rfl) ?_
              refine t_go (op := o_istore 168 6) (fe_X12_rests 166) (fun _ _ => rfl) ?_
              refine t_go (op := o_iinc 171 8 1) (fe_X12_rests 168) (fun _ _ => rfl) ?_
              refine t_go (op := o_goto 52) (fe_X12_rests 171) (fun _ _ => rfl) ?_
              rw [show (fun x y : Int32 => x + y) (nI m) 0 = nI m from Int32.add_zero _]
              exact hqF (atR_f2 (F := false) (O := false) rfl rfl c6) _ _ _
            · exact absurd (by decide) c8
          · exact absurd (by decide) c7
        · refine t_go (op := o_ci 126 1) (fe_X12_rests 125) (fun _ _ => rfl) ?_
          refine t_go (op := o_goto 130) (fe_X12_rests 126) (fun _ _ => rfl) ?_
          refine t_go (op := o_istore 132 11) (fe_X12_rests 130) (fun _ _ => rfl) ?_
          refine t_go (op := o_iload 134 11) (fe_X12_rests 132) (fun _ _ => rfl) ?_
          refine t_ite (op := o_if 137 149 (fun x => x = 0) (fun _ => inferInstance)) (fe_X12_rests 134) g_if (fun c9 => ?_) (fun c9 => ?_)
          · exact absurd c9 (by decide)
          · clear c9
            refine t_go (op := o_iload 139 6) (fe_X12_rests 137) (fun _ _ => rfl) ?_
            refine t_go (op := o_iload 141 4) (fe_X12_rests 139) (fun _ _ => rfl) ?_
            refine t_ite (op := o_icmp 149 144 (fun x y => x = y) (fun _ _ => inferInstance)) (fe_X12_rests 141) g_icmp (fun c10 => ?_) (fun c10 => ?_)
            · refine t_go (op := o_iload 146 8) (fe_X12_rests 144) (fun _ _ => rfl) ?_
              refine t_go (op := o_goto 151) (fe_X12_rests 146) (fun _ _ => rfl) ?_
              refine t_go (op := o_istore 153 7) (fe_X12_rests 151) (fun _ _ => rfl) ?_
              refine t_go (op := o_iload 155 6) (fe_X12_rests 153) (fun _ _ => rfl) ?_
              refine t_go (op := o_iload 157 11) (fe_X12_rests 155) (fun _ _ => rfl) ?_
              refine t_ite (op := o_if 160 164 (fun x => x = 0) (fun _ => inferInstance)) (fe_X12_rests 157) g_if (fun c11 => ?_) (fun c11 => ?_)
              · exact absurd c11 (by decide)
              · clear c11
                refine t_go (op := o_ci 161 1) (fe_X12_rests 160) (fun _ _ => rfl) ?_
                refine t_go (op := o_goto 165) (fe_X12_rests 161) (fun _ _ => rfl) ?_
                refine t_go (op := o_i2 166 (fun x y => x + y)) (fe_X12_rests 165) (fun _ _ => rfl) ?_
                refine t_go (op := o_istore 168 6) (fe_X12_rests 166) (fun _ _ => rfl) ?_
                refine t_go (op := o_iinc 171 8 1) (fe_X12_rests 168) (fun _ _ => rfl) ?_
                refine t_go (op := o_goto 52) (fe_X12_rests 171) (fun _ _ => rfl) ?_
                rw [show (fun x y : Int32 => x + y) (nI m) 1 = nI (m + 1) by show nI m + 1 = _; rw [nI_1]]
                exact hqY (atR_t (F := false) (O := false) rfl rfl c3 c6) c10 _ _ _
            · refine t_go (op := o_iload 151 7) (fe_X12_rests 149) (fun _ _ => rfl) ?_
              refine t_go (op := o_istore 153 7) (fe_X12_rests 151) (fun _ _ => rfl) ?_
              refine t_go (op := o_iload 155 6) (fe_X12_rests 153) (fun _ _ => rfl) ?_
              refine t_go (op := o_iload 157 11) (fe_X12_rests 155) (fun _ _ => rfl) ?_
              refine t_ite (op := o_if 160 164 (fun x => x = 0) (fun _ => inferInstance)) (fe_X12_rests 157) g_if (fun c12 => ?_) (fun c12 => ?_)
              · exact absurd c12 (by decide)
              · clear c12
                refine t_go (op := o_ci 161 1) (fe_X12_rests 160) (fun _ _ => rfl) ?_
                refine t_go (op := o_goto 165) (fe_X12_rests 161) (fun _ _ => rfl) ?_
                refine t_go (op := o_i2 166 (fun x y => x + y)) (fe_X12_rests 165) (fun _ _ => rfl) ?_
                refine t_go (op := o_istore 168 6) (fe_X12_rests 166) (fun _ _ => rfl) ?_
                refine t_go (op := o_iinc 171 8 1) (fe_X12_rests 168) (fun _ _ => rfl) ?_
                refine t_go (op := o_goto 52) (fe_X12_rests 171) (fun _ _ => rfl) ?_
                rw [show (fun x y : Int32 => x + y) (nI m) 1 = nI (m + 1) by show nI m + 1 = _; rw [nI_1]]
                exact hqN (atR_t (F := false) (O := false) rfl rfl c3 c6) c10 _ _ _
set_option maxRecDepth 8000 in
theorem r_rs1 {d : Nat} {h : AHP} {a b c e fo : Int32} {m : Nat} {x9 x10 x11 : Option Value} (hS : Std h) {Q : Option Value → AHP → Prop} (hqF : ¬ atR a b c 1 = true → ∀ x9 x10 x11, TT (d + 1) 264 52 [some (.ref 183), some (.int a), some (.int b), some (.int c), some (.int e), some (.int 1), some (.int (nI m)), some (.int fo), some (.int (nI 2)), x9, x10, x11] [] h Q) (hqN : atR a b c 1 = true → ¬ nI m = e → ∀ x9 x10 x11, TT (d + 1) 264 52 [some (.ref 183), some (.int a), some (.int b), some (.int c), some (.int e), some (.int 1), some (.int (nI (m + 1))), some (.int fo), some (.int (nI 2)), x9, x10, x11] [] h Q) (hqY : atR a b c 1 = true → nI m = e → ∀ x9 x10 x11, TT (d + 1) 264 52 [some (.ref 183), some (.int a), some (.int b), some (.int c), some (.int e), some (.int 1), some (.int (nI (m + 1))), some (.int (nI 1)), some (.int (nI 2)), x9, x10, x11] [] h Q) : TT (d + 1) 264 52 [some (.ref 183), some (.int a), some (.int b), some (.int c), some (.int e), some (.int 1), some (.int (nI m)), some (.int fo), some (.int (nI 1)), x9, x10, x11] [] h Q := by
  refine t_go (op := o_iload 54 8) (fe_X12_rests 52) (fun _ _ => rfl) ?_
  refine t_go (op := o_ci 55 4) (fe_X12_rests 54) (fun _ _ => rfl) ?_
  refine t_ite (op := o_icmp 58 174 (fun x y => y ≤ x) (fun _ _ => inferInstance)) (fe_X12_rests 55) g_icmp (fun c1 => ?_) (fun c1 => ?_)
  · exact absurd c1 (by decide)
  · refine t_go (op := o_iload 60 5) (fe_X12_rests 58) (fun _ _ => rfl) ?_
    refine t_ite (op := o_if 63 174 (fun x => x = 0) (fun _ => inferInstance)) (fe_X12_rests 60) g_if (fun c2 => ?_) (fun c2 => ?_)
    · exact absurd c2 (by decide)
    · clear c2
      refine t_go (op := o_iload 65 8) (fe_X12_rests 63) (fun _ _ => rfl) ?_
      refine t_go (op := o_ci 66 2) (fe_X12_rests 65) (fun _ _ => rfl) ?_
      refine t_go (op := o_i2d 67 (fun x y => x / y)) (fe_X12_rests 66) (g_i2d (by decide)) ?_
      refine t_go (op := o_istore 69 9) (fe_X12_rests 67) (fun _ _ => rfl) ?_
      refine t_go (op := o_iload 71 8) (fe_X12_rests 69) (fun _ _ => rfl) ?_
      refine t_go (op := o_ci 72 2) (fe_X12_rests 71) (fun _ _ => rfl) ?_
      refine t_go (op := o_i2d 73 (fun x y => x - x / y * y)) (fe_X12_rests 72) (g_i2d (by decide)) ?_
      refine t_go (op := o_istore 75 10) (fe_X12_rests 73) (fun _ _ => rfl) ?_
      refine t_go (op := o_ci 76 1) (fe_X12_rests 75) (fun _ _ => rfl) ?_
      refine t_go (op := o_iload 78 9) (fe_X12_rests 76) (fun _ _ => rfl) ?_
      refine t_go (op := o_i2 79 (fun x y => x - y)) (fe_X12_rests 78) (fun _ _ => rfl) ?_
      refine t_go (op := o_iload 81 10) (fe_X12_rests 79) (fun _ _ => rfl) ?_
      refine t_go (op := o_iload 82 1) (fe_X12_rests 81) (fun _ _ => rfl) ?_
      refine t_go (op := o_iload 83 2) (fe_X12_rests 82) (fun _ _ => rfl) ?_
      refine t_go (op := o_iload 84 3) (fe_X12_rests 83) (fun _ _ => rfl) ?_
      refine t_call (op := o_callS 87 263 5) (fe_X12_rests 84) (g_callS rfl rfl rfl (Nat.le_of_ble_eq_true rfl)) ?_
      refine M_eq (r_gets (F := true) (O := true) (by decide) (by decide)) ?_
      refine t_go (op := o_iload 89 9) (fe_X12_rests 87) (fun _ _ => rfl) ?_
      refine t_go (op := o_iload 91 10) (fe_X12_rests 89) (fun _ _ => rfl) ?_
      refine t_go (op := o_iload 92 1) (fe_X12_rests 91) (fun _ _ => rfl) ?_
      refine t_go (op := o_iload 93 2) (fe_X12_rests 92) (fun _ _ => rfl) ?_
      refine t_go (op := o_iload 94 3) (fe_X12_rests 93) (fun _ _ => rfl) ?_
      refine t_call (op := o_callS 97 263 5) (fe_X12_rests 94) (g_callS rfl rfl rfl (Nat.le_of_ble_eq_true rfl)) ?_
      refine M_eq (r_gets (F := false) (O := true) (by decide) (by decide)) ?_
      refine t_ite (op := o_icmp 100 129 (fun x y => y < x) (fun _ _ => inferInstance)) (fe_X12_rests 97) g_icmp (fun c3 => ?_) (fun c3 => ?_)
      · refine t_go (op := o_ci 130 0) (fe_X12_rests 129) (fun _ _ => rfl) ?_
        refine t_go (op := o_istore 132 11) (fe_X12_rests 130) (fun _ _ => rfl) ?_
        refine t_go (op := o_iload 134 11) (fe_X12_rests 132) (fun _ _ => rfl) ?_
        refine t_ite (op := o_if 137 149 (fun x => x = 0) (fun _ => inferInstance)) (fe_X12_rests 134) g_if (fun c4 => ?_) (fun c4 => ?_)
        · clear c4
          refine t_go (op := o_iload 151 7) (fe_X12_rests 149) (fun _ _ => rfl) ?_
          refine t_go (op := o_istore 153 7) (fe_X12_rests 151) (fun _ _ => rfl) ?_
          refine t_go (op := o_iload 155 6) (fe_X12_rests 153) (fun _ _ => rfl) ?_
          refine t_go (op := o_iload 157 11) (fe_X12_rests 155) (fun _ _ => rfl) ?_
          refine t_ite (op := o_if 160 164 (fun x => x = 0) (fun _ => inferInstance)) (fe_X12_rests 157) g_if (fun c5 => ?_) (fun c5 => ?_)
          · clear c5
            refine t_go (op := o_ci 165 0) (fe_X12_rests 164) (fun _ _ => rfl) ?_
            refine t_go (op := o_i2 166 (fun x y => x + y)) (fe_X12_rests 165) (fun _ _ => rfl) ?_
            refine t_go (op := o_istore 168 6) (fe_X12_rests 166) (fun _ _ => rfl) ?_
            refine t_go (op := o_iinc 171 8 1) (fe_X12_rests 168) (fun _ _ => rfl) ?_
            refine t_go (op := o_goto 52) (fe_X12_rests 171) (fun _ _ => rfl) ?_
            rw [show (fun x y : Int32 => x + y) (nI m) 0 = nI m from Int32.add_zero _]
            exact hqF (atR_f1 (F := false) (O := true) rfl rfl c3) _ _ _
          · exact absurd (by decide) c5
        · exact absurd (by decide) c4
      · refine t_go (op := o_ci 101 1) (fe_X12_rests 100) (fun _ _ => rfl) ?_
        refine t_go (op := o_iload 103 10) (fe_X12_rests 101) (fun _ _ => rfl) ?_
        refine t_go (op := o_i2 104 (fun x y => x - y)) (fe_X12_rests 103) (fun _ _ => rfl) ?_
        refine t_go (op := o_iload 106 9) (fe_X12_rests 104) (fun _ _ => rfl) ?_
        refine t_go (op := o_iload 107 1) (fe_X12_rests 106) (fun _ _ => rfl) ?_
        refine t_go (op := o_iload 108 2) (fe_X12_rests 107) (fun _ _ => rfl) ?_
        refine t_go (op := o_iload 109 3) (fe_X12_rests 108) (fun _ _ => rfl) ?_
        refine t_call (op := o_callS 112 263 5) (fe_X12_rests 109) (g_callS rfl rfl rfl (Nat.le_of_ble_eq_true rfl)) ?_
        refine M_eq (r_gets (F := false) (O := false) (by decide) (by decide)) ?_
        refine t_go (op := o_iload 114 10) (fe_X12_rests 112) (fun _ _ => rfl) ?_
        refine t_go (op := o_iload 116 9) (fe_X12_rests 114) (fun _ _ => rfl) ?_
        refine t_go (op := o_iload 117 1) (fe_X12_rests 116) (fun _ _ => rfl) ?_
        refine t_go (op := o_iload 118 2) (fe_X12_rests 117) (fun _ _ => rfl) ?_
        refine t_go (op := o_iload 119 3) (fe_X12_rests 118) (fun _ _ => rfl) ?_
        refine t_call (op := o_callS 122 263 5) (fe_X12_rests 119) (g_callS rfl rfl rfl (Nat.le_of_ble_eq_true rfl)) ?_
        refine M_eq (r_gets (F := true) (O := false) (by decide) (by decide)) ?_
        refine t_ite (op := o_icmp 125 129 (fun x y => y < x) (fun _ _ => inferInstance)) (fe_X12_rests 122) g_icmp (fun c6 => ?_) (fun c6 => ?_)
        · refine t_go (op := o_ci 130 0) (fe_X12_rests 129) (fun _ _ => rfl) ?_
          refine t_go (op := o_istore 132 11) (fe_X12_rests 130) (fun _ _ => rfl) ?_
          refine t_go (op := o_iload 134 11) (fe_X12_rests 132) (fun _ _ => rfl) ?_
          refine t_ite (op := o_if 137 149 (fun x => x = 0) (fun _ => inferInstance)) (fe_X12_rests 134) g_if (fun c7 => ?_) (fun c7 => ?_)
          · clear c7
            refine t_go (op := o_iload 151 7) (fe_X12_rests 149) (fun _ _ => rfl) ?_
            refine t_go (op := o_istore 153 7) (fe_X12_rests 151) (fun _ _ => rfl) ?_
            refine t_go (op := o_iload 155 6) (fe_X12_rests 153) (fun _ _ => rfl) ?_
            refine t_go (op := o_iload 157 11) (fe_X12_rests 155) (fun _ _ => rfl) ?_
            refine t_ite (op := o_if 160 164 (fun x => x = 0) (fun _ => inferInstance)) (fe_X12_rests 157) g_if (fun c8 => ?_) (fun c8 => ?_)
            · clear c8
              refine t_go (op := o_ci 165 0) (fe_X12_rests 164) (fun _ _ => rfl) ?_
              refine t_go (op := o_i2 166 (fun x y => x + y)) (fe_X12_rests 165) (fun _ _ => rfl) ?_
              refine t_go (op := o_istore 168 6) (fe_X12_rests 166) (fun _ _ => rfl) ?_
              refine t_go (op := o_iinc 171 8 1) (fe_X12_rests 168) (fun _ _ => rfl) ?_
              refine t_go (op := o_goto 52) (fe_X12_rests 171) (fun _ _ => rfl) ?_
              rw [show (fun x y : Int32 => x + y) (nI m) 0 = nI m from Int32.add_zero _]
              exact hqF (atR_f2 (F := false) (O := true) rfl rfl c6) _ _ _
            · exact absurd (by decide) c8
          · exact absurd (by decide) c7
        · refine t_go (op := o_ci 126 1) (fe_X12_rests 125) (fun _ _ => rfl) ?_
          refine t_go (op := o_goto 130) (fe_X12_rests 126) (fun _ _ => rfl) ?_
          refine t_go (op := o_istore 132 11) (fe_X12_rests 130) (fun _ _ => rfl) ?_
          refine t_go (op := o_iload 134 11) (fe_X12_rests 132) (fun _ _ => rfl) ?_
          refine t_ite (op := o_if 137 149 (fun x => x = 0) (fun _ => inferInstance)) (fe_X12_rests 134) g_if (fun c9 => ?_) (fun c9 => ?_)
          · exact absurd c9 (by decide)
          · clear c9
            refine t_go (op := o_iload 139 6) (fe_X12_rests 137) (fun _ _ => rfl) ?_
            refine t_go (op := o_iload 141 4) (fe_X12_rests 139) (fun _ _ => rfl) ?_
            refine t_ite (op := o_icmp 149 144 (fun x y => x = y) (fun _ _ => inferInstance)) (fe_X12_rests 141) g_icmp (fun c10 => ?_) (fun c10 => ?_)
            · refine t_go (op := o_iload 146 8) (fe_X12_rests 144) (fun _ _ => rfl) ?_
              refine t_go (op := o_goto 151) (fe_X12_rests 146) (fun _ _ => rfl) ?_
              refine t_go (op := o_istore 153 7) (fe_X12_rests 151) (fun _ _ => rfl) ?_
              refine t_go (op := o_iload 155 6) (fe_X12_rests 153) (fun _ _ => rfl) ?_
              refine t_go (op := o_iload 157 11) (fe_X12_rests 155) (fun _ _ => rfl) ?_
              refine t_ite (op := o_if 160 164 (fun x => x = 0) (fun _ => inferInstance)) (fe_X12_rests 157) g_if (fun c11 => ?_) (fun c11 => ?_)
              · exact absurd c11 (by decide)
              · clear c11
                refine t_go (op := o_ci 161 1) (fe_X12_rests 160) (fun _ _ => rfl) ?_
                refine t_go (op := o_goto 165) (fe_X12_rests 161) (fun _ _ => rfl) ?_
                refine t_go (op := o_i2 166 (fun x y => x + y)) (fe_X12_rests 165) (fun _ _ => rfl) ?_
                refine t_go (op := o_istore 168 6) (fe_X12_rests 166) (fun _ _ => rfl) ?_
                refine t_go (op := o_iinc 171 8 1) (fe_X12_rests 168) (fun _ _ => rfl) ?_
                refine t_go (op := o_goto 52) (fe_X12_rests 171) (fun _ _ => rfl) ?_
                rw [show (fun x y : Int32 => x + y) (nI m) 1 = nI (m + 1) by show nI m + 1 = _; rw [nI_1]]
                exact hqY (atR_t (F := false) (O := true) rfl rfl c3 c6) c10 _ _ _
            · refine t_go (op := o_iload 151 7) (fe_X12_rests 149) (fun _ _ => rfl) ?_
              refine t_go (op := o_istore 153 7) (fe_X12_rests 151) (fun _ _ => rfl) ?_
              refine t_go (op := o_iload 155 6) (fe_X12_rests 153) (fun _ _ => rfl) ?_
              refine t_go (op := o_iload 157 11) (fe_X12_rests 155) (fun _ _ => rfl) ?_
              refine t_ite (op := o_if 160 164 (fun x => x = 0) (fun _ => inferInstance)) (fe_X12_rests 157) g_if (fun c12 => ?_) (fun c12 => ?_)
              · exact absurd c12 (by decide)
              · clear c12
                refine t_go (op := o_ci 161 1) (fe_X12_rests 160) (fun _ _ => rfl) ?_
                refine t_go (op := o_goto 165) (fe_X12_rests 161) (fun _ _ => rfl) ?_
                refine t_go (op := o_i2 166 (fun x y => x + y)) (fe_X12_rests 165) (fun _ _ => rfl) ?_
                refine t_go (op := o_istore 168 6) (fe_X12_rests 166) (fun _ _ => rfl) ?_
                refine t_go (op := o_iinc 171 8 1) (fe_X12_rests 168) (fun _ _ => rfl) ?_
                refine t_go (op := o_goto 52) (fe_X12_rests 171) (fun _ _ => rfl) ?_
                rw [show (fun x y : Int32 => x + y) (nI m) 1 = nI (m + 1) by show nI m + 1 = _; rw [nI_1]]
                exact hqN (atR_t (F := false) (O := true) rfl rfl c3 c6) c10 _ _ _
set_option maxRecDepth 8000 in
theorem r_rs2 {d : Nat} {h : AHP} {a b c e fo : Int32} {m : Nat} {x9 x10 x11 : Option Value} (hS : Std h) {Q : Option Value → AHP → Prop} (hqF : ¬ atR a b c 2 = true → ∀ x9 x10 x11, TT (d + 1) 264 52 [some (.ref 183), some (.int a), some (.int b), some (.int c), some (.int e), some (.int 1), some (.int (nI m)), some (.int fo), some (.int (nI 3)), x9, x10, x11] [] h Q) (hqN : atR a b c 2 = true → ¬ nI m = e → ∀ x9 x10 x11, TT (d + 1) 264 52 [some (.ref 183), some (.int a), some (.int b), some (.int c), some (.int e), some (.int 1), some (.int (nI (m + 1))), some (.int fo), some (.int (nI 3)), x9, x10, x11] [] h Q) (hqY : atR a b c 2 = true → nI m = e → ∀ x9 x10 x11, TT (d + 1) 264 52 [some (.ref 183), some (.int a), some (.int b), some (.int c), some (.int e), some (.int 1), some (.int (nI (m + 1))), some (.int (nI 2)), some (.int (nI 3)), x9, x10, x11] [] h Q) : TT (d + 1) 264 52 [some (.ref 183), some (.int a), some (.int b), some (.int c), some (.int e), some (.int 1), some (.int (nI m)), some (.int fo), some (.int (nI 2)), x9, x10, x11] [] h Q := by
  refine t_go (op := o_iload 54 8) (fe_X12_rests 52) (fun _ _ => rfl) ?_
  refine t_go (op := o_ci 55 4) (fe_X12_rests 54) (fun _ _ => rfl) ?_
  refine t_ite (op := o_icmp 58 174 (fun x y => y ≤ x) (fun _ _ => inferInstance)) (fe_X12_rests 55) g_icmp (fun c1 => ?_) (fun c1 => ?_)
  · exact absurd c1 (by decide)
  · refine t_go (op := o_iload 60 5) (fe_X12_rests 58) (fun _ _ => rfl) ?_
    refine t_ite (op := o_if 63 174 (fun x => x = 0) (fun _ => inferInstance)) (fe_X12_rests 60) g_if (fun c2 => ?_) (fun c2 => ?_)
    · exact absurd c2 (by decide)
    · clear c2
      refine t_go (op := o_iload 65 8) (fe_X12_rests 63) (fun _ _ => rfl) ?_
      refine t_go (op := o_ci 66 2) (fe_X12_rests 65) (fun _ _ => rfl) ?_
      refine t_go (op := o_i2d 67 (fun x y => x / y)) (fe_X12_rests 66) (g_i2d (by decide)) ?_
      refine t_go (op := o_istore 69 9) (fe_X12_rests 67) (fun _ _ => rfl) ?_
      refine t_go (op := o_iload 71 8) (fe_X12_rests 69) (fun _ _ => rfl) ?_
      refine t_go (op := o_ci 72 2) (fe_X12_rests 71) (fun _ _ => rfl) ?_
      refine t_go (op := o_i2d 73 (fun x y => x - x / y * y)) (fe_X12_rests 72) (g_i2d (by decide)) ?_
      refine t_go (op := o_istore 75 10) (fe_X12_rests 73) (fun _ _ => rfl) ?_
      refine t_go (op := o_ci 76 1) (fe_X12_rests 75) (fun _ _ => rfl) ?_
      refine t_go (op := o_iload 78 9) (fe_X12_rests 76) (fun _ _ => rfl) ?_
      refine t_go (op := o_i2 79 (fun x y => x - y)) (fe_X12_rests 78) (fun _ _ => rfl) ?_
      refine t_go (op := o_iload 81 10) (fe_X12_rests 79) (fun _ _ => rfl) ?_
      refine t_go (op := o_iload 82 1) (fe_X12_rests 81) (fun _ _ => rfl) ?_
      refine t_go (op := o_iload 83 2) (fe_X12_rests 82) (fun _ _ => rfl) ?_
      refine t_go (op := o_iload 84 3) (fe_X12_rests 83) (fun _ _ => rfl) ?_
      refine t_call (op := o_callS 87 263 5) (fe_X12_rests 84) (g_callS rfl rfl rfl (Nat.le_of_ble_eq_true rfl)) ?_
      refine M_eq (r_gets (F := false) (O := false) (by decide) (by decide)) ?_
      refine t_go (op := o_iload 89 9) (fe_X12_rests 87) (fun _ _ => rfl) ?_
      refine t_go (op := o_iload 91 10) (fe_X12_rests 89) (fun _ _ => rfl) ?_
      refine t_go (op := o_iload 92 1) (fe_X12_rests 91) (fun _ _ => rfl) ?_
      refine t_go (op := o_iload 93 2) (fe_X12_rests 92) (fun _ _ => rfl) ?_
      refine t_go (op := o_iload 94 3) (fe_X12_rests 93) (fun _ _ => rfl) ?_
      refine t_call (op := o_callS 97 263 5) (fe_X12_rests 94) (g_callS rfl rfl rfl (Nat.le_of_ble_eq_true rfl)) ?_
      refine M_eq (r_gets (F := true) (O := false) (by decide) (by decide)) ?_
      refine t_ite (op := o_icmp 100 129 (fun x y => y < x) (fun _ _ => inferInstance)) (fe_X12_rests 97) g_icmp (fun c3 => ?_) (fun c3 => ?_)
      · refine t_go (op := o_ci 130 0) (fe_X12_rests 129) (fun _ _ => rfl) ?_
        refine t_go (op := o_istore 132 11) (fe_X12_rests 130) (fun _ _ => rfl) ?_
        refine t_go (op := o_iload 134 11) (fe_X12_rests 132) (fun _ _ => rfl) ?_
        refine t_ite (op := o_if 137 149 (fun x => x = 0) (fun _ => inferInstance)) (fe_X12_rests 134) g_if (fun c4 => ?_) (fun c4 => ?_)
        · clear c4
          refine t_go (op := o_iload 151 7) (fe_X12_rests 149) (fun _ _ => rfl) ?_
          refine t_go (op := o_istore 153 7) (fe_X12_rests 151) (fun _ _ => rfl) ?_
          refine t_go (op := o_iload 155 6) (fe_X12_rests 153) (fun _ _ => rfl) ?_
          refine t_go (op := o_iload 157 11) (fe_X12_rests 155) (fun _ _ => rfl) ?_
          refine t_ite (op := o_if 160 164 (fun x => x = 0) (fun _ => inferInstance)) (fe_X12_rests 157) g_if (fun c5 => ?_) (fun c5 => ?_)
          · clear c5
            refine t_go (op := o_ci 165 0) (fe_X12_rests 164) (fun _ _ => rfl) ?_
            refine t_go (op := o_i2 166 (fun x y => x + y)) (fe_X12_rests 165) (fun _ _ => rfl) ?_
            refine t_go (op := o_istore 168 6) (fe_X12_rests 166) (fun _ _ => rfl) ?_
            refine t_go (op := o_iinc 171 8 1) (fe_X12_rests 168) (fun _ _ => rfl) ?_
            refine t_go (op := o_goto 52) (fe_X12_rests 171) (fun _ _ => rfl) ?_
            rw [show (fun x y : Int32 => x + y) (nI m) 0 = nI m from Int32.add_zero _]
            exact hqF (atR_f1 (F := true) (O := false) rfl rfl c3) _ _ _
          · exact absurd (by decide) c5
        · exact absurd (by decide) c4
      · refine t_go (op := o_ci 101 1) (fe_X12_rests 100) (fun _ _ => rfl) ?_
        refine t_go (op := o_iload 103 10) (fe_X12_rests 101) (fun _ _ => rfl) ?_
        refine t_go (op := o_i2 104 (fun x y => x - y)) (fe_X12_rests 103) (fun _ _ => rfl) ?_
        refine t_go (op := o_iload 106 9) (fe_X12_rests 104) (fun _ _ => rfl) ?_
        refine t_go (op := o_iload 107 1) (fe_X12_rests 106) (fun _ _ => rfl) ?_
        refine t_go (op := o_iload 108 2) (fe_X12_rests 107) (fun _ _ => rfl) ?_
        refine t_go (op := o_iload 109 3) (fe_X12_rests 108) (fun _ _ => rfl) ?_
        refine t_call (op := o_callS 112 263 5) (fe_X12_rests 109) (g_callS rfl rfl rfl (Nat.le_of_ble_eq_true rfl)) ?_
        refine M_eq (r_gets (F := true) (O := true) (by decide) (by decide)) ?_
        refine t_go (op := o_iload 114 10) (fe_X12_rests 112) (fun _ _ => rfl) ?_
        refine t_go (op := o_iload 116 9) (fe_X12_rests 114) (fun _ _ => rfl) ?_
        refine t_go (op := o_iload 117 1) (fe_X12_rests 116) (fun _ _ => rfl) ?_
        refine t_go (op := o_iload 118 2) (fe_X12_rests 117) (fun _ _ => rfl) ?_
        refine t_go (op := o_iload 119 3) (fe_X12_rests 118) (fun _ _ => rfl) ?_
        refine t_call (op := o_callS 122 263 5) (fe_X12_rests 119) (g_callS rfl rfl rfl (Nat.le_of_ble_eq_true rfl)) ?_
        refine M_eq (r_gets (F := false) (O := true) (by decide) (by decide)) ?_
        refine t_ite (op := o_icmp 125 129 (fun x y => y < x) (fun _ _ => inferInstance)) (fe_X12_rests 122) g_icmp (fun c6 => ?_) (fun c6 => ?_)
        · refine t_go (op := o_ci 130 0) (fe_X12_rests 129) (fun _ _ => rfl) ?_
          refine t_go (op := o_istore 132 11) (fe_X12_rests 130) (fun _ _ => rfl) ?_
          refine t_go (op := o_iload 134 11) (fe_X12_rests 132) (fun _ _ => rfl) ?_
          refine t_ite (op := o_if 137 149 (fun x => x = 0) (fun _ => inferInstance)) (fe_X12_rests 134) g_if (fun c7 => ?_) (fun c7 => ?_)
          · clear c7
            refine t_go (op := o_iload 151 7) (fe_X12_rests 149) (fun _ _ => rfl) ?_
            refine t_go (op := o_istore 153 7) (fe_X12_rests 151) (fun _ _ => rfl) ?_
            refine t_go (op := o_iload 155 6) (fe_X12_rests 153) (fun _ _ => rfl) ?_
            refine t_go (op := o_iload 157 11) (fe_X12_rests 155) (fun _ _ => rfl) ?_
            refine t_ite (op := o_if 160 164 (fun x => x = 0) (fun _ => inferInstance)) (fe_X12_rests 157) g_if (fun c8 => ?_) (fun c8 => ?_)
            · clear c8
              refine t_go (op := o_ci 165 0) (fe_X12_rests 164) (fun _ _ => rfl) ?_
              refine t_go (op := o_i2 166 (fun x y => x + y)) (fe_X12_rests 165) (fun _ _ => rfl) ?_
              refine t_go (op := o_istore 168 6) (fe_X12_rests 166) (fun _ _ => rfl) ?_
              refine t_go (op := o_iinc 171 8 1) (fe_X12_rests 168) (fun _ _ => rfl) ?_
              refine t_go (op := o_goto 52) (fe_X12_rests 171) (fun _ _ => rfl) ?_
              rw [show (fun x y : Int32 => x + y) (nI m) 0 = nI m from Int32.add_zero _]
              exact hqF (atR_f2 (F := true) (O := false) rfl rfl c6) _ _ _
            · exact absurd (by decide) c8
          · exact absurd (by decide) c7
        · refine t_go (op := o_ci 126 1) (fe_X12_rests 125) (fun _ _ => rfl) ?_
          refine t_go (op := o_goto 130) (fe_X12_rests 126) (fun _ _ => rfl) ?_
          refine t_go (op := o_istore 132 11) (fe_X12_rests 130) (fun _ _ => rfl) ?_
          refine t_go (op := o_iload 134 11) (fe_X12_rests 132) (fun _ _ => rfl) ?_
          refine t_ite (op := o_if 137 149 (fun x => x = 0) (fun _ => inferInstance)) (fe_X12_rests 134) g_if (fun c9 => ?_) (fun c9 => ?_)
          · exact absurd c9 (by decide)
          · clear c9
            refine t_go (op := o_iload 139 6) (fe_X12_rests 137) (fun _ _ => rfl) ?_
            refine t_go (op := o_iload 141 4) (fe_X12_rests 139) (fun _ _ => rfl) ?_
            refine t_ite (op := o_icmp 149 144 (fun x y => x = y) (fun _ _ => inferInstance)) (fe_X12_rests 141) g_icmp (fun c10 => ?_) (fun c10 => ?_)
            · refine t_go (op := o_iload 146 8) (fe_X12_rests 144) (fun _ _ => rfl) ?_
              refine t_go (op := o_goto 151) (fe_X12_rests 146) (fun _ _ => rfl) ?_
              refine t_go (op := o_istore 153 7) (fe_X12_rests 151) (fun _ _ => rfl) ?_
              refine t_go (op := o_iload 155 6) (fe_X12_rests 153) (fun _ _ => rfl) ?_
              refine t_go (op := o_iload 157 11) (fe_X12_rests 155) (fun _ _ => rfl) ?_
              refine t_ite (op := o_if 160 164 (fun x => x = 0) (fun _ => inferInstance)) (fe_X12_rests 157) g_if (fun c11 => ?_) (fun c11 => ?_)
              · exact absurd c11 (by decide)
              · clear c11
                refine t_go (op := o_ci 161 1) (fe_X12_rests 160) (fun _ _ => rfl) ?_
                refine t_go (op := o_goto 165) (fe_X12_rests 161) (fun _ _ => rfl) ?_
                refine t_go (op := o_i2 166 (fun x y => x + y)) (fe_X12_rests 165) (fun _ _ => rfl) ?_
                refine t_go (op := o_istore 168 6) (fe_X12_rests 166) (fun _ _ => rfl) ?_
                refine t_go (op := o_iinc 171 8 1) (fe_X12_rests 168) (fun _ _ => rfl) ?_
                refine t_go (op := o_goto 52) (fe_X12_rests 171) (fun _ _ => rfl) ?_
                rw [show (fun x y : Int32 => x + y) (nI m) 1 = nI (m + 1) by show nI m + 1 = _; rw [nI_1]]
                exact hqY (atR_t (F := true) (O := false) rfl rfl c3 c6) c10 _ _ _
            · refine t_go (op := o_iload 151 7) (fe_X12_rests 149) (fun _ _ => rfl) ?_
              refine t_go (op := o_istore 153 7) (fe_X12_rests 151) (fun _ _ => rfl) ?_
              refine t_go (op := o_iload 155 6) (fe_X12_rests 153) (fun _ _ => rfl) ?_
              refine t_go (op := o_iload 157 11) (fe_X12_rests 155) (fun _ _ => rfl) ?_
              refine t_ite (op := o_if 160 164 (fun x => x = 0) (fun _ => inferInstance)) (fe_X12_rests 157) g_if (fun c12 => ?_) (fun c12 => ?_)
              · exact absurd c12 (by decide)
              · clear c12
                refine t_go (op := o_ci 161 1) (fe_X12_rests 160) (fun _ _ => rfl) ?_
                refine t_go (op := o_goto 165) (fe_X12_rests 161) (fun _ _ => rfl) ?_
                refine t_go (op := o_i2 166 (fun x y => x + y)) (fe_X12_rests 165) (fun _ _ => rfl) ?_
                refine t_go (op := o_istore 168 6) (fe_X12_rests 166) (fun _ _ => rfl) ?_
                refine t_go (op := o_iinc 171 8 1) (fe_X12_rests 168) (fun _ _ => rfl) ?_
                refine t_go (op := o_goto 52) (fe_X12_rests 171) (fun _ _ => rfl) ?_
                rw [show (fun x y : Int32 => x + y) (nI m) 1 = nI (m + 1) by show nI m + 1 = _; rw [nI_1]]
                exact hqN (atR_t (F := true) (O := false) rfl rfl c3 c6) c10 _ _ _
set_option maxRecDepth 8000 in
theorem r_rs3 {d : Nat} {h : AHP} {a b c e fo : Int32} {m : Nat} {x9 x10 x11 : Option Value} (hS : Std h) {Q : Option Value → AHP → Prop} (hqF : ¬ atR a b c 3 = true → ∀ x9 x10 x11, TT (d + 1) 264 52 [some (.ref 183), some (.int a), some (.int b), some (.int c), some (.int e), some (.int 1), some (.int (nI m)), some (.int fo), some (.int (nI 4)), x9, x10, x11] [] h Q) (hqN : atR a b c 3 = true → ¬ nI m = e → ∀ x9 x10 x11, TT (d + 1) 264 52 [some (.ref 183), some (.int a), some (.int b), some (.int c), some (.int e), some (.int 1), some (.int (nI (m + 1))), some (.int fo), some (.int (nI 4)), x9, x10, x11] [] h Q) (hqY : atR a b c 3 = true → nI m = e → ∀ x9 x10 x11, TT (d + 1) 264 52 [some (.ref 183), some (.int a), some (.int b), some (.int c), some (.int e), some (.int 1), some (.int (nI (m + 1))), some (.int (nI 3)), some (.int (nI 4)), x9, x10, x11] [] h Q) : TT (d + 1) 264 52 [some (.ref 183), some (.int a), some (.int b), some (.int c), some (.int e), some (.int 1), some (.int (nI m)), some (.int fo), some (.int (nI 3)), x9, x10, x11] [] h Q := by
  refine t_go (op := o_iload 54 8) (fe_X12_rests 52) (fun _ _ => rfl) ?_
  refine t_go (op := o_ci 55 4) (fe_X12_rests 54) (fun _ _ => rfl) ?_
  refine t_ite (op := o_icmp 58 174 (fun x y => y ≤ x) (fun _ _ => inferInstance)) (fe_X12_rests 55) g_icmp (fun c1 => ?_) (fun c1 => ?_)
  · exact absurd c1 (by decide)
  · refine t_go (op := o_iload 60 5) (fe_X12_rests 58) (fun _ _ => rfl) ?_
    refine t_ite (op := o_if 63 174 (fun x => x = 0) (fun _ => inferInstance)) (fe_X12_rests 60) g_if (fun c2 => ?_) (fun c2 => ?_)
    · exact absurd c2 (by decide)
    · clear c2
      refine t_go (op := o_iload 65 8) (fe_X12_rests 63) (fun _ _ => rfl) ?_
      refine t_go (op := o_ci 66 2) (fe_X12_rests 65) (fun _ _ => rfl) ?_
      refine t_go (op := o_i2d 67 (fun x y => x / y)) (fe_X12_rests 66) (g_i2d (by decide)) ?_
      refine t_go (op := o_istore 69 9) (fe_X12_rests 67) (fun _ _ => rfl) ?_
      refine t_go (op := o_iload 71 8) (fe_X12_rests 69) (fun _ _ => rfl) ?_
      refine t_go (op := o_ci 72 2) (fe_X12_rests 71) (fun _ _ => rfl) ?_
      refine t_go (op := o_i2d 73 (fun x y => x - x / y * y)) (fe_X12_rests 72) (g_i2d (by decide)) ?_
      refine t_go (op := o_istore 75 10) (fe_X12_rests 73) (fun _ _ => rfl) ?_
      refine t_go (op := o_ci 76 1) (fe_X12_rests 75) (fun _ _ => rfl) ?_
      refine t_go (op := o_iload 78 9) (fe_X12_rests 76) (fun _ _ => rfl) ?_
      refine t_go (op := o_i2 79 (fun x y => x - y)) (fe_X12_rests 78) (fun _ _ => rfl) ?_
      refine t_go (op := o_iload 81 10) (fe_X12_rests 79) (fun _ _ => rfl) ?_
      refine t_go (op := o_iload 82 1) (fe_X12_rests 81) (fun _ _ => rfl) ?_
      refine t_go (op := o_iload 83 2) (fe_X12_rests 82) (fun _ _ => rfl) ?_
      refine t_go (op := o_iload 84 3) (fe_X12_rests 83) (fun _ _ => rfl) ?_
      refine t_call (op := o_callS 87 263 5) (fe_X12_rests 84) (g_callS rfl rfl rfl (Nat.le_of_ble_eq_true rfl)) ?_
      refine M_eq (r_gets (F := false) (O := true) (by decide) (by decide)) ?_
      refine t_go (op := o_iload 89 9) (fe_X12_rests 87) (fun _ _ => rfl) ?_
      refine t_go (op := o_iload 91 10) (fe_X12_rests 89) (fun _ _ => rfl) ?_
      refine t_go (op := o_iload 92 1) (fe_X12_rests 91) (fun _ _ => rfl) ?_
      refine t_go (op := o_iload 93 2) (fe_X12_rests 92) (fun _ _ => rfl) ?_
      refine t_go (op := o_iload 94 3) (fe_X12_rests 93) (fun _ _ => rfl) ?_
      refine t_call (op := o_callS 97 263 5) (fe_X12_rests 94) (g_callS rfl rfl rfl (Nat.le_of_ble_eq_true rfl)) ?_
      refine M_eq (r_gets (F := true) (O := true) (by decide) (by decide)) ?_
      refine t_ite (op := o_icmp 100 129 (fun x y => y < x) (fun _ _ => inferInstance)) (fe_X12_rests 97) g_icmp (fun c3 => ?_) (fun c3 => ?_)
      · refine t_go (op := o_ci 130 0) (fe_X12_rests 129) (fun _ _ => rfl) ?_
        refine t_go (op := o_istore 132 11) (fe_X12_rests 130) (fun _ _ => rfl) ?_
        refine t_go (op := o_iload 134 11) (fe_X12_rests 132) (fun _ _ => rfl) ?_
        refine t_ite (op := o_if 137 149 (fun x => x = 0) (fun _ => inferInstance)) (fe_X12_rests 134) g_if (fun c4 => ?_) (fun c4 => ?_)
        · clear c4
          refine t_go (op := o_iload 151 7) (fe_X12_rests 149) (fun _ _ => rfl) ?_
          refine t_go (op := o_istore 153 7) (fe_X12_rests 151) (fun _ _ => rfl) ?_
          refine t_go (op := o_iload 155 6) (fe_X12_rests 153) (fun _ _ => rfl) ?_
          refine t_go (op := o_iload 157 11) (fe_X12_rests 155) (fun _ _ => rfl) ?_
          refine t_ite (op := o_if 160 164 (fun x => x = 0) (fun _ => inferInstance)) (fe_X12_rests 157) g_if (fun c5 => ?_) (fun c5 => ?_)
          · clear c5
            refine t_go (op := o_ci 165 0) (fe_X12_rests 164) (fun _ _ => rfl) ?_
            refine t_go (op := o_i2 166 (fun x y => x + y)) (fe_X12_rests 165) (fun _ _ => rfl) ?_
            refine t_go (op := o_istore 168 6) (fe_X12_rests 166) (fun _ _ => rfl) ?_
            refine t_go (op := o_iinc 171 8 1) (fe_X12_rests 168) (fun _ _ => rfl) ?_
            refine t_go (op := o_goto 52) (fe_X12_rests 171) (fun _ _ => rfl) ?_
            rw [show (fun x y : Int32 => x + y) (nI m) 0 = nI m from Int32.add_zero _]
            exact hqF (atR_f1 (F := true) (O := true) rfl rfl c3) _ _ _
          · exact absurd (by decide) c5
        · exact absurd (by decide) c4
      · refine t_go (op := o_ci 101 1) (fe_X12_rests 100) (fun _ _ => rfl) ?_
        refine t_go (op := o_iload 103 10) (fe_X12_rests 101) (fun _ _ => rfl) ?_
        refine t_go (op := o_i2 104 (fun x y => x - y)) (fe_X12_rests 103) (fun _ _ => rfl) ?_
        refine t_go (op := o_iload 106 9) (fe_X12_rests 104) (fun _ _ => rfl) ?_
        refine t_go (op := o_iload 107 1) (fe_X12_rests 106) (fun _ _ => rfl) ?_
        refine t_go (op := o_iload 108 2) (fe_X12_rests 107) (fun _ _ => rfl) ?_
        refine t_go (op := o_iload 109 3) (fe_X12_rests 108) (fun _ _ => rfl) ?_
        refine t_call (op := o_callS 112 263 5) (fe_X12_rests 109) (g_callS rfl rfl rfl (Nat.le_of_ble_eq_true rfl)) ?_
        refine M_eq (r_gets (F := false) (O := true) (by decide) (by decide)) ?_
        refine t_go (op := o_iload 114 10) (fe_X12_rests 112) (fun _ _ => rfl) ?_
        refine t_go (op := o_iload 116 9) (fe_X12_rests 114) (fun _ _ => rfl) ?_
        refine t_go (op := o_iload 117 1) (fe_X12_rests 116) (fun _ _ => rfl) ?_
        refine t_go (op := o_iload 118 2) (fe_X12_rests 117) (fun _ _ => rfl) ?_
        refine t_go (op := o_iload 119 3) (fe_X12_rests 118) (fun _ _ => rfl) ?_
        refine t_call (op := o_callS 122 263 5) (fe_X12_rests 119) (g_callS rfl rfl rfl (Nat.le_of_ble_eq_true rfl)) ?_
        refine M_eq (r_gets (F := true) (O := true) (by decide) (by decide)) ?_
        refine t_ite (op := o_icmp 125 129 (fun x y => y < x) (fun _ _ => inferInstance)) (fe_X12_rests 122) g_icmp (fun c6 => ?_) (fun c6 => ?_)
        · refine t_go (op := o_ci 130 0) (fe_X12_rests 129) (fun _ _ => rfl) ?_
          refine t_go (op := o_istore 132 11) (fe_X12_rests 130) (fun _ _ => rfl) ?_
          refine t_go (op := o_iload 134 11) (fe_X12_rests 132) (fun _ _ => rfl) ?_
          refine t_ite (op := o_if 137 149 (fun x => x = 0) (fun _ => inferInstance)) (fe_X12_rests 134) g_if (fun c7 => ?_) (fun c7 => ?_)
          · clear c7
            refine t_go (op := o_iload 151 7) (fe_X12_rests 149) (fun _ _ => rfl) ?_
            refine t_go (op := o_istore 153 7) (fe_X12_rests 151) (fun _ _ => rfl) ?_
            refine t_go (op := o_iload 155 6) (fe_X12_rests 153) (fun _ _ => rfl) ?_
            refine t_go (op := o_iload 157 11) (fe_X12_rests 155) (fun _ _ => rfl) ?_
            refine t_ite (op := o_if 160 164 (fun x => x = 0) (fun _ => inferInstance)) (fe_X12_rests 157) g_if (fun c8 => ?_) (fun c8 => ?_)
            · clear c8
              refine t_go (op := o_ci 165 0) (fe_X12_rests 164) (fun _ _ => rfl) ?_
              refine t_go (op := o_i2 166 (fun x y => x + y)) (fe_X12_rests 165) (fun _ _ => rfl) ?_
              refine t_go (op := o_istore 168 6) (fe_X12_rests 166) (fun _ _ => rfl) ?_
              refine t_go (op := o_iinc 171 8 1) (fe_X12_rests 168) (fun _ _ => rfl) ?_
              refine t_go (op := o_goto 52) (fe_X12_rests 171) (fun _ _ => rfl) ?_
              rw [show (fun x y : Int32 => x + y) (nI m) 0 = nI m from Int32.add_zero _]
              exact hqF (atR_f2 (F := true) (O := true) rfl rfl c6) _ _ _
            · exact absurd (by decide) c8
          · exact absurd (by decide) c7
        · refine t_go (op := o_ci 126 1) (fe_X12_rests 125) (fun _ _ => rfl) ?_
          refine t_go (op := o_goto 130) (fe_X12_rests 126) (fun _ _ => rfl) ?_
          refine t_go (op := o_istore 132 11) (fe_X12_rests 130) (fun _ _ => rfl) ?_
          refine t_go (op := o_iload 134 11) (fe_X12_rests 132) (fun _ _ => rfl) ?_
          refine t_ite (op := o_if 137 149 (fun x => x = 0) (fun _ => inferInstance)) (fe_X12_rests 134) g_if (fun c9 => ?_) (fun c9 => ?_)
          · exact absurd c9 (by decide)
          · clear c9
            refine t_go (op := o_iload 139 6) (fe_X12_rests 137) (fun _ _ => rfl) ?_
            refine t_go (op := o_iload 141 4) (fe_X12_rests 139) (fun _ _ => rfl) ?_
            refine t_ite (op := o_icmp 149 144 (fun x y => x = y) (fun _ _ => inferInstance)) (fe_X12_rests 141) g_icmp (fun c10 => ?_) (fun c10 => ?_)
            · refine t_go (op := o_iload 146 8) (fe_X12_rests 144) (fun _ _ => rfl) ?_
              refine t_go (op := o_goto 151) (fe_X12_rests 146) (fun _ _ => rfl) ?_
              refine t_go (op := o_istore 153 7) (fe_X12_rests 151) (fun _ _ => rfl) ?_
              refine t_go (op := o_iload 155 6) (fe_X12_rests 153) (fun _ _ => rfl) ?_
              refine t_go (op := o_iload 157 11) (fe_X12_rests 155) (fun _ _ => rfl) ?_
              refine t_ite (op := o_if 160 164 (fun x => x = 0) (fun _ => inferInstance)) (fe_X12_rests 157) g_if (fun c11 => ?_) (fun c11 => ?_)
              · exact absurd c11 (by decide)
              · clear c11
                refine t_go (op := o_ci 161 1) (fe_X12_rests 160) (fun _ _ => rfl) ?_
                refine t_go (op := o_goto 165) (fe_X12_rests 161) (fun _ _ => rfl) ?_
                refine t_go (op := o_i2 166 (fun x y => x + y)) (fe_X12_rests 165) (fun _ _ => rfl) ?_
                refine t_go (op := o_istore 168 6) (fe_X12_rests 166) (fun _ _ => rfl) ?_
                refine t_go (op := o_iinc 171 8 1) (fe_X12_rests 168) (fun _ _ => rfl) ?_
                refine t_go (op := o_goto 52) (fe_X12_rests 171) (fun _ _ => rfl) ?_
                rw [show (fun x y : Int32 => x + y) (nI m) 1 = nI (m + 1) by show nI m + 1 = _; rw [nI_1]]
                exact hqY (atR_t (F := true) (O := true) rfl rfl c3 c6) c10 _ _ _
            · refine t_go (op := o_iload 151 7) (fe_X12_rests 149) (fun _ _ => rfl) ?_
              refine t_go (op := o_istore 153 7) (fe_X12_rests 151) (fun _ _ => rfl) ?_
              refine t_go (op := o_iload 155 6) (fe_X12_rests 153) (fun _ _ => rfl) ?_
              refine t_go (op := o_iload 157 11) (fe_X12_rests 155) (fun _ _ => rfl) ?_
              refine t_ite (op := o_if 160 164 (fun x => x = 0) (fun _ => inferInstance)) (fe_X12_rests 157) g_if (fun c12 => ?_) (fun c12 => ?_)
              · exact absurd c12 (by decide)
              · clear c12
                refine t_go (op := o_ci 161 1) (fe_X12_rests 160) (fun _ _ => rfl) ?_
                refine t_go (op := o_goto 165) (fe_X12_rests 161) (fun _ _ => rfl) ?_
                refine t_go (op := o_i2 166 (fun x y => x + y)) (fe_X12_rests 165) (fun _ _ => rfl) ?_
                refine t_go (op := o_istore 168 6) (fe_X12_rests 166) (fun _ _ => rfl) ?_
                refine t_go (op := o_iinc 171 8 1) (fe_X12_rests 168) (fun _ _ => rfl) ?_
                refine t_go (op := o_goto 52) (fe_X12_rests 171) (fun _ _ => rfl) ?_
                rw [show (fun x y : Int32 => x + y) (nI m) 1 = nI (m + 1) by show nI m + 1 = _; rw [nI_1]]
                exact hqN (atR_t (F := true) (O := true) rfl rfl c3 c6) c10 _ _ _
theorem r_rsl {d : Nat} {h : AHP} {a b c e : Int32} {Q : Option Value → AHP → Prop} (hS : Std h) : ∀ (j k m : Nat) (fo : Int32) (x9 x10 x11 : Option Value), k + j = 4 → (∀ x9 x10 x11, TT (d + 1) 264 52 [some (.ref 183), some (.int a), some (.int b), some (.int c), some (.int e), some (.int 1), some (.int (nI (rf a b c e j k m fo).1)), some (.int (rf a b c e j k m fo).2), some (.int (nI 4)), x9, x10, x11] [] h Q) → TT (d + 1) 264 52 [some (.ref 183), some (.int a), some (.int b), some (.int c), some (.int e), some (.int 1), some (.int (nI m)), some (.int fo), some (.int (nI k)), x9, x10, x11] [] h Q := by
  intro j
  induction j with
  | zero =>
    intro k m fo x9 x10 x11 hk hq
    have : k = 4 := by omega
    subst this
    exact hq _ _ _
  | succ j ih =>
    intro k m fo x9 x10 x11 hk hq
    rw [rf] at hq
    have hF : ¬ atR a b c k = true → ∀ x9 x10 x11, TT (d + 1) 264 52 [some (.ref 183), some (.int a), some (.int b), some (.int c), some (.int e), some (.int 1), some (.int (nI m)), some (.int fo), some (.int (nI (k + 1))), x9, x10, x11] [] h Q := fun hA x9 x10 x11 => by
      rw [if_neg hA] at hq; exact ih _ _ _ _ _ _ (by omega) hq
    have hN : atR a b c k = true → ¬ nI m = e → ∀ x9 x10 x11, TT (d + 1) 264 52 [some (.ref 183), some (.int a), some (.int b), some (.int c), some (.int e), some (.int 1), some (.int (nI (m + 1))), some (.int fo), some (.int (nI (k + 1))), x9, x10, x11] [] h Q := fun hA hn x9 x10 x11 => by
      rw [if_pos hA, if_neg hn] at hq; exact ih _ _ _ _ _ _ (by omega) hq
    have hY : atR a b c k = true → nI m = e → ∀ x9 x10 x11, TT (d + 1) 264 52 [some (.ref 183), some (.int a), some (.int b), some (.int c), some (.int e), some (.int 1), some (.int (nI (m + 1))), some (.int (nI k)), some (.int (nI (k + 1))), x9, x10, x11] [] h Q := fun hA hn x9 x10 x11 => by
      rw [if_pos hA, if_pos hn] at hq; exact ih _ _ _ _ _ _ (by omega) hq
    clear hq ih
    match k, hk with
    | 0, _ => exact r_rs0 hS hF hN hY
    | 1, _ => exact r_rs1 hS hF hN hY
    | 2, _ => exact r_rs2 hS hF hN hY
    | 3, _ => exact r_rs3 hS hF hN hY
    | k + 4, hk => omega
set_option maxRecDepth 8000 in
theorem r_rsz {d : Nat} {h : AHP} {a b c e fo : Int32} {m : Nat} {x9 x10 x11 : Option Value} (hS : Std h) {Q : Option Value → AHP → Prop} (hq : Q (some (.int 0)) (sI h 183 0 1)) : TT (d + 1) 264 52 [some (.ref 183), some (.int a), some (.int b), some (.int c), some (.int e), some (.int 0), some (.int (nI m)), some (.int fo), some (.int (nI 0)), x9, x10, x11] [] h Q := by
  refine t_go (op := o_iload 54 8) (fe_X12_rests 52) (fun _ _ => rfl) ?_
  refine t_go (op := o_ci 55 4) (fe_X12_rests 54) (fun _ _ => rfl) ?_
  refine t_ite (op := o_icmp 58 174 (fun x y => y ≤ x) (fun _ _ => inferInstance)) (fe_X12_rests 55) g_icmp (fun c1 => ?_) (fun c1 => ?_)
  · exact absurd c1 (by decide)
  · refine t_go (op := o_iload 60 5) (fe_X12_rests 58) (fun _ _ => rfl) ?_
    refine t_ite (op := o_if 63 174 (fun x => x = 0) (fun _ => inferInstance)) (fe_X12_rests 60) g_if (fun c2 => ?_) (fun c2 => ?_)
    · clear c2
      refine t_go (op := o_aload 175 0) (fe_X12_rests 174) (fun _ _ => rfl) ?_
      refine t_go (op := o_iload 177 5) (fe_X12_rests 175) (fun _ _ => rfl) ?_
      refine t_ite (op := o_if 180 194 (fun x => x = 0) (fun _ => inferInstance)) (fe_X12_rests 177) g_if (fun c3 => ?_) (fun c3 => ?_)
      · clear c3
        refine t_go (op := o_ci 195 1) (fe_X12_rests 194) (fun _ _ => rfl) ?_
        refine t_go (op := o_putI 198 11 0) (fe_X12_rests 195) (g_putI hS (show (lay 183).1 = 11 by decide) (by decide)) ?_
        refine t_go (op := o_aload 199 0) (fe_X12_rests 198) (fun _ _ => rfl) ?_
        refine t_go (op := o_getI 202 11 0) (fe_X12_rests 199) (g_getI hS (show (lay 183).1 = 11 by decide) (by decide)) ?_
        rw [show (sI h 183 0 1).1 183 0 = 1 from rfl]
        refine t_ite (op := o_if 205 209 (fun x => x ≤ 0) (fun _ => inferInstance)) (fe_X12_rests 202) g_if (fun c4 => ?_) (fun c4 => ?_)
        · exact absurd c4 (by decide)
        · clear c4
          refine t_go (op := o_ci 206 0) (fe_X12_rests 205) (fun _ _ => rfl) ?_
          refine t_go (op := o_goto 221) (fe_X12_rests 206) (fun _ _ => rfl) ?_
          refine t_ret (op := o_iret) (fe_X12_rests 221) (fun _ _ => rfl) ?_
          exact hq
      · exact absurd (by decide) c3
    · exact absurd (by decide) c2
set_option maxRecDepth 8000 in
theorem r_rsM {d : Nat} {h : AHP} {a b c e fo : Int32} {m : Nat} {x9 x10 x11 : Option Value} (hS : Std h) (he : e < 0) {Q : Option Value → AHP → Prop} (hq : Q (some (.int (nI m))) (sI h 183 0 0)) : TT (d + 1) 264 52 [some (.ref 183), some (.int a), some (.int b), some (.int c), some (.int e), some (.int 1), some (.int (nI m)), some (.int fo), some (.int (nI 4)), x9, x10, x11] [] h Q := by
  refine t_go (op := o_iload 54 8) (fe_X12_rests 52) (fun _ _ => rfl) ?_
  refine t_go (op := o_ci 55 4) (fe_X12_rests 54) (fun _ _ => rfl) ?_
  refine t_ite (op := o_icmp 58 174 (fun x y => y ≤ x) (fun _ _ => inferInstance)) (fe_X12_rests 55) g_icmp (fun c1 => ?_) (fun c1 => ?_)
  · refine t_go (op := o_aload 175 0) (fe_X12_rests 174) (fun _ _ => rfl) ?_
    refine t_go (op := o_iload 177 5) (fe_X12_rests 175) (fun _ _ => rfl) ?_
    refine t_ite (op := o_if 180 194 (fun x => x = 0) (fun _ => inferInstance)) (fe_X12_rests 177) g_if (fun c2 => ?_) (fun c2 => ?_)
    · exact absurd c2 (by decide)
    · clear c2
      refine t_go (op := o_iload 182 4) (fe_X12_rests 180) (fun _ _ => rfl) ?_
      refine t_ite (op := o_if 185 190 (fun x => x < 0) (fun _ => inferInstance)) (fe_X12_rests 182) g_if (fun c3 => ?_) (fun c3 => ?_)
      · refine t_go (op := o_ci 191 0) (fe_X12_rests 190) (fun _ _ => rfl) ?_
        refine t_go (op := o_goto 195) (fe_X12_rests 191) (fun _ _ => rfl) ?_
        refine t_go (op := o_putI 198 11 0) (fe_X12_rests 195) (g_putI hS (show (lay 183).1 = 11 by decide) (by decide)) ?_
        refine t_go (op := o_aload 199 0) (fe_X12_rests 198) (fun _ _ => rfl) ?_
        refine t_go (op := o_getI 202 11 0) (fe_X12_rests 199) (g_getI hS (show (lay 183).1 = 11 by decide) (by decide)) ?_
        rw [show (sI h 183 0 0).1 183 0 = 0 from rfl]
        refine t_ite (op := o_if 205 209 (fun x => x ≤ 0) (fun _ => inferInstance)) (fe_X12_rests 202) g_if (fun c4 => ?_) (fun c4 => ?_)
        · clear c4
          refine t_go (op := o_iload 211 4) (fe_X12_rests 209) (fun _ _ => rfl) ?_
          refine t_ite (op := o_if 214 219 (fun x => 0 ≤ x) (fun _ => inferInstance)) (fe_X12_rests 211) g_if (fun c5 => ?_) (fun c5 => ?_)
          · exact absurd c5 (Int32.not_le.mpr he)
          · refine t_go (op := o_iload 216 6) (fe_X12_rests 214) (fun _ _ => rfl) ?_
            refine t_go (op := o_goto 221) (fe_X12_rests 216) (fun _ _ => rfl) ?_
            refine t_ret (op := o_iret) (fe_X12_rests 221) (fun _ _ => rfl) ?_
            exact hq
        · exact absurd (by decide) c4
      · exact absurd he c3
  · exact absurd (by decide) c1
set_option maxRecDepth 8000 in
theorem r_rsN {d : Nat} {h : AHP} {a b c e fo : Int32} {m : Nat} {x9 x10 x11 : Option Value} (hS : Std h) (he : ¬ e < 0) (hf : fo < 0) {Q : Option Value → AHP → Prop} (hq : Q (some (.int 0)) (sI h 183 0 1)) : TT (d + 1) 264 52 [some (.ref 183), some (.int a), some (.int b), some (.int c), some (.int e), some (.int 1), some (.int (nI m)), some (.int fo), some (.int (nI 4)), x9, x10, x11] [] h Q := by
  refine t_go (op := o_iload 54 8) (fe_X12_rests 52) (fun _ _ => rfl) ?_
  refine t_go (op := o_ci 55 4) (fe_X12_rests 54) (fun _ _ => rfl) ?_
  refine t_ite (op := o_icmp 58 174 (fun x y => y ≤ x) (fun _ _ => inferInstance)) (fe_X12_rests 55) g_icmp (fun c1 => ?_) (fun c1 => ?_)
  · refine t_go (op := o_aload 175 0) (fe_X12_rests 174) (fun _ _ => rfl) ?_
    refine t_go (op := o_iload 177 5) (fe_X12_rests 175) (fun _ _ => rfl) ?_
    refine t_ite (op := o_if 180 194 (fun x => x = 0) (fun _ => inferInstance)) (fe_X12_rests 177) g_if (fun c2 => ?_) (fun c2 => ?_)
    · exact absurd c2 (by decide)
    · clear c2
      refine t_go (op := o_iload 182 4) (fe_X12_rests 180) (fun _ _ => rfl) ?_
      refine t_ite (op := o_if 185 190 (fun x => x < 0) (fun _ => inferInstance)) (fe_X12_rests 182) g_if (fun c3 => ?_) (fun c3 => ?_)
      · exact absurd c3 he
      · refine t_go (op := o_iload 187 7) (fe_X12_rests 185) (fun _ _ => rfl) ?_
        refine t_ite (op := o_if 190 194 (fun x => x < 0) (fun _ => inferInstance)) (fe_X12_rests 187) g_if (fun c4 => ?_) (fun c4 => ?_)
        · refine t_go (op := o_ci 195 1) (fe_X12_rests 194) (fun _ _ => rfl) ?_
          refine t_go (op := o_putI 198 11 0) (fe_X12_rests 195) (g_putI hS (show (lay 183).1 = 11 by decide) (by decide)) ?_
          refine t_go (op := o_aload 199 0) (fe_X12_rests 198) (fun _ _ => rfl) ?_
          refine t_go (op := o_getI 202 11 0) (fe_X12_rests 199) (g_getI hS (show (lay 183).1 = 11 by decide) (by decide)) ?_
          rw [show (sI h 183 0 1).1 183 0 = 1 from rfl]
          refine t_ite (op := o_if 205 209 (fun x => x ≤ 0) (fun _ => inferInstance)) (fe_X12_rests 202) g_if (fun c5 => ?_) (fun c5 => ?_)
          · exact absurd c5 (by decide)
          · clear c5
            refine t_go (op := o_ci 206 0) (fe_X12_rests 205) (fun _ _ => rfl) ?_
            refine t_go (op := o_goto 221) (fe_X12_rests 206) (fun _ _ => rfl) ?_
            refine t_ret (op := o_iret) (fe_X12_rests 221) (fun _ _ => rfl) ?_
            exact hq
        · exact absurd hf c4
  · exact absurd (by decide) c1
set_option maxRecDepth 8000 in
theorem r_rsF {d : Nat} {h : AHP} {a b c e fo : Int32} {m : Nat} {x9 x10 x11 : Option Value} (hS : Std h) (he : ¬ e < 0) (hf : ¬ fo < 0) {Q : Option Value → AHP → Prop} (hq : Q (some (.int fo)) (sI h 183 0 0)) : TT (d + 1) 264 52 [some (.ref 183), some (.int a), some (.int b), some (.int c), some (.int e), some (.int 1), some (.int (nI m)), some (.int fo), some (.int (nI 4)), x9, x10, x11] [] h Q := by
  refine t_go (op := o_iload 54 8) (fe_X12_rests 52) (fun _ _ => rfl) ?_
  refine t_go (op := o_ci 55 4) (fe_X12_rests 54) (fun _ _ => rfl) ?_
  refine t_ite (op := o_icmp 58 174 (fun x y => y ≤ x) (fun _ _ => inferInstance)) (fe_X12_rests 55) g_icmp (fun c1 => ?_) (fun c1 => ?_)
  · refine t_go (op := o_aload 175 0) (fe_X12_rests 174) (fun _ _ => rfl) ?_
    refine t_go (op := o_iload 177 5) (fe_X12_rests 175) (fun _ _ => rfl) ?_
    refine t_ite (op := o_if 180 194 (fun x => x = 0) (fun _ => inferInstance)) (fe_X12_rests 177) g_if (fun c2 => ?_) (fun c2 => ?_)
    · exact absurd c2 (by decide)
    · clear c2
      refine t_go (op := o_iload 182 4) (fe_X12_rests 180) (fun _ _ => rfl) ?_
      refine t_ite (op := o_if 185 190 (fun x => x < 0) (fun _ => inferInstance)) (fe_X12_rests 182) g_if (fun c3 => ?_) (fun c3 => ?_)
      · exact absurd c3 he
      · refine t_go (op := o_iload 187 7) (fe_X12_rests 185) (fun _ _ => rfl) ?_
        refine t_ite (op := o_if 190 194 (fun x => x < 0) (fun _ => inferInstance)) (fe_X12_rests 187) g_if (fun c4 => ?_) (fun c4 => ?_)
        · exact absurd c4 hf
        · refine t_go (op := o_ci 191 0) (fe_X12_rests 190) (fun _ _ => rfl) ?_
          refine t_go (op := o_goto 195) (fe_X12_rests 191) (fun _ _ => rfl) ?_
          refine t_go (op := o_putI 198 11 0) (fe_X12_rests 195) (g_putI hS (show (lay 183).1 = 11 by decide) (by decide)) ?_
          refine t_go (op := o_aload 199 0) (fe_X12_rests 198) (fun _ _ => rfl) ?_
          refine t_go (op := o_getI 202 11 0) (fe_X12_rests 199) (g_getI hS (show (lay 183).1 = 11 by decide) (by decide)) ?_
          rw [show (sI h 183 0 0).1 183 0 = 0 from rfl]
          refine t_ite (op := o_if 205 209 (fun x => x ≤ 0) (fun _ => inferInstance)) (fe_X12_rests 202) g_if (fun c5 => ?_) (fun c5 => ?_)
          · clear c5
            refine t_go (op := o_iload 211 4) (fe_X12_rests 209) (fun _ _ => rfl) ?_
            refine t_ite (op := o_if 214 219 (fun x => 0 ≤ x) (fun _ => inferInstance)) (fe_X12_rests 211) g_if (fun c6 => ?_) (fun c6 => ?_)
            · refine t_go (op := o_iload 221 7) (fe_X12_rests 219) (fun _ _ => rfl) ?_
              refine t_ret (op := o_iret) (fe_X12_rests 221) (fun _ _ => rfl) ?_
              exact hq
            · exact absurd (Int32.not_lt.mp he) c6
          · exact absurd (by decide) c5
  · exact absurd (by decide) c1
def RsQ (a b c e : Int32) (h : AHP) (v : Option Value) (h2 : AHP) : Prop := ∃ v', v = some (.int v') ∧ ((rsV a b c e = some v' ∧ h2 = sI h 183 0 0) ∨ (rsV a b c e = none ∧ v' = 0 ∧ h2 = sI h 183 0 1))
theorem gnP_f {x : Int32} (h : ¬ (¬ x < 0 ∧ ¬ 9 < x)) : gnP x = false := decide_eq_false h
theorem gnP_t {x : Int32} (h : ¬ x < 0 ∧ ¬ 9 < x) : gnP x = true := decide_eq_true h
theorem rsV_na {a b c e : Int32} (h : ¬ (¬ a < 0 ∧ ¬ 9 < a)) : rsV a b c e = none := by rw [rsV, gnP_f h]; rfl
theorem rsV_nb {a b c e : Int32} (h : ¬ (¬ b < 0 ∧ ¬ 9 < b)) : rsV a b c e = none := by rw [rsV, gnP_f h, Bool.and_false]; rfl
theorem rsV_nc {a b c e : Int32} (h : ¬ (¬ c < 0 ∧ ¬ 9 < c)) : rsV a b c e = none := by rw [rsV, gnP_f h, Bool.and_false]; rfl
theorem rsV_ne {a b c e : Int32} (h : e < -1) : rsV a b c e = none := by
  rw [rsV]
  by_cases hg : (gnP a && gnP b && gnP c) = true
  · rw [if_pos hg]; exact rs_D h 4 0 0 (by decide)
  · rw [if_neg hg]
theorem rsV_y {a b c e : Int32} (ha : ¬ a < 0 ∧ ¬ 9 < a) (hb : ¬ b < 0 ∧ ¬ 9 < b) (hc : ¬ c < 0 ∧ ¬ 9 < c) : rsV a b c e = rsL a b c e 4 0 0 := by rw [rsV, gnP_t ha, gnP_t hb, gnP_t hc]; rfl
theorem r_rsG {d : Nat} {h : AHP} {a b c e : Int32} {x9 x10 x11 : Option Value} (hS : Std h) (ha : ¬ a < 0 ∧ ¬ 9 < a) (hb : ¬ b < 0 ∧ ¬ 9 < b) (hc : ¬ c < 0 ∧ ¬ 9 < c) (he : ¬ e < -1) : TT (d + 1) 264 52 [some (.ref 183), some (.int a), some (.int b), some (.int c), some (.int e), some (.int 1), some (.int (nI 0)), some (.int (-1)), some (.int (nI 0)), x9, x10, x11] [] h (RsQ a b c e h) := by
  refine r_rsl hS 4 0 0 (-1) _ _ _ rfl fun x9 x10 x11 => ?_
  by_cases h0 : e < 0
  · have e1 := m1_of he h0
    refine r_rsM hS h0 ⟨_, rfl, Or.inl ⟨?_, rfl⟩⟩
    rw [rsV_y ha hb hc]
    subst e1
    exact rs_A 4 0 0 (-1) (by decide)
  · obtain ⟨D, hD, eD⟩ := nn_of h0
    have e2 := rs_B (a := a) (b := b) (c := c) eD hD 4 0 0 (by decide) (by decide)
    by_cases hf : (rf a b c e 4 0 0 (-1)).2 < 0
    · refine r_rsN hS h0 hf ⟨_, rfl, Or.inr ⟨?_, rfl, rfl⟩⟩
      rw [rsV_y ha hb hc]
      rw [if_pos hf] at e2
      exact e2
    · refine r_rsF hS h0 hf ⟨_, rfl, Or.inl ⟨?_, rfl⟩⟩
      rw [rsV_y ha hb hc]
      rw [if_neg hf] at e2
      exact e2
set_option maxRecDepth 8000 in
theorem r_rests {d : Nat} {h : AHP} {a b c e : Int32} (hS : Std h) : MM (d + 1) 264 [.ref 183, .int a, .int b, .int c, .int e] h (fun v h2 => RsQ a b c e h v h2) := by
  refine ⟨Nat.le_of_ble_eq_true rfl, ?_⟩
  refine t_go (op := o_iload 1 1) (fe_X12_rests 0) (fun _ _ => rfl) ?_
  refine t_go (op := o_ci 2 0) (fe_X12_rests 1) (fun _ _ => rfl) ?_
  refine t_go (op := o_ci 4 9) (fe_X12_rests 2) (fun _ _ => rfl) ?_
  refine t_call (op := o_callS 7 173 3) (fe_X12_rests 4) (g_callS rfl rfl rfl (Nat.le_of_ble_eq_true rfl)) ?_
  refine M_eq r_within ?_
  refine t_ite (op := o_if 10 40 (fun x => x = 0) (fun _ => inferInstance)) (fe_X12_rests 7) g_if (fun c1 => ?_) (fun c1 => ?_)
  · replace c1 := b2i_z c1
    refine t_go (op := o_ci 41 0) (fe_X12_rests 40) (fun _ _ => rfl) ?_
    refine t_go (op := o_istore 43 5) (fe_X12_rests 41) (fun _ _ => rfl) ?_
    refine t_go (op := o_ci 44 0) (fe_X12_rests 43) (fun _ _ => rfl) ?_
    refine t_go (op := o_istore 46 6) (fe_X12_rests 44) (fun _ _ => rfl) ?_
    refine t_go (op := o_ci 47 (-1)) (fe_X12_rests 46) (fun _ _ => rfl) ?_
    refine t_go (op := o_istore 49 7) (fe_X12_rests 47) (fun _ _ => rfl) ?_
    refine t_go (op := o_ci 50 0) (fe_X12_rests 49) (fun _ _ => rfl) ?_
    refine t_go (op := o_istore 52 8) (fe_X12_rests 50) (fun _ _ => rfl) ?_
    exact r_rsz (m := 0) (fo := -1) hS ⟨0, rfl, Or.inr ⟨rsV_na c1, rfl, rfl⟩⟩
  · replace c1 := b2i_nn c1
    refine t_go (op := o_iload 11 2) (fe_X12_rests 10) (fun _ _ => rfl) ?_
    refine t_go (op := o_ci 12 0) (fe_X12_rests 11) (fun _ _ => rfl) ?_
    refine t_go (op := o_ci 14 9) (fe_X12_rests 12) (fun _ _ => rfl) ?_
    refine t_call (op := o_callS 17 173 3) (fe_X12_rests 14) (g_callS rfl rfl rfl (Nat.le_of_ble_eq_true rfl)) ?_
    refine M_eq r_within ?_
    refine t_ite (op := o_if 20 40 (fun x => x = 0) (fun _ => inferInstance)) (fe_X12_rests 17) g_if (fun c2 => ?_) (fun c2 => ?_)
    · replace c2 := b2i_z c2
      refine t_go (op := o_ci 41 0) (fe_X12_rests 40) (fun _ _ => rfl) ?_
      refine t_go (op := o_istore 43 5) (fe_X12_rests 41) (fun _ _ => rfl) ?_
      refine t_go (op := o_ci 44 0) (fe_X12_rests 43) (fun _ _ => rfl) ?_
      refine t_go (op := o_istore 46 6) (fe_X12_rests 44) (fun _ _ => rfl) ?_
      refine t_go (op := o_ci 47 (-1)) (fe_X12_rests 46) (fun _ _ => rfl) ?_
      refine t_go (op := o_istore 49 7) (fe_X12_rests 47) (fun _ _ => rfl) ?_
      refine t_go (op := o_ci 50 0) (fe_X12_rests 49) (fun _ _ => rfl) ?_
      refine t_go (op := o_istore 52 8) (fe_X12_rests 50) (fun _ _ => rfl) ?_
      exact r_rsz (m := 0) (fo := -1) hS ⟨0, rfl, Or.inr ⟨rsV_nb c2, rfl, rfl⟩⟩
    · replace c2 := b2i_nn c2
      refine t_go (op := o_iload 21 3) (fe_X12_rests 20) (fun _ _ => rfl) ?_
      refine t_go (op := o_ci 22 0) (fe_X12_rests 21) (fun _ _ => rfl) ?_
      refine t_go (op := o_ci 24 9) (fe_X12_rests 22) (fun _ _ => rfl) ?_
      refine t_call (op := o_callS 27 173 3) (fe_X12_rests 24) (g_callS rfl rfl rfl (Nat.le_of_ble_eq_true rfl)) ?_
      refine M_eq r_within ?_
      refine t_ite (op := o_if 30 40 (fun x => x = 0) (fun _ => inferInstance)) (fe_X12_rests 27) g_if (fun c3 => ?_) (fun c3 => ?_)
      · replace c3 := b2i_z c3
        refine t_go (op := o_ci 41 0) (fe_X12_rests 40) (fun _ _ => rfl) ?_
        refine t_go (op := o_istore 43 5) (fe_X12_rests 41) (fun _ _ => rfl) ?_
        refine t_go (op := o_ci 44 0) (fe_X12_rests 43) (fun _ _ => rfl) ?_
        refine t_go (op := o_istore 46 6) (fe_X12_rests 44) (fun _ _ => rfl) ?_
        refine t_go (op := o_ci 47 (-1)) (fe_X12_rests 46) (fun _ _ => rfl) ?_
        refine t_go (op := o_istore 49 7) (fe_X12_rests 47) (fun _ _ => rfl) ?_
        refine t_go (op := o_ci 50 0) (fe_X12_rests 49) (fun _ _ => rfl) ?_
        refine t_go (op := o_istore 52 8) (fe_X12_rests 50) (fun _ _ => rfl) ?_
        exact r_rsz (m := 0) (fo := -1) hS ⟨0, rfl, Or.inr ⟨rsV_nc c3, rfl, rfl⟩⟩
      · replace c3 := b2i_nn c3
        refine t_go (op := o_iload 32 4) (fe_X12_rests 30) (fun _ _ => rfl) ?_
        refine t_go (op := o_ci 33 (-1)) (fe_X12_rests 32) (fun _ _ => rfl) ?_
        refine t_ite (op := o_icmp 36 40 (fun x y => x < y) (fun _ _ => inferInstance)) (fe_X12_rests 33) g_icmp (fun c4 => ?_) (fun c4 => ?_)
        · refine t_go (op := o_ci 41 0) (fe_X12_rests 40) (fun _ _ => rfl) ?_
          refine t_go (op := o_istore 43 5) (fe_X12_rests 41) (fun _ _ => rfl) ?_
          refine t_go (op := o_ci 44 0) (fe_X12_rests 43) (fun _ _ => rfl) ?_
          refine t_go (op := o_istore 46 6) (fe_X12_rests 44) (fun _ _ => rfl) ?_
          refine t_go (op := o_ci 47 (-1)) (fe_X12_rests 46) (fun _ _ => rfl) ?_
          refine t_go (op := o_istore 49 7) (fe_X12_rests 47) (fun _ _ => rfl) ?_
          refine t_go (op := o_ci 50 0) (fe_X12_rests 49) (fun _ _ => rfl) ?_
          refine t_go (op := o_istore 52 8) (fe_X12_rests 50) (fun _ _ => rfl) ?_
          exact r_rsz (m := 0) (fo := -1) hS ⟨0, rfl, Or.inr ⟨rsV_ne c4, rfl, rfl⟩⟩
        · refine t_go (op := o_ci 37 1) (fe_X12_rests 36) (fun _ _ => rfl) ?_
          refine t_go (op := o_goto 41) (fe_X12_rests 37) (fun _ _ => rfl) ?_
          refine t_go (op := o_istore 43 5) (fe_X12_rests 41) (fun _ _ => rfl) ?_
          refine t_go (op := o_ci 44 0) (fe_X12_rests 43) (fun _ _ => rfl) ?_
          refine t_go (op := o_istore 46 6) (fe_X12_rests 44) (fun _ _ => rfl) ?_
          refine t_go (op := o_ci 47 (-1)) (fe_X12_rests 46) (fun _ _ => rfl) ?_
          refine t_go (op := o_istore 49 7) (fe_X12_rests 47) (fun _ _ => rfl) ?_
          refine t_go (op := o_ci 50 0) (fe_X12_rests 49) (fun _ _ => rfl) ?_
          refine t_go (op := o_istore 52 8) (fe_X12_rests 50) (fun _ _ => rfl) ?_
          exact r_rsG hS c1 c2 c3 c4
theorem r_thrown9 {d : Nat} {h : AHP} (hS : Std h) : MM d 157 [.ref 183] h (fun v h2 => v = some (.int (h.1 183 0)) ∧ h2 = h) := by
  refine ⟨Nat.le_of_ble_eq_true rfl, ?_⟩
  refine t_go (op := o_aload 1 0) (fe_X12_thrown 0) (fun _ _ => rfl) ?_
  refine t_go (op := o_getI 4 11 0) (fe_X12_thrown 1) (g_getI hS (show (lay 183).1 = 11 by decide) (by decide)) ?_
  refine t_ret (op := o_iret) (fe_X12_thrown 4) (fun _ _ => rfl) ?_
  exact ⟨rfl, rfl⟩
