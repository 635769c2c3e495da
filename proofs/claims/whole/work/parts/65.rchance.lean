/-! ===== the reference: chance ===== -/
noncomputable def chN (h : AHP) (g n od w : Nat) (i : Nat) (s : Nat × FS) : Nat × FS := if bitI (nI w) (nI i) then (s.1 * od, (HB h g n 1 s.2).1) else (s.1 * (10 - od), (HB h g n 0 s.2).1)
theorem chN_t {h : AHP} {g n od w i p : Nat} {G : FS} (hb : bitI (nI w) (nI i)) : chN h g n od w i (p, G) = (p * od, (HB h g n 1 G).1) := if_pos hb
theorem chN_f {h : AHP} {g n od w i p : Nat} {G : FS} (hb : ¬ bitI (nI w) (nI i)) : chN h g n od w i (p, G) = (p * (10 - od), (HB h g n 0 G).1) := if_neg hb
theorem ch_eq {h : AHP} {g n od w : Nat} (ho : od ≤ 10) : ∀ (j i a : Nat) (F : FS), it (chS h g n (nI od) w) j i (nI a, F) = (nI (it (chN h g n od w) j i (a, F)).1, (it (chN h g n od w) j i (a, F)).2) := by
  intro j
  induction j with
  | zero => intro i a F; rfl
  | succ j ih =>
    intro i a F
    rw [it_step, it_step]
    by_cases hb : bitI (nI w) (nI i)
    · rw [chN_t hb, show chS h g n (nI od) w i (nI a, F) = (nI a * nI od, (HB h g n 1 F).1) from if_pos hb, nIm (a := a) (b := od) rfl rfl]
      exact ih (i + 1) _ _
    · rw [chN_f hb, show chS h g n (nI od) w i (nI a, F) = (nI a * (10 - nI od), (HB h g n 0 F).1) from if_neg hb, show (10 : Int32) - nI od = nI (10 - od) from nIs (a := 10) (b := od) rfl rfl ho, nIm (a := a) (b := 10 - od) rfl rfl]
      exact ih (i + 1) _ _
theorem chN_le {h : AHP} {g n od w : Nat} (ho : od ≤ 10) : ∀ (j i a : Nat) (F : FS), (it (chN h g n od w) j i (a, F)).1 ≤ a * 10 ^ j := by
  intro j
  induction j with
  | zero => intro i a F; exact Nat.le_of_eq (Nat.mul_one a).symm
  | succ j ih =>
    intro i a F
    rw [it_step]
    have e1 : ∀ x, x ≤ 10 → a * x * 10 ^ j ≤ a * 10 ^ (j + 1) := fun x hx => by
      rw [Nat.pow_succ, Nat.mul_assoc, Nat.mul_comm (10 ^ j) 10]
      exact Nat.mul_le_mul_left a (Nat.mul_le_mul_right _ hx)
    by_cases hb : bitI (nI w) (nI i)
    · rw [chN_t hb]; exact Nat.le_trans (ih (i + 1) _ _) (e1 od ho)
    · rw [chN_f hb]; exact Nat.le_trans (ih (i + 1) _ _) (e1 (10 - od) (by omega))
theorem FW_ch {h : AHP} {g n m od w : Nat} (hm : m ≤ 7) : ∀ (j i a T : Nat) (F : FS), FW m T F → FW m (T + j) (it (chN h g n od w) j i (a, F)).2 := by
  intro j
  induction j with
  | zero => intro i a T F hW; exact hW
  | succ j ih =>
    intro i a T F hW
    rw [it_step, show T + (j + 1) = T + 1 + j by omega]
    by_cases hb : bitI (nI w) (nI i)
    · rw [chN_t hb]; exact ih (i + 1) _ _ _ (FW_HB hm hW)
    · rw [chN_f hb]; exact ih (i + 1) _ _ _ (FW_HB hm hW)
noncomputable def chE (h : AHP) (g n : Nat) (F : FS) (od q w : Nat) : Nat × FS := it (chN h g n od w) q 0 (1, F)
noncomputable def milN (h : AHP) (g n : Nat) (F : FS) (od e q : Nat) (w : Nat) (s : Nat) : Nat := if bitI (litH h g n (chE h g n F od q w).2) (nI e) then s + (chE h g n F od q w).1 else s
theorem mil_le {h : AHP} {g n : Nat} {F : FS} {od e q : Nat} (ho : od ≤ 10) : ∀ (j i s : Nat), it (milN h g n F od e q) j i s ≤ s + j * 10 ^ q := by
  intro j
  induction j with
  | zero => intro i s; exact Nat.le_add_right _ _
  | succ j ih =>
    intro i s
    rw [it_step]
    have h1 := ih (i + 1) (milN h g n F od e q i s)
    have h2 : milN h g n F od e q i s ≤ s + 10 ^ q := by
      have h3 := chN_le (h := h) (g := g) (n := n) (w := i) ho q 0 1 F
      rw [Nat.one_mul] at h3
      unfold milN
      split
      · exact Nat.add_le_add_left h3 s
      · exact Nat.le_add_right _ _
    rw [Nat.succ_mul]
    omega
theorem ten_it : ∀ (j i s : Nat), it tenS j i (nI s) = nI (s * 10 ^ j) := by
  intro j
  induction j with
  | zero => intro i s; rw [Nat.pow_zero, Nat.mul_one]; rfl
  | succ j ih =>
    intro i s
    rw [it_step, tenS, show nI s * 10 = nI (s * 10) from nIm (a := s) (b := 10) rfl rfl, ih, Nat.pow_succ, Nat.mul_assoc, Nat.mul_comm (10 ^ j) 10]
theorem air0 {h : AHP} {g : Nat} {F : FS} : airV h g 0 F = if F.2.2.2.2.2 = 1 then 0 else 0 := by
  unfold airV
  rw [if_pos rfl]
  split <;> rfl
theorem lr_chA {d : Nat} {k : AHP} {e q od : Nat} (hq6 : q ≤ 6) {Q : Option Value → AHP → Prop} : ∀ (j i : Nat) (_ : Unit), i + j = q → TT d 254 64 [some (.ref 183), some (.int (nI e)), some (.int (nI q)), some (.int (nI od)), some (.long (lN (10 ^ q))), none, some (.long 0), none, some (.int (nI q)), none, none, none, none] [] k Q → TT d 254 44 [some (.ref 183), some (.int (nI e)), some (.int (nI q)), some (.int (nI od)), some (.long (lN (10 ^ i))), none, some (.long 0), none, some (.int (nI i)), none, none, none, none] [] k Q := by
  intro j
  induction j with
  | zero =>
    intro i _ hi  hq
    have hN : i = q := by omega
    refine t_go (op := o_iload 46 8) (fe_X12_chance 44) (fun _ _ => rfl) ?_
    refine t_go (op := o_iload 47 2) (fe_X12_chance 46) (fun _ _ => rfl) ?_
    refine t_ite (op := o_icmp 50 64 (fun x y => y ≤ x) (fun _ _ => inferInstance)) (fe_X12_chance 47) g_icmp (fun c1 => ?_) (fun c1 => ?_)
    · have eN : i = q := hN
      subst eN
      exact hq
    · exact absurd (by rw [hN]; exact Int32.le_refl _) c1
  | succ j ih =>
    intro i _ hi  hq
    have hi7 : i < q := by omega
    refine t_go (op := o_iload 46 8) (fe_X12_chance 44) (fun _ _ => rfl) ?_
    refine t_go (op := o_iload 47 2) (fe_X12_chance 46) (fun _ _ => rfl) ?_
    refine t_ite (op := o_icmp 50 64 (fun x y => y ≤ x) (fun _ _ => inferInstance)) (fe_X12_chance 47) g_icmp (fun c1 => ?_) (fun c1 => ?_)
    · exact absurd c1 (nI_ge hi7 (by omega))
    · refine t_go (op := o_lload 52 4) (fe_X12_chance 50) (fun _ _ => rfl) ?_
      refine t_go (op := o_cl 55 10) (fe_X12_chance 52) (fun _ _ => rfl) ?_
      refine t_go (op := o_l2 56 (fun x y => x * y)) (fe_X12_chance 55) (fun _ _ => rfl) ?_
      refine t_go (op := o_lstore 58 4) (fe_X12_chance 56) (fun _ _ => rfl) ?_
      refine t_go (op := o_iinc 61 8 1) (fe_X12_chance 58) (fun _ _ => rfl) ?_
      refine t_go (op := o_goto 44) (fe_X12_chance 61) (fun _ _ => rfl) ?_
      rw [show (fun x y : Int64 => x * y) (lN (10 ^ i)) 10 = lN (10 ^ (i + 1)) from (lN_mul (10 ^ i) 10).trans (by rw [Nat.pow_succ])]
      rw [nI_1]
      exact ih (i + 1) () (by omega) hq
theorem lr_chC {d : Nat} {k h : AHP} {m n g T : Nat} (hP : CP k h g n m) (hT : T < 98000) {e q od w : Nat} (hq6 : q ≤ 6) (ho : od ≤ 10) {A Z : Int64} {Q : Option Value → AHP → Prop} : ∀ (j i : Nat) (S : AHP) (p : Nat) (G : FS) (x12 : Option Value), i + j = q → Zf trl k S → RB (S.1 197) 882 G → FW m (T + i) G → (∀ S2 x11 x12, Zf trl k S2 → RB (S2.1 197) 882 (it (chN h g n od w) j i (p, G)).2 → TT (d + 4) 254 159 [some (.ref 183), some (.int (nI e)), some (.int (nI q)), some (.int (nI od)), some (.long A), none, some (.long Z), none, some (.int (nI w)), some (.long (lN (it (chN h g n od w) j i (p, G)).1)), none, x11, x12] [] S2 Q) → TT (d + 4) 254 85 [some (.ref 183), some (.int (nI e)), some (.int (nI q)), some (.int (nI od)), some (.long A), none, some (.long Z), none, some (.int (nI w)), some (.long (lN p)), none, some (.int (nI i)), x12] [] S Q := by
  intro j
  induction j with
  | zero =>
    intro i S p G x12 hi hz hBt hWt hq
    have hN : i = q := by omega
    have hm := hP.1.2.2.1
    have hS := (hP.zf hz).1.1
    have hE := (hP.zf hz).1.2.1
    refine t_go (op := o_iload 87 11) (fe_X12_chance 85) (fun _ _ => rfl) ?_
    refine t_go (op := o_iload 88 2) (fe_X12_chance 87) (fun _ _ => rfl) ?_
    refine t_ite (op := o_icmp 91 159 (fun x y => y ≤ x) (fun _ _ => inferInstance)) (fe_X12_chance 88) g_icmp (fun c1 => ?_) (fun c1 => ?_)
    · exact hq S _ _ hz hBt
    · exact absurd (by rw [hN]; exact Int32.le_refl _) c1
  | succ j ih =>
    intro i S p G x12 hi hz hBt hWt hq
    have hi7 : i < q := by omega
    have hm := hP.1.2.2.1
    have hS := (hP.zf hz).1.1
    have hE := (hP.zf hz).1.2.1
    refine t_go (op := o_iload 87 11) (fe_X12_chance 85) (fun _ _ => rfl) ?_
    refine t_go (op := o_iload 88 2) (fe_X12_chance 87) (fun _ _ => rfl) ?_
    refine t_ite (op := o_icmp 91 159 (fun x y => y ≤ x) (fun _ _ => inferInstance)) (fe_X12_chance 88) g_icmp (fun c1 => ?_) (fun c1 => ?_)
    · exact absurd c1 (nI_ge hi7 (by omega))
    · refine t_go (op := o_iload 93 8) (fe_X12_chance 91) (fun _ _ => rfl) ?_
      refine t_go (op := o_iload 95 11) (fe_X12_chance 93) (fun _ _ => rfl) ?_
      refine t_go (op := o_i2 96 (fun x y => x >>> (y &&& 31))) (fe_X12_chance 95) (fun _ _ => rfl) ?_
      refine t_go (op := o_ci 97 1) (fe_X12_chance 96) (fun _ _ => rfl) ?_
      refine t_go (op := o_i2 98 (fun x y => x &&& y)) (fe_X12_chance 97) (fun _ _ => rfl) ?_
      refine t_go (op := o_ci 99 1) (fe_X12_chance 98) (fun _ _ => rfl) ?_
      refine t_ite (op := o_icmp 106 102 (fun x y => x = y) (fun _ _ => inferInstance)) (fe_X12_chance 99) g_icmp (fun c2 => ?_) (fun c2 => ?_)
      · refine t_go (op := o_ci 103 1) (fe_X12_chance 102) (fun _ _ => rfl) ?_
        refine t_go (op := o_goto 107) (fe_X12_chance 103) (fun _ _ => rfl) ?_
        refine t_go (op := o_istore 109 12) (fe_X12_chance 107) (fun _ _ => rfl) ?_
        refine t_go (op := o_lload 111 9) (fe_X12_chance 109) (fun _ _ => rfl) ?_
        refine t_go (op := o_iload 113 12) (fe_X12_chance 111) (fun _ _ => rfl) ?_
        refine t_ite (op := o_if 116 121 (fun x => x = 0) (fun _ => inferInstance)) (fe_X12_chance 113) g_if (fun c3 => ?_) (fun c3 => ?_)
        · exact absurd c3 (by decide)
        · clear c3
          refine t_go (op := o_iload 117 3) (fe_X12_chance 116) (fun _ _ => rfl) ?_
          refine t_go (op := o_i2l 118) (fe_X12_chance 117) (fun _ _ => rfl) ?_
          refine t_go (op := o_goto 126) (fe_X12_chance 118) (fun _ _ => rfl) ?_
          refine t_go (op := o_l2 127 (fun x y => x * y)) (fe_X12_chance 126) (fun _ _ => rfl) ?_
          refine t_go (op := o_lstore 129 9) (fe_X12_chance 127) (fun _ _ => rfl) ?_
          refine t_go (op := o_aload 130 0) (fe_X12_chance 129) (fun _ _ => rfl) ?_
          refine t_go (op := o_ci 133 882) (fe_X12_chance 130) (fun _ _ => rfl) ?_
          refine t_go (op := o_iload 135 12) (fe_X12_chance 133) (fun _ _ => rfl) ?_
          refine t_ite (op := o_if 138 148 (fun x => x = 0) (fun _ => inferInstance)) (fe_X12_chance 135) g_if (fun c4 => ?_) (fun c4 => ?_)
          · exact absurd c4 (by decide)
          · clear c4
            refine t_go (op := o_aload 139 0) (fe_X12_chance 138) (fun _ _ => rfl) ?_
            refine t_go (op := o_ci 142 882) (fe_X12_chance 139) (fun _ _ => rfl) ?_
            refine t_call (op := o_callV 145 213 2 11) (fe_X12_chance 142) (g_callV hS (show (lay 183).1 = 11 by decide) (by decide) rfl rfl rfl (Nat.le_of_ble_eq_true rfl)) ?_
            refine M_eq (r_draughtOf (b := 882) hS (hP.zf hz).2 hBt (by decide) hWt.2 (by omega)) ?_
            refine t_go (op := o_goto 149) (fe_X12_chance 145) (fun _ _ => rfl) ?_
            refine t_call (op := o_callV 152 214 3 11) (fe_X12_chance 149) (g_callV hS (show (lay 183).1 = 11 by decide) (by decide) rfl rfl rfl (Nat.le_of_ble_eq_true rfl)) ?_
            refine M_mono ?_ (r_passes (b := 882) (hP.zf hz).1 hWt.1 hBt (by decide) (air_eq (h := h) (g := g) hWt.1))
            rintro _ h2 ⟨rfl, hz2, hB2⟩
            replace hz := hz.tr (hz2.mono trl_b)
            clear hz2
            have hS := (hP.zf hz).1.1
            have hE := (hP.zf hz).1.2.1
            refine t_go (op := o_popI 153) (fe_X12_chance 152) (fun _ _ => rfl) ?_
            refine t_go (op := o_iinc 156 11 1) (fe_X12_chance 153) (fun _ _ => rfl) ?_
            refine t_go (op := o_goto 85) (fe_X12_chance 156) (fun _ _ => rfl) ?_
            rw [show (fun x y : Int64 => x * y) (lN p) (Int32.toInt64 (nI od)) = lN (p * od) from (congrArg (lN p * ·) (nI_l (by omega))).trans (lN_mul p od)]
            rw [it_step, chN_t c2] at hq
            rw [nI_1]
            exact ih (i + 1) _ _ _ _ (by omega) hz hB2 (FW_HB hm hWt) hq
      · refine t_go (op := o_ci 107 0) (fe_X12_chance 106) (fun _ _ => rfl) ?_
        refine t_go (op := o_istore 109 12) (fe_X12_chance 107) (fun _ _ => rfl) ?_
        refine t_go (op := o_lload 111 9) (fe_X12_chance 109) (fun _ _ => rfl) ?_
        refine t_go (op := o_iload 113 12) (fe_X12_chance 111) (fun _ _ => rfl) ?_
        refine t_ite (op := o_if 116 121 (fun x => x = 0) (fun _ => inferInstance)) (fe_X12_chance 113) g_if (fun c5 => ?_) (fun c5 => ?_)
        · clear c5
          refine t_go (op := o_ci 123 10) (fe_X12_chance 121) (fun _ _ => rfl) ?_
          refine t_go (op := o_iload 124 3) (fe_X12_chance 123) (fun _ _ => rfl) ?_
          refine t_go (op := o_i2 125 (fun x y => x - y)) (fe_X12_chance 124) (fun _ _ => rfl) ?_
          refine t_go (op := o_i2l 126) (fe_X12_chance 125) (fun _ _ => rfl) ?_
          refine t_go (op := o_l2 127 (fun x y => x * y)) (fe_X12_chance 126) (fun _ _ => rfl) ?_
          refine t_go (op := o_lstore 129 9) (fe_X12_chance 127) (fun _ _ => rfl) ?_
          refine t_go (op := o_aload 130 0) (fe_X12_chance 129) (fun _ _ => rfl) ?_
          refine t_go (op := o_ci 133 882) (fe_X12_chance 130) (fun _ _ => rfl) ?_
          refine t_go (op := o_iload 135 12) (fe_X12_chance 133) (fun _ _ => rfl) ?_
          refine t_ite (op := o_if 138 148 (fun x => x = 0) (fun _ => inferInstance)) (fe_X12_chance 135) g_if (fun c6 => ?_) (fun c6 => ?_)
          · clear c6
            refine t_go (op := o_ci 149 0) (fe_X12_chance 148) (fun _ _ => rfl) ?_
            refine t_call (op := o_callV 152 214 3 11) (fe_X12_chance 149) (g_callV hS (show (lay 183).1 = 11 by decide) (by decide) rfl rfl rfl (Nat.le_of_ble_eq_true rfl)) ?_
            refine M_mono ?_ (r_passes (b := 882) (hP.zf hz).1 hWt.1 hBt (by decide) (air0 (h := h) (g := g)))
            rintro _ h2 ⟨rfl, hz2, hB2⟩
            replace hz := hz.tr (hz2.mono trl_b)
            clear hz2
            have hS := (hP.zf hz).1.1
            have hE := (hP.zf hz).1.2.1
            refine t_go (op := o_popI 153) (fe_X12_chance 152) (fun _ _ => rfl) ?_
            refine t_go (op := o_iinc 156 11 1) (fe_X12_chance 153) (fun _ _ => rfl) ?_
            refine t_go (op := o_goto 85) (fe_X12_chance 156) (fun _ _ => rfl) ?_
            rw [show (fun x y : Int64 => x * y) (lN p) (Int32.toInt64 ((fun x y : Int32 => x - y) 10 (nI od))) = lN (p * (10 - od)) from (congrArg (lN p * ·) ((congrArg Int32.toInt64 (nIs (a := 10) (b := od) rfl rfl ho)).trans (nI_l (by omega)))).trans (lN_mul p (10 - od))]
            rw [it_step, chN_f c2] at hq
            rw [nI_1]
            exact ih (i + 1) _ _ _ _ (by omega) hz hB2 (FW_HB hm hWt) hq
          · exact absurd (by decide) c6
        · exact absurd (by decide) c5
theorem lr_chB {d : Nat} {k h : AHP} {m n g T : Nat} {F : FS} (hP : CP k h g n m) (hW : FW m T F) (hB0 : RB (k.1 197) 0 F) (hT : T < 90000) {e q od : Nat} (he : e < m) (hq6 : q ≤ 6) (ho : od ≤ 10) {A : Int64} {Q : Option Value → AHP → Prop} : ∀ (j i : Nat) (S : AHP) (z : Nat) (x9 x10 x11 x12 : Option Value), i + j = (2 ^ q) → Zf trl k S → (∀ S2 x8 x9 x10 x11 x12, Zf trl k S2 → TT (d + 4) 254 187 [some (.ref 183), some (.int (nI e)), some (.int (nI q)), some (.int (nI od)), some (.long A), none, some (.long (lN (it (milN h g n F od e q) j i z))), none, x8, x9, x10, x11, x12] [] S2 Q) → TT (d + 4) 254 67 [some (.ref 183), some (.int (nI e)), some (.int (nI q)), some (.int (nI od)), some (.long A), none, some (.long (lN z)), none, some (.int (nI i)), x9, x10, x11, x12] [] S Q := by
  intro j
  induction j with
  | zero =>
    intro i S z x9 x10 x11 x12 hi hz hq
    have hN : i = (2 ^ q) := by omega
    have hm := hP.1.2.2.1
    have hS := (hP.zf hz).1.1
    have hE := (hP.zf hz).1.2.1
    refine t_go (op := o_iload 69 8) (fe_X12_chance 67) (fun _ _ => rfl) ?_
    refine t_go (op := o_ci 70 1) (fe_X12_chance 69) (fun _ _ => rfl) ?_
    refine t_go (op := o_iload 71 2) (fe_X12_chance 70) (fun _ _ => rfl) ?_
    refine t_go (op := o_i2 72 (fun x y => x <<< (y &&& 31))) (fe_X12_chance 71) (fun _ _ => rfl) ?_
    refine t_ite (op := o_icmp 75 187 (fun x y => y ≤ x) (fun _ _ => inferInstance)) (fe_X12_chance 72) g_icmp (fun c1 => ?_) (fun c1 => ?_)
    · exact hq S _ _ _ _ _ hz
    · exact absurd (show (1 : Int32) <<< (nI q &&& 31) ≤ nI i by rw [hN, shl7 q (by omega)]; exact Int32.le_refl _) c1
  | succ j ih =>
    intro i S z x9 x10 x11 x12 hi hz hq
    have hi7 : i < 2 ^ q := by omega
    have hm := hP.1.2.2.1
    have hS := (hP.zf hz).1.1
    have hE := (hP.zf hz).1.2.1
    refine t_go (op := o_iload 69 8) (fe_X12_chance 67) (fun _ _ => rfl) ?_
    refine t_go (op := o_ci 70 1) (fe_X12_chance 69) (fun _ _ => rfl) ?_
    refine t_go (op := o_iload 71 2) (fe_X12_chance 70) (fun _ _ => rfl) ?_
    refine t_go (op := o_i2 72 (fun x y => x <<< (y &&& 31))) (fe_X12_chance 71) (fun _ _ => rfl) ?_
    refine t_ite (op := o_icmp 75 187 (fun x y => y ≤ x) (fun _ _ => inferInstance)) (fe_X12_chance 72) g_icmp (fun c1 => ?_) (fun c1 => ?_)
    · exact absurd c1 (show ¬ (1 : Int32) <<< (nI q &&& 31) ≤ nI i by rw [shl7 q (by omega)]; exact nI_ge hi7 (by have : 2 ^ q ≤ 2 ^ 7 := Nat.pow_le_pow_right (by decide) (by omega); omega))
    · refine t_go (op := o_aload 76 0) (fe_X12_chance 75) (fun _ _ => rfl) ?_
      refine t_call (op := o_callV 79 229 1 11) (fe_X12_chance 76) (g_callV hS (show (lay 183).1 = 11 by decide) (by decide) rfl rfl rfl (Nat.le_of_ble_eq_true rfl)) ?_
      refine M_mono ?_ (r_triesNow (hP.zf hz).1.1 (hB0.zf hz trl0))
      rintro _ h2 ⟨rfl, hz2, hBt⟩
      replace hz := hz.tr hz2
      clear hz2
      have hS := (hP.zf hz).1.1
      have hE := (hP.zf hz).1.2.1
      refine t_go (op := o_cl 80 1) (fe_X12_chance 79) (fun _ _ => rfl) ?_
      refine t_go (op := o_lstore 82 9) (fe_X12_chance 80) (fun _ _ => rfl) ?_
      refine t_go (op := o_ci 83 0) (fe_X12_chance 82) (fun _ _ => rfl) ?_
      refine t_go (op := o_istore 85 11) (fe_X12_chance 83) (fun _ _ => rfl) ?_
      refine lr_chC hP (show T < 98000 by omega) hq6 ho q 0 _ 1 F _ (by omega) hz hBt (FW_le hW (by omega)) fun S2 x11 x12 hz hBt => ?_
      have hWt := FW_ch (h := h) (g := g) (n := n) (od := od) (w := i) hm q 0 1 T F hW
      have hS := (hP.zf hz).1.1
      have hE := (hP.zf hz).1.2.1
      refine t_go (op := o_lload 161 6) (fe_X12_chance 159) (fun _ _ => rfl) ?_
      refine t_go (op := o_aload 162 0) (fe_X12_chance 161) (fun _ _ => rfl) ?_
      refine t_go (op := o_ci 165 882) (fe_X12_chance 162) (fun _ _ => rfl) ?_
      refine t_go (op := o_iload 166 1) (fe_X12_chance 165) (fun _ _ => rfl) ?_
      refine t_call (op := o_callV 169 204 3 11) (fe_X12_chance 166) (g_callV hS (show (lay 183).1 = 11 by decide) (by decide) rfl rfl rfl (Nat.le_of_ble_eq_true rfl)) ?_
      refine M_eq (r_isAlight (b := 882) hS hWt.1 hBt (by decide) (e := e) (by omega) hm ((hP.zf hz).1.2.2.2.1 _ (by omega)) (hP.zf hz).1.2.2.2.2.1) ?_
      refine t_ite (op := o_if 172 177 (fun x => x = 0) (fun _ => inferInstance)) (fe_X12_chance 169) g_if (fun c2 => ?_) (fun c2 => ?_)
      · replace c2 := b2i_z c2
        refine t_go (op := o_cl 178 0) (fe_X12_chance 177) (fun _ _ => rfl) ?_
        refine t_go (op := o_l2 179 (fun x y => x + y)) (fe_X12_chance 178) (fun _ _ => rfl) ?_
        refine t_go (op := o_lstore 181 6) (fe_X12_chance 179) (fun _ _ => rfl) ?_
        refine t_go (op := o_iinc 184 8 1) (fe_X12_chance 181) (fun _ _ => rfl) ?_
        refine t_go (op := o_goto 67) (fe_X12_chance 184) (fun _ _ => rfl) ?_
        rw [show (fun x y : Int64 => x + y) (lN z) 0 = lN z from Int64.add_zero _]
        have eM : milN h g n F od e q i z = _ := if_neg (fun r => c2 ((litB_bit (by omega)).mp r))
        rw [it_step, eM] at hq
        rw [nI_1]
        exact ih (i + 1) _ _ _ _ _ _ (by omega) hz hq
      · replace c2 := b2i_nn c2
        refine t_go (op := o_lload 174 9) (fe_X12_chance 172) (fun _ _ => rfl) ?_
        refine t_go (op := o_goto 178) (fe_X12_chance 174) (fun _ _ => rfl) ?_
        refine t_go (op := o_l2 179 (fun x y => x + y)) (fe_X12_chance 178) (fun _ _ => rfl) ?_
        refine t_go (op := o_lstore 181 6) (fe_X12_chance 179) (fun _ _ => rfl) ?_
        refine t_go (op := o_iinc 184 8 1) (fe_X12_chance 181) (fun _ _ => rfl) ?_
        refine t_go (op := o_goto 67) (fe_X12_chance 184) (fun _ _ => rfl) ?_
        rw [show (fun x y : Int64 => x + y) (lN z) (lN (it (chN h g n od i) q 0 (1, F)).1) = lN (z + (it (chN h g n od i) q 0 (1, F)).1) from lN_add _ _]
        have eM : milN h g n F od e q i z = _ := if_pos ((litB_bit (by omega)).mpr c2)
        rw [it_step, eM] at hq
        rw [nI_1]
        exact ih (i + 1) _ _ _ _ _ _ (by omega) hz hq
theorem mil_end {s q : Nat} (hq : q ≤ 6) (hs : s ≤ 64 * 10 ^ 6) : (Int64.toInt32 ((fun x y : Int64 => x / y) ((fun x y : Int64 => x * y) (lN s) 1000000) (lN (10 ^ q)))) = nI (s * 10 ^ (6 - q)) := by
  show (lN s * lN 1000000 / lN (10 ^ q)).toInt32 = _
  have h1 : 0 < 10 ^ q := Nat.pow_pos (by decide)
  have h2 : 10 ^ q ≤ 10 ^ 6 := Nat.pow_le_pow_right (by decide) hq
  have h3 : 10 ^ (6 - q) * 10 ^ q = 1000000 := by rw [← Nat.pow_add, show 6 - q + q = 6 by omega]
  rw [lN_mul, pk_lDiv (by omega) h1 (by omega), lN_i, ← h3, ← Nat.mul_assoc, Nat.mul_div_cancel _ h1]
theorem r_chance {d : Nat} {k h : AHP} {m n g T : Nat} {F : FS} (hP : CP k h g n m) (hW : FW m T F) (hB0 : RB (k.1 197) 0 F) (hT : T < 90000) {e q od : Nat} (he : e < m) (hq1 : 1 ≤ q) (hq6 : q ≤ 6) (ho : od ≤ 10) : MM (d + 4) 254 [.ref 183, .int (nI e), .int (nI q), .int (nI od)] k (fun v h2 => v = some (.int (nI (it (milN h g n F od e q) (2 ^ q) 0 0 * 10 ^ (6 - q)))) ∧ Zf trl k h2) := by
  refine ⟨Nat.le_of_ble_eq_true rfl, ?_⟩
  have hm := hP.1.2.2.1
  have hS := hP.1.1
  have hE := hP.1.2.1
  refine t_go (op := o_aload 1 0) (fe_X12_chance 0) (fun _ _ => rfl) ?_
  refine t_go (op := o_ci 2 0) (fe_X12_chance 1) (fun _ _ => rfl) ?_
  refine t_go (op := o_putI 5 11 0) (fe_X12_chance 2) (g_putI hS (show (lay 183).1 = 11 by decide) (by decide)) ?_
  have hz : Zf trl k (sI k 183 0 0) := Zf_thr Zf.rf
  have hS := (hP.zf hz).1.1
  have hE := (hP.zf hz).1.2.1
  refine t_go (op := o_aload 6 0) (fe_X12_chance 5) (fun _ _ => rfl) ?_
  refine t_go (op := o_iload 7 1) (fe_X12_chance 6) (fun _ _ => rfl) ?_
  refine t_call (op := o_callV 10 202 2 11) (fe_X12_chance 7) (g_callV hS (show (lay 183).1 = 11 by decide) (by decide) rfl rfl rfl (Nat.le_of_ble_eq_true rfl)) ?_
  refine M_eq (r_isEmber hS hE) ?_
  refine t_ite (op := o_if 13 33 (fun x => x = 0) (fun _ => inferInstance)) (fe_X12_chance 10) g_if (fun c1 => ?_) (fun c1 => ?_)
  · exact absurd (isE he hm) (b2i_z c1)
  · replace c1 := b2i_nn c1
    refine t_go (op := o_iload 14 2) (fe_X12_chance 13) (fun _ _ => rfl) ?_
    refine t_go (op := o_ci 15 1) (fe_X12_chance 14) (fun _ _ => rfl) ?_
    refine t_go (op := o_ci 17 6) (fe_X12_chance 15) (fun _ _ => rfl) ?_
    refine t_call (op := o_callS 20 173 3) (fe_X12_chance 17) (g_callS rfl rfl rfl (Nat.le_of_ble_eq_true rfl)) ?_
    refine M_eq r_within ?_
    refine t_ite (op := o_if 23 33 (fun x => x = 0) (fun _ => inferInstance)) (fe_X12_chance 20) g_if (fun c2 => ?_) (fun c2 => ?_)
    · exact absurd (show ¬ nI q < 1 ∧ ¬ (6 : Int32) < nI q from ⟨nI_nlt (b := 1) hq1 (by omega), nI_nlt (a := 6) (by omega) (by omega)⟩) (b2i_z c2)
    · replace c2 := b2i_nn c2
      refine t_go (op := o_iload 24 3) (fe_X12_chance 23) (fun _ _ => rfl) ?_
      refine t_go (op := o_ci 25 0) (fe_X12_chance 24) (fun _ _ => rfl) ?_
      refine t_go (op := o_ci 27 10) (fe_X12_chance 25) (fun _ _ => rfl) ?_
      refine t_call (op := o_callS 30 173 3) (fe_X12_chance 27) (g_callS rfl rfl rfl (Nat.le_of_ble_eq_true rfl)) ?_
      refine M_eq r_within ?_
      refine t_ite (op := o_if 35 33 (fun x => x = 0) (fun _ => inferInstance)) (fe_X12_chance 30) g_if (fun c3 => ?_) (fun c3 => ?_)
      · exact absurd (show ¬ nI od < 0 ∧ ¬ (10 : Int32) < nI od from ⟨nI_pos (by omega), nI_nlt (a := 10) (by omega) (by omega)⟩) (b2i_z c3)
      · replace c3 := b2i_nn c3
        refine t_go (op := o_cl 36 1) (fe_X12_chance 35) (fun _ _ => rfl) ?_
        refine t_go (op := o_lstore 38 4) (fe_X12_chance 36) (fun _ _ => rfl) ?_
        refine t_go (op := o_cl 39 0) (fe_X12_chance 38) (fun _ _ => rfl) ?_
        refine t_go (op := o_lstore 41 6) (fe_X12_chance 39) (fun _ _ => rfl) ?_
        refine t_go (op := o_ci 42 0) (fe_X12_chance 41) (fun _ _ => rfl) ?_
        refine t_go (op := o_istore 44 8) (fe_X12_chance 42) (fun _ _ => rfl) ?_
        refine lr_chA hq6 q 0 () (by omega) ?_
        refine t_go (op := o_ci 65 0) (fe_X12_chance 64) (fun _ _ => rfl) ?_
        refine t_go (op := o_istore 67 8) (fe_X12_chance 65) (fun _ _ => rfl) ?_
        refine lr_chB hP hW hB0 hT he hq6 ho (2 ^ q) 0 _ 0 _ _ _ _ (by omega) hz fun S2 x8 x9 x10 x11 x12 hz => ?_
        refine t_go (op := o_lload 189 6) (fe_X12_chance 187) (fun _ _ => rfl) ?_
        refine t_go (op := o_cl 192 1000000) (fe_X12_chance 189) (fun _ _ => rfl) ?_
        refine t_go (op := o_l2 193 (fun x y => x * y)) (fe_X12_chance 192) (fun _ _ => rfl) ?_
        refine t_go (op := o_lload 195 4) (fe_X12_chance 193) (fun _ _ => rfl) ?_
        refine t_go (op := o_l2d 196 (fun x y => x / y)) (fe_X12_chance 195) (g_l2d (show ¬ lN (10 ^ q) = 0 from fun e0 => by have h2 : 10 ^ q ≤ 10 ^ 6 := Nat.pow_le_pow_right (by decide) hq6; have h1 : 0 < 10 ^ q := Nat.pow_pos (by decide); have := (pk_lEQ (a := 10 ^ q) (b := 0) (by omega) (by decide)).mp e0; omega)) ?_
        refine t_go (op := o_l2i 197) (fe_X12_chance 196) (fun _ _ => rfl) ?_
        refine t_ret (op := o_iret) (fe_X12_chance 197) (fun _ _ => rfl) ?_
        have hb := mil_le (h := h) (g := g) (n := n) (F := F) (e := e) (q := q) ho (2 ^ q) 0 0
        have hb2 : 2 ^ q * 10 ^ q ≤ 2 ^ 6 * 10 ^ 6 := Nat.mul_le_mul (Nat.pow_le_pow_right (by decide) hq6) (Nat.pow_le_pow_right (by decide) hq6)
        exact ⟨by rw [mil_end hq6 (by omega)], hz⟩
theorem r_chanceF {d : Nat} {k h : AHP} {m n g T : Nat} {F : FS} (hP : CP k h g n m) (hW : FW m T F) (hB0 : RB (k.1 197) 0 F) (hT : T < 90000) {x y z : Int32} (hn : ¬ ((¬ x < 0 ∧ x < nI m) ∧ (¬ y < 1 ∧ ¬ 6 < y) ∧ (¬ z < 0 ∧ ¬ 10 < z))) : MM (d + 4) 254 [.ref 183, .int x, .int y, .int z] k (fun v h2 => v = some (.int (-1)) ∧ Zf trl k h2) := by
  refine ⟨Nat.le_of_ble_eq_true rfl, ?_⟩
  have hm := hP.1.2.2.1
  have hS := hP.1.1
  have hE := hP.1.2.1
  refine t_go (op := o_aload 1 0) (fe_X12_chance 0) (fun _ _ => rfl) ?_
  refine t_go (op := o_ci 2 0) (fe_X12_chance 1) (fun _ _ => rfl) ?_
  refine t_go (op := o_putI 5 11 0) (fe_X12_chance 2) (g_putI hS (show (lay 183).1 = 11 by decide) (by decide)) ?_
  have hz : Zf trl k (sI k 183 0 0) := Zf_thr Zf.rf
  have hS := (hP.zf hz).1.1
  have hE := (hP.zf hz).1.2.1
  refine t_go (op := o_aload 6 0) (fe_X12_chance 5) (fun _ _ => rfl) ?_
  refine t_go (op := o_iload 7 1) (fe_X12_chance 6) (fun _ _ => rfl) ?_
  refine t_call (op := o_callV 10 202 2 11) (fe_X12_chance 7) (g_callV hS (show (lay 183).1 = 11 by decide) (by decide) rfl rfl rfl (Nat.le_of_ble_eq_true rfl)) ?_
  refine M_eq (r_isEmber hS hE) ?_
  refine t_ite (op := o_if 13 33 (fun x => x = 0) (fun _ => inferInstance)) (fe_X12_chance 10) g_if (fun c1 => ?_) (fun c1 => ?_)
  · replace c1 := b2i_z c1
    refine t_go (op := o_ci 34 (-1)) (fe_X12_chance 33) (fun _ _ => rfl) ?_
    refine t_ret (op := o_iret) (fe_X12_chance 34) (fun _ _ => rfl) ?_
    exact ⟨rfl, hz⟩
  · replace c1 := b2i_nn c1
    refine t_go (op := o_iload 14 2) (fe_X12_chance 13) (fun _ _ => rfl) ?_
    refine t_go (op := o_ci 15 1) (fe_X12_chance 14) (fun _ _ => rfl) ?_
    refine t_go (op := o_ci 17 6) (fe_X12_chance 15) (fun _ _ => rfl) ?_
    refine t_call (op := o_callS 20 173 3) (fe_X12_chance 17) (g_callS rfl rfl rfl (Nat.le_of_ble_eq_true rfl)) ?_
    refine M_eq r_within ?_
    refine t_ite (op := o_if 23 33 (fun x => x = 0) (fun _ => inferInstance)) (fe_X12_chance 20) g_if (fun c2 => ?_) (fun c2 => ?_)
    · replace c2 := b2i_z c2
      refine t_go (op := o_ci 34 (-1)) (fe_X12_chance 33) (fun _ _ => rfl) ?_
      refine t_ret (op := o_iret) (fe_X12_chance 34) (fun _ _ => rfl) ?_
      exact ⟨rfl, hz⟩
    · replace c2 := b2i_nn c2
      refine t_go (op := o_iload 24 3) (fe_X12_chance 23) (fun _ _ => rfl) ?_
      refine t_go (op := o_ci 25 0) (fe_X12_chance 24) (fun _ _ => rfl) ?_
      refine t_go (op := o_ci 27 10) (fe_X12_chance 25) (fun _ _ => rfl) ?_
      refine t_call (op := o_callS 30 173 3) (fe_X12_chance 27) (g_callS rfl rfl rfl (Nat.le_of_ble_eq_true rfl)) ?_
      refine M_eq r_within ?_
      refine t_ite (op := o_if 35 33 (fun x => x = 0) (fun _ => inferInstance)) (fe_X12_chance 30) g_if (fun c3 => ?_) (fun c3 => ?_)
      · replace c3 := b2i_z c3
        refine t_go (op := o_ci 34 (-1)) (fe_X12_chance 33) (fun _ _ => rfl) ?_
        refine t_ret (op := o_iret) (fe_X12_chance 34) (fun _ _ => rfl) ?_
        exact ⟨rfl, hz⟩
      · exact absurd ⟨c1, c2, b2i_nn c3⟩ hn
