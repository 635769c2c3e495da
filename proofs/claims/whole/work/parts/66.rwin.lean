/-! ===== the reference: draws, winters ===== -/
theorem l_mask (n : Nat) : lN n &&& 2147483647 = lN (n % 2147483648) := by
  refine Int64.toBitVec_inj.mp ?_
  rw [Int64.toBitVec_and]
  show BitVec.ofNat 64 n &&& BitVec.ofNat 64 2147483647 = BitVec.ofNat 64 (n % 2147483648)
  refine BitVec.eq_of_toNat_eq ?_
  rw [BitVec.toNat_and, BitVec.toNat_ofNat, BitVec.toNat_ofNat, BitVec.toNat_ofNat, show 2147483647 % 2 ^ 64 = 2 ^ 31 - 1 from rfl, Nat.and_two_pow_sub_one_eq_mod]
  omega
def drN (s : Nat) : Nat := (s * 1103515245 + 12345) % 2147483648
theorem drN_lt (s : Nat) : drN s < 2147483648 := Nat.mod_lt _ (by decide)
theorem draw_n {s : Nat} : drawN (lN s) = lN (drN s) := by
  unfold drawN
  rw [show lN s * 1103515245 + 12345 = lN (s * 1103515245 + 12345) from by rw [show lN s * 1103515245 = lN (s * 1103515245) from lN_mul s 1103515245]; exact lN_add _ 12345, l_mask]
  rfl
theorem draw_r {s : Nat} (hs : s < 2147483648) : lN s * 1103515245 + 12345 - (lN s * 1103515245 + 12345) / 2147483648 * 2147483648 = drawN (lN s) := by
  rw [draw_n, show lN s * 1103515245 + 12345 = lN (s * 1103515245 + 12345) from by rw [show lN s * 1103515245 = lN (s * 1103515245) from lN_mul s 1103515245]; exact lN_add _ 12345]
  exact pk_lRem (b := 2147483648) (by omega) (by decide) (by decide)
theorem drawV_n {s b : Nat} (hs : s < 2147483648) (hb : 1 ≤ b) (hb2 : b ≤ 100) : drawV (lN s) (nI b) = nI (s / 65536 % b) := by
  unfold drawV
  rw [if_neg (show ¬ nI b ≤ 0 from fun q => by have := (nI_leI (a := b) (b := 0) (by omega) (by omega)).mp q; omega), nI_l (by omega)]
  unfold lremI
  rw [show lN s / 65536 = lN (s / 65536) from pk_lDiv (b := 65536) (by omega) (by decide) (by decide), pk_lRem (by have := Nat.div_le_self s 65536; omega) hb (by omega), lN_i]
theorem Zf.g2 {A : Nat → Prop} {k S : AHP} {u v : Int64} (hz : Zf A (sJ k 183 27 u) S) : Zf A (sJ k 183 27 v) (sJ S 183 27 v) := by
  refine ⟨hz.1, fun a _ => ?_, hz.2.2.1, hz.2.2.2.1, hz.2.2.2.2⟩
  have := hz.2.1 a rfl
  funext i
  have h1 := congrFun this i
  simp only [sJ, up2] at h1 ⊢
  by_cases ha : a = 183
  · by_cases hi : i = 27
    · simp [ha, hi]
    · simp [ha, hi] at h1 ⊢; exact h1
  · simp [ha] at h1 ⊢; exact h1
theorem rdJ {k : AHP} {v : Int64} : (sJ k 183 27 v).2.1 183 27 = v := by simp [sJ, up2]
theorem Zf.at_g {A : Nat → Prop} {k S : AHP} {u : Int64} (hz : Zf A (sJ k 183 27 u) S) : S.2.1 183 27 = u := by rw [hz.g 183]; exact rdJ
theorem CP.sj {k h : AHP} {g n m : Nat} {u : Int64} (hP : CP k h g n m) : CP (sJ k 183 27 u) h g n m := hP
theorem r_draw {d : Nat} {k : AHP} {s s1 v1 b : Nat} (hS : Std k) (hs : k.2.1 183 27 = lN s) (hs2 : s < 2147483648) (hb : 1 ≤ b) (hb2 : b ≤ 100) (e1 : drN s = s1) (e2 : s1 / 65536 % b = v1) : MM d 265 [.ref 183, .int (nI b)] k (fun v h2 => v = some (.int (nI v1)) ∧ h2 = sJ k 183 27 (lN s1)) := by
  refine ⟨Nat.le_of_ble_eq_true rfl, ?_⟩
  refine t_go (op := o_aload 1 0) (fe_X12_draw 0) (fun _ _ => rfl) ?_
  refine t_go (op := o_aload 2 0) (fe_X12_draw 1) (fun _ _ => rfl) ?_
  refine t_go (op := o_getJ 5 11 27) (fe_X12_draw 2) (g_getJ hS (show (lay 183).1 = 11 by decide) (by decide)) ?_
  rw [hs]
  refine t_go (op := o_cl 8 1103515245) (fe_X12_draw 5) (fun _ _ => rfl) ?_
  refine t_go (op := o_l2 9 (fun x y => x * y)) (fe_X12_draw 8) (fun _ _ => rfl) ?_
  refine t_go (op := o_cl 12 12345) (fe_X12_draw 9) (fun _ _ => rfl) ?_
  refine t_go (op := o_l2 13 (fun x y => x + y)) (fe_X12_draw 12) (fun _ _ => rfl) ?_
  refine t_go (op := o_cl 16 2147483648) (fe_X12_draw 13) (fun _ _ => rfl) ?_
  refine t_go (op := o_l2d 17 (fun x y => x - x / y * y)) (fe_X12_draw 16) (g_l2d (by decide)) ?_
  rw [show (fun x y : Int64 => x + y) ((fun x y : Int64 => x * y) (lN s) 1103515245) 12345 - (fun x y : Int64 => x + y) ((fun x y : Int64 => x * y) (lN s) 1103515245) 12345 / 2147483648 * 2147483648 = lN s1 from ((draw_r hs2).trans draw_n).trans (congrArg lN e1)]
  refine t_go (op := o_putJ 20 11 27) (fe_X12_draw 17) (g_putJ hS (show (lay 183).1 = 11 by decide) (by decide)) ?_
  refine t_go (op := o_aload 21 0) (fe_X12_draw 20) (fun _ _ => rfl) ?_
  refine t_go (op := o_getJ 24 11 27) (fe_X12_draw 21) (g_getJ hS (show (lay 183).1 = 11 by decide) (by decide)) ?_
  rw [rdJ]
  refine t_go (op := o_cl 27 65536) (fe_X12_draw 24) (fun _ _ => rfl) ?_
  refine t_go (op := o_l2d 28 (fun x y => x / y)) (fe_X12_draw 27) (g_l2d (by decide)) ?_
  refine t_go (op := o_iload 29 1) (fe_X12_draw 28) (fun _ _ => rfl) ?_
  refine t_go (op := o_i2l 30) (fe_X12_draw 29) (fun _ _ => rfl) ?_
  refine t_go (op := o_l2d 31 (fun x y => x - x / y * y)) (fe_X12_draw 30) (g_l2d (show ¬ (nI b).toInt64 = 0 from fun e0 => by rw [nI_l (by omega)] at e0; have := (pk_lEQ (a := b) (b := 0) (by omega) (by decide)).mp e0; omega)) ?_
  refine t_go (op := o_l2i 32) (fe_X12_draw 31) (fun _ _ => rfl) ?_
  refine t_ret (op := o_iret) (fe_X12_draw 32) (fun _ _ => rfl) ?_
  have hlt : s1 < 2147483648 := by rw [← e1]; exact drN_lt s
  have h1 := drawV_n (s := s1) (b := b) hlt hb hb2
  rw [e2] at h1
  unfold drawV lremI at h1
  rw [if_neg (show ¬ nI b ≤ 0 from fun q => by have := (nI_leI (a := b) (b := 0) (by omega) (by omega)).mp q; omega)] at h1
  exact ⟨congrArg (fun z => some (Value.int z)) h1, rfl⟩
theorem sj_2 {k : AHP} {u v : Int64} {A : Nat → Prop} : Zf A (sJ k 183 27 v) (sJ (sJ k 183 27 u) 183 27 v) := Zf.g2 (u := u) Zf.rf
theorem sj_3 {k : AHP} {u v w : Int64} {A : Nat → Prop} : Zf A (sJ k 183 27 w) (sJ (sJ (sJ k 183 27 u) 183 27 v) 183 27 w) := Zf.g2 (u := v) (Zf.g2 (u := u) Zf.rf)
theorem r_deed0 {d : Nat} {k h : AHP} {m n g T s : Nat} {F : FS} (hP : CP k h g n m) (hW : FW m T F) (hB : RB (k.1 197) 924 F) (hT : T < 98000) (hs : k.2.1 183 27 = lN s) (hs2 : s < 2147483648) (hm1 : 1 ≤ m) {s1 s2 s3 a4 ee xx : Nat} (e1 : drN s = s1) (e2 : drN s1 = s2) (e3 : drN s2 = s3) (e4 : s1 / 65536 % 4 = a4) (e5 : s2 / 65536 % m = ee) (e6 : s3 / 65536 % 9 = xx) (h0 : a4 = 0) : MM (d + 4) 266 [.ref 183] k (fun v h2 => v = none ∧ Zf trl (sJ k 183 27 (lN s2)) h2 ∧ RB (h2.1 197) 924 (stokeF F (nI ee))) := by
  refine ⟨Nat.le_of_ble_eq_true rfl, ?_⟩
  have hS := hP.1.1
  have hE := hP.1.2.1
  have hm := hP.1.2.2.1
  have hee : ee < m := by rw [← e5]; exact Nat.mod_lt _ hm1
  have hxx : xx < 9 := by rw [← e6]; exact Nat.mod_lt _ (by decide)
  have h44 : a4 < 4 := by rw [← e4]; exact Nat.mod_lt _ (by decide)
  have l1 : s1 < 2147483648 := by rw [← e1]; exact drN_lt s
  have l2 : s2 < 2147483648 := by rw [← e2]; exact drN_lt s1
  refine t_go (op := o_aload 1 0) (fe_X12_drawsDeed 0) (fun _ _ => rfl) ?_
  refine t_go (op := o_ci 2 4) (fe_X12_drawsDeed 1) (fun _ _ => rfl) ?_
  refine t_call (op := o_callV 5 265 2 11) (fe_X12_drawsDeed 2) (g_callV hS (show (lay 183).1 = 11 by decide) (by decide) rfl rfl rfl (Nat.le_of_ble_eq_true rfl)) ?_
  refine M_eq (r_draw (k := k) (s := s) (b := 4) hS hs hs2 (by decide) (by omega) e1 e4) ?_
  rw [show nI a4 = 0 by rw [h0]; rfl]
  refine t_go (op := o_istore 6 1) (fe_X12_drawsDeed 5) (fun _ _ => rfl) ?_
  refine t_go (op := o_iload 7 1) (fe_X12_drawsDeed 6) (fun _ _ => rfl) ?_
  refine t_go (op := o_ci 8 2) (fe_X12_drawsDeed 7) (fun _ _ => rfl) ?_
  refine t_ite (op := o_icmp 11 84 (fun x y => y ≤ x) (fun _ _ => inferInstance)) (fe_X12_drawsDeed 8) g_icmp (fun c1 => ?_) (fun c1 => ?_)
  · exact absurd c1 (by decide)
  · clear c1
    refine t_go (op := o_aload 12 0) (fe_X12_drawsDeed 11) (fun _ _ => rfl) ?_
    refine t_go (op := o_aload 13 0) (fe_X12_drawsDeed 12) (fun _ _ => rfl) ?_
    refine t_call (op := o_callV 16 200 1 11) (fe_X12_drawsDeed 13) (g_callV hS (show (lay 183).1 = 11 by decide) (by decide) rfl rfl rfl (Nat.le_of_ble_eq_true rfl)) ?_
    refine M_eq (r_embers (k := (sJ k 183 27 (lN s1))) hS hE) ?_
    refine t_call (op := o_callV 19 265 2 11) (fe_X12_drawsDeed 16) (g_callV hS (show (lay 183).1 = 11 by decide) (by decide) rfl rfl rfl (Nat.le_of_ble_eq_true rfl)) ?_
    refine M_eq (r_draw (k := (sJ k 183 27 (lN s1))) (s := s1) (b := m) hS rdJ l1 (by omega) (by omega) e2 e5) ?_
    refine t_go (op := o_istore 20 2) (fe_X12_drawsDeed 19) (fun _ _ => rfl) ?_
    refine t_go (op := o_iload 21 1) (fe_X12_drawsDeed 20) (fun _ _ => rfl) ?_
    refine t_go (op := o_ci 22 1) (fe_X12_drawsDeed 21) (fun _ _ => rfl) ?_
    refine t_ite (op := o_icmp 36 25 (fun x y => x = y) (fun _ _ => inferInstance)) (fe_X12_drawsDeed 22) g_icmp (fun c2 => ?_) (fun c2 => ?_)
    · exact absurd c2 (by decide)
    · clear c2
      refine t_go (op := o_ci 37 0) (fe_X12_drawsDeed 36) (fun _ _ => rfl) ?_
      refine t_go (op := o_istore 38 3) (fe_X12_drawsDeed 37) (fun _ _ => rfl) ?_
      refine t_go (op := o_aload 39 0) (fe_X12_drawsDeed 38) (fun _ _ => rfl) ?_
      refine t_go (op := o_ci 42 924) (fe_X12_drawsDeed 39) (fun _ _ => rfl) ?_
      refine t_go (op := o_iload 43 2) (fe_X12_drawsDeed 42) (fun _ _ => rfl) ?_
      refine t_call (op := o_callV 46 203 3 11) (fe_X12_drawsDeed 43) (g_callV hS (show (lay 183).1 = 11 by decide) (by decide) rfl rfl rfl (Nat.le_of_ble_eq_true rfl)) ?_
      refine M_eq (r_isThere (k := (sJ (sJ k 183 27 (lN s1)) 183 27 (lN s2))) (b := 924) hS hW.1 hB (by decide) (e := ee) (by omega)) ?_
      refine t_ite (op := o_if 49 64 (fun x => x = 0) (fun _ => inferInstance)) (fe_X12_drawsDeed 46) g_if (fun c3 => ?_) (fun c3 => ?_)
      · replace c3 := b2i_z c3
        refine t_go (op := o_aload 65 0) (fe_X12_drawsDeed 64) (fun _ _ => rfl) ?_
        refine t_go (op := o_ci 68 924) (fe_X12_drawsDeed 65) (fun _ _ => rfl) ?_
        refine t_go (op := o_iload 69 2) (fe_X12_drawsDeed 68) (fun _ _ => rfl) ?_
        refine t_call (op := o_callV 72 203 3 11) (fe_X12_drawsDeed 69) (g_callV hS (show (lay 183).1 = 11 by decide) (by decide) rfl rfl rfl (Nat.le_of_ble_eq_true rfl)) ?_
        refine M_eq (r_isThere (k := (sJ (sJ k 183 27 (lN s1)) 183 27 (lN s2))) (b := 924) hS hW.1 hB (by decide) (e := ee) (by omega)) ?_
        refine t_ite (op := o_if 75 84 (fun x => x = 0) (fun _ => inferInstance)) (fe_X12_drawsDeed 72) g_if (fun c4 => ?_) (fun c4 => ?_)
        · replace c4 := b2i_z c4
          refine t_ret (op := o_vret) (fe_X12_drawsDeed 84) (fun _ _ => rfl) ?_
          exact ⟨rfl, sj_2, by rw [stokeF, if_neg c3]; exact hB⟩
        · exact absurd (b2i_nn c4) c3
      · replace c3 := b2i_nn c3
        refine t_go (op := o_iload 50 1) (fe_X12_drawsDeed 49) (fun _ _ => rfl) ?_
        refine t_ite (op := o_if 64 53 (fun x => x = 0) (fun _ => inferInstance)) (fe_X12_drawsDeed 50) g_if (fun c5 => ?_) (fun c5 => ?_)
        · clear c5
          refine t_go (op := o_aload 54 0) (fe_X12_drawsDeed 53) (fun _ _ => rfl) ?_
          refine t_go (op := o_ci 57 924) (fe_X12_drawsDeed 54) (fun _ _ => rfl) ?_
          refine t_go (op := o_iload 58 2) (fe_X12_drawsDeed 57) (fun _ _ => rfl) ?_
          refine t_call (op := o_callV 61 217 3 11) (fe_X12_drawsDeed 58) (g_callV hS (show (lay 183).1 = 11 by decide) (by decide) rfl rfl rfl (Nat.le_of_ble_eq_true rfl)) ?_
          refine M_mono ?_ (r_pokes (k := (sJ (sJ k 183 27 (lN s1)) 183 27 (lN s2))) (b := 924) hP.1 hW.1 hB (by decide) (e := ee) (by omega) c3)
          rintro _ h2 ⟨rfl, hz2, hBt⟩
          refine t_go (op := o_goto 84) (fe_X12_drawsDeed 61) (fun _ _ => rfl) ?_
          refine t_ret (op := o_vret) (fe_X12_drawsDeed 84) (fun _ _ => rfl) ?_
          exact ⟨rfl, Zf.tr sj_2 (hz2.mono trl_c), hBt⟩
        · exact absurd (by decide) c5
theorem r_deed1 {d : Nat} {k h : AHP} {m n g T s : Nat} {F : FS} (hP : CP k h g n m) (hW : FW m T F) (hB : RB (k.1 197) 924 F) (hT : T < 98000) (hs : k.2.1 183 27 = lN s) (hs2 : s < 2147483648) (hm1 : 1 ≤ m) {s1 s2 s3 a4 ee xx : Nat} (e1 : drN s = s1) (e2 : drN s1 = s2) (e3 : drN s2 = s3) (e4 : s1 / 65536 % 4 = a4) (e5 : s2 / 65536 % m = ee) (e6 : s3 / 65536 % 9 = xx) (h0 : a4 = 1) : MM (d + 4) 266 [.ref 183] k (fun v h2 => v = none ∧ Zf trl (sJ k 183 27 (lN s3)) h2 ∧ RB (h2.1 197) 924 (addFuelF F (nI ee) (nI xx + 1))) := by
  refine ⟨Nat.le_of_ble_eq_true rfl, ?_⟩
  have hS := hP.1.1
  have hE := hP.1.2.1
  have hm := hP.1.2.2.1
  have hee : ee < m := by rw [← e5]; exact Nat.mod_lt _ hm1
  have hxx : xx < 9 := by rw [← e6]; exact Nat.mod_lt _ (by decide)
  have h44 : a4 < 4 := by rw [← e4]; exact Nat.mod_lt _ (by decide)
  have l1 : s1 < 2147483648 := by rw [← e1]; exact drN_lt s
  have l2 : s2 < 2147483648 := by rw [← e2]; exact drN_lt s1
  refine t_go (op := o_aload 1 0) (fe_X12_drawsDeed 0) (fun _ _ => rfl) ?_
  refine t_go (op := o_ci 2 4) (fe_X12_drawsDeed 1) (fun _ _ => rfl) ?_
  refine t_call (op := o_callV 5 265 2 11) (fe_X12_drawsDeed 2) (g_callV hS (show (lay 183).1 = 11 by decide) (by decide) rfl rfl rfl (Nat.le_of_ble_eq_true rfl)) ?_
  refine M_eq (r_draw (k := k) (s := s) (b := 4) hS hs hs2 (by decide) (by omega) e1 e4) ?_
  rw [show nI a4 = 1 by rw [h0]; rfl]
  refine t_go (op := o_istore 6 1) (fe_X12_drawsDeed 5) (fun _ _ => rfl) ?_
  refine t_go (op := o_iload 7 1) (fe_X12_drawsDeed 6) (fun _ _ => rfl) ?_
  refine t_go (op := o_ci 8 2) (fe_X12_drawsDeed 7) (fun _ _ => rfl) ?_
  refine t_ite (op := o_icmp 11 84 (fun x y => y ≤ x) (fun _ _ => inferInstance)) (fe_X12_drawsDeed 8) g_icmp (fun c1 => ?_) (fun c1 => ?_)
  · exact absurd c1 (by decide)
  · clear c1
    refine t_go (op := o_aload 12 0) (fe_X12_drawsDeed 11) (fun _ _ => rfl) ?_
    refine t_go (op := o_aload 13 0) (fe_X12_drawsDeed 12) (fun _ _ => rfl) ?_
    refine t_call (op := o_callV 16 200 1 11) (fe_X12_drawsDeed 13) (g_callV hS (show (lay 183).1 = 11 by decide) (by decide) rfl rfl rfl (Nat.le_of_ble_eq_true rfl)) ?_
    refine M_eq (r_embers (k := (sJ k 183 27 (lN s1))) hS hE) ?_
    refine t_call (op := o_callV 19 265 2 11) (fe_X12_drawsDeed 16) (g_callV hS (show (lay 183).1 = 11 by decide) (by decide) rfl rfl rfl (Nat.le_of_ble_eq_true rfl)) ?_
    refine M_eq (r_draw (k := (sJ k 183 27 (lN s1))) (s := s1) (b := m) hS rdJ l1 (by omega) (by omega) e2 e5) ?_
    refine t_go (op := o_istore 20 2) (fe_X12_drawsDeed 19) (fun _ _ => rfl) ?_
    refine t_go (op := o_iload 21 1) (fe_X12_drawsDeed 20) (fun _ _ => rfl) ?_
    refine t_go (op := o_ci 22 1) (fe_X12_drawsDeed 21) (fun _ _ => rfl) ?_
    refine t_ite (op := o_icmp 36 25 (fun x y => x = y) (fun _ _ => inferInstance)) (fe_X12_drawsDeed 22) g_icmp (fun c2 => ?_) (fun c2 => ?_)
    · clear c2
      refine t_go (op := o_aload 26 0) (fe_X12_drawsDeed 25) (fun _ _ => rfl) ?_
      refine t_go (op := o_ci 28 9) (fe_X12_drawsDeed 26) (fun _ _ => rfl) ?_
      refine t_call (op := o_callV 31 265 2 11) (fe_X12_drawsDeed 28) (g_callV hS (show (lay 183).1 = 11 by decide) (by decide) rfl rfl rfl (Nat.le_of_ble_eq_true rfl)) ?_
      refine M_eq (r_draw (k := (sJ (sJ k 183 27 (lN s1)) 183 27 (lN s2))) (s := s2) (b := 9) hS rdJ l2 (by decide) (by omega) e3 e6) ?_
      refine t_go (op := o_ci 32 1) (fe_X12_drawsDeed 31) (fun _ _ => rfl) ?_
      refine t_go (op := o_i2 33 (fun x y => x + y)) (fe_X12_drawsDeed 32) (fun _ _ => rfl) ?_
      refine t_go (op := o_goto 37) (fe_X12_drawsDeed 33) (fun _ _ => rfl) ?_
      refine t_go (op := o_istore 38 3) (fe_X12_drawsDeed 37) (fun _ _ => rfl) ?_
      refine t_go (op := o_aload 39 0) (fe_X12_drawsDeed 38) (fun _ _ => rfl) ?_
      refine t_go (op := o_ci 42 924) (fe_X12_drawsDeed 39) (fun _ _ => rfl) ?_
      refine t_go (op := o_iload 43 2) (fe_X12_drawsDeed 42) (fun _ _ => rfl) ?_
      refine t_call (op := o_callV 46 203 3 11) (fe_X12_drawsDeed 43) (g_callV hS (show (lay 183).1 = 11 by decide) (by decide) rfl rfl rfl (Nat.le_of_ble_eq_true rfl)) ?_
      refine M_eq (r_isThere (k := (sJ (sJ (sJ k 183 27 (lN s1)) 183 27 (lN s2)) 183 27 (lN s3))) (b := 924) hS hW.1 hB (by decide) (e := ee) (by omega)) ?_
      refine t_ite (op := o_if 49 64 (fun x => x = 0) (fun _ => inferInstance)) (fe_X12_drawsDeed 46) g_if (fun c3 => ?_) (fun c3 => ?_)
      · replace c3 := b2i_z c3
        refine t_go (op := o_aload 65 0) (fe_X12_drawsDeed 64) (fun _ _ => rfl) ?_
        refine t_go (op := o_ci 68 924) (fe_X12_drawsDeed 65) (fun _ _ => rfl) ?_
        refine t_go (op := o_iload 69 2) (fe_X12_drawsDeed 68) (fun _ _ => rfl) ?_
        refine t_call (op := o_callV 72 203 3 11) (fe_X12_drawsDeed 69) (g_callV hS (show (lay 183).1 = 11 by decide) (by decide) rfl rfl rfl (Nat.le_of_ble_eq_true rfl)) ?_
        refine M_eq (r_isThere (k := (sJ (sJ (sJ k 183 27 (lN s1)) 183 27 (lN s2)) 183 27 (lN s3))) (b := 924) hS hW.1 hB (by decide) (e := ee) (by omega)) ?_
        refine t_ite (op := o_if 75 84 (fun x => x = 0) (fun _ => inferInstance)) (fe_X12_drawsDeed 72) g_if (fun c4 => ?_) (fun c4 => ?_)
        · replace c4 := b2i_z c4
          refine t_ret (op := o_vret) (fe_X12_drawsDeed 84) (fun _ _ => rfl) ?_
          exact ⟨rfl, sj_3, by rw [addFuelF, if_neg c3]; exact hB⟩
        · exact absurd (b2i_nn c4) c3
      · replace c3 := b2i_nn c3
        refine t_go (op := o_iload 50 1) (fe_X12_drawsDeed 49) (fun _ _ => rfl) ?_
        refine t_ite (op := o_if 64 53 (fun x => x = 0) (fun _ => inferInstance)) (fe_X12_drawsDeed 50) g_if (fun c5 => ?_) (fun c5 => ?_)
        · exact absurd c5 (by decide)
        · clear c5
          refine t_go (op := o_aload 65 0) (fe_X12_drawsDeed 64) (fun _ _ => rfl) ?_
          refine t_go (op := o_ci 68 924) (fe_X12_drawsDeed 65) (fun _ _ => rfl) ?_
          refine t_go (op := o_iload 69 2) (fe_X12_drawsDeed 68) (fun _ _ => rfl) ?_
          refine t_call (op := o_callV 72 203 3 11) (fe_X12_drawsDeed 69) (g_callV hS (show (lay 183).1 = 11 by decide) (by decide) rfl rfl rfl (Nat.le_of_ble_eq_true rfl)) ?_
          refine M_eq (r_isThere (k := (sJ (sJ (sJ k 183 27 (lN s1)) 183 27 (lN s2)) 183 27 (lN s3))) (b := 924) hS hW.1 hB (by decide) (e := ee) (by omega)) ?_
          refine t_ite (op := o_if 75 84 (fun x => x = 0) (fun _ => inferInstance)) (fe_X12_drawsDeed 72) g_if (fun c6 => ?_) (fun c6 => ?_)
          · exact absurd c3 (b2i_z c6)
          · replace c6 := b2i_nn c6
            refine t_go (op := o_aload 76 0) (fe_X12_drawsDeed 75) (fun _ _ => rfl) ?_
            refine t_go (op := o_ci 79 924) (fe_X12_drawsDeed 76) (fun _ _ => rfl) ?_
            refine t_go (op := o_iload 80 2) (fe_X12_drawsDeed 79) (fun _ _ => rfl) ?_
            refine t_go (op := o_iload 81 3) (fe_X12_drawsDeed 80) (fun _ _ => rfl) ?_
            refine t_call (op := o_callV 84 218 4 11) (fe_X12_drawsDeed 81) (g_callV hS (show (lay 183).1 = 11 by decide) (by decide) rfl rfl rfl (Nat.le_of_ble_eq_true rfl)) ?_
            refine M_mono ?_ (r_feeds (k := (sJ (sJ (sJ k 183 27 (lN s1)) 183 27 (lN s2)) 183 27 (lN s3))) (b := 924) (x := nI xx + 1) hP.1 hW.1 hB (by decide) (e := ee) (by omega) c3)
            rintro _ h2 ⟨rfl, hz2, hBt⟩
            refine t_ret (op := o_vret) (fe_X12_drawsDeed 84) (fun _ _ => rfl) ?_
            exact ⟨rfl, Zf.tr sj_3 (hz2.mono trl_c), hBt⟩
    · exact absurd (by decide) c2
theorem r_deed2 {d : Nat} {k h : AHP} {m n g T s : Nat} {F : FS} (hP : CP k h g n m) (hW : FW m T F) (hB : RB (k.1 197) 924 F) (hT : T < 98000) (hs : k.2.1 183 27 = lN s) (hs2 : s < 2147483648) (hm1 : 1 ≤ m) {s1 s2 s3 a4 ee xx : Nat} (e1 : drN s = s1) (e2 : drN s1 = s2) (e3 : drN s2 = s3) (e4 : s1 / 65536 % 4 = a4) (e5 : s2 / 65536 % m = ee) (e6 : s3 / 65536 % 9 = xx) (h0 : 2 ≤ a4) : MM (d + 4) 266 [.ref 183] k (fun v h2 => v = none ∧ Zf trl (sJ k 183 27 (lN s1)) h2 ∧ RB (h2.1 197) 924 (F)) := by
  refine ⟨Nat.le_of_ble_eq_true rfl, ?_⟩
  have hS := hP.1.1
  have hE := hP.1.2.1
  have hm := hP.1.2.2.1
  have hee : ee < m := by rw [← e5]; exact Nat.mod_lt _ hm1
  have hxx : xx < 9 := by rw [← e6]; exact Nat.mod_lt _ (by decide)
  have h44 : a4 < 4 := by rw [← e4]; exact Nat.mod_lt _ (by decide)
  have l1 : s1 < 2147483648 := by rw [← e1]; exact drN_lt s
  have l2 : s2 < 2147483648 := by rw [← e2]; exact drN_lt s1
  refine t_go (op := o_aload 1 0) (fe_X12_drawsDeed 0) (fun _ _ => rfl) ?_
  refine t_go (op := o_ci 2 4) (fe_X12_drawsDeed 1) (fun _ _ => rfl) ?_
  refine t_call (op := o_callV 5 265 2 11) (fe_X12_drawsDeed 2) (g_callV hS (show (lay 183).1 = 11 by decide) (by decide) rfl rfl rfl (Nat.le_of_ble_eq_true rfl)) ?_
  refine M_eq (r_draw (k := k) (s := s) (b := 4) hS hs hs2 (by decide) (by omega) e1 e4) ?_
  refine t_go (op := o_istore 6 1) (fe_X12_drawsDeed 5) (fun _ _ => rfl) ?_
  refine t_go (op := o_iload 7 1) (fe_X12_drawsDeed 6) (fun _ _ => rfl) ?_
  refine t_go (op := o_ci 8 2) (fe_X12_drawsDeed 7) (fun _ _ => rfl) ?_
  refine t_ite (op := o_icmp 11 84 (fun x y => y ≤ x) (fun _ _ => inferInstance)) (fe_X12_drawsDeed 8) g_icmp (fun c1 => ?_) (fun c1 => ?_)
  · refine t_ret (op := o_vret) (fe_X12_drawsDeed 84) (fun _ _ => rfl) ?_
    exact ⟨rfl, Zf.rf, hB⟩
  · exact absurd (nI_le (a := 2) h0 (by omega)) c1
theorem tend_n {m s s1 s2 s3 a4 ee xx : Nat} {F : FS} (hm1 : 1 ≤ m) (hm : m ≤ 7) (e1 : drN s = s1) (e2 : drN s1 = s2) (e3 : drN s2 = s3) (e4 : s1 / 65536 % 4 = a4) (e5 : s2 / 65536 % m = ee) (e6 : s3 / 65536 % 9 = xx) : tendF (nI m) F (lN s) = if a4 = 0 then (stokeF F (nI ee), lN s2) else if a4 = 1 then (addFuelF F (nI ee) (nI xx + 1), lN s3) else (F, lN s1) := by
  have l1 : s1 < 2147483648 := by rw [← e1]; exact drN_lt s
  have l2 : s2 < 2147483648 := by rw [← e2]; exact drN_lt s1
  have l3 : s3 < 2147483648 := by rw [← e3]; exact drN_lt s2
  have h4 : a4 < 4 := by rw [← e4]; exact Nat.mod_lt _ (by decide)
  have d4 : drawV (lN s1) 4 = nI a4 := (drawV_n (b := 4) l1 (by decide) (by decide)).trans (congrArg nI e4)
  have d9 : drawV (lN s3) 9 = nI xx := (drawV_n (b := 9) l3 (by decide) (by decide)).trans (congrArg nI e6)
  have dm : drawV (lN s2) (nI m) = nI ee := (drawV_n (b := m) l2 hm1 (by omega)).trans (congrArg nI e5)
  unfold tendF
  rw [draw_n, e1, draw_n, e2, draw_n, e3, d4, d9, dm]
  have i0 : nI a4 = 0 ↔ a4 = 0 := nI_eq (b := 0) (by omega) (by decide)
  have i1 : nI a4 = 1 ↔ a4 = 1 := nI_eq (b := 1) (by omega) (by decide)
  by_cases h0 : a4 = 0
  · rw [if_pos (i0.mpr h0), if_pos h0]
  · rw [if_neg (fun q => h0 (i0.mp q)), if_neg h0]
    by_cases h1 : a4 = 1
    · rw [if_pos (i1.mpr h1), if_pos h1]
    · rw [if_neg (fun q => h1 (i1.mp q)), if_neg h1]
theorem FW_tend {m T s : Nat} {F : FS} (hm1 : 1 ≤ m) (hm : m ≤ 7) (hW : FW m T F) : FW m T (tendF (nI m) F (lN s)).1 := by
  rw [tend_n hm1 hm rfl rfl rfl rfl rfl rfl]
  have h1 : drN (drN s) / 65536 % m < m := Nat.mod_lt _ hm1
  have h2 : drN (drN (drN s)) / 65536 % 9 < 9 := Nat.mod_lt _ (by decide)
  generalize drN (drN s) / 65536 % m = ee at h1 ⊢
  generalize drN (drN (drN s)) / 65536 % 9 = xx at h2 ⊢
  generalize drN s / 65536 % 4 = a4
  split
  · exact FW_stoke hW (by omega)
  · split
    · rw [nI_1]; exact FW_fuel hW (by omega) (by omega)
    · exact hW
theorem r_deed {d : Nat} {k h : AHP} {m n g T s : Nat} {F : FS} (hP : CP k h g n m) (hW : FW m T F) (hB : RB (k.1 197) 924 F) (hT : T < 98000) (hs : k.2.1 183 27 = lN s) (hs2 : s < 2147483648) (hm1 : 1 ≤ m) : MM (d + 4) 266 [.ref 183] k (fun v h2 => v = none ∧ ∃ u, u < 2147483648 ∧ (tendF (nI m) F (lN s)).2 = lN u ∧ Zf trl (sJ k 183 27 (lN u)) h2 ∧ RB (h2.1 197) 924 (tendF (nI m) F (lN s)).1) := by
  obtain ⟨s1, e1⟩ : ∃ x, drN s = x := ⟨_, rfl⟩
  obtain ⟨s2, e2⟩ : ∃ x, drN s1 = x := ⟨_, rfl⟩
  obtain ⟨s3, e3⟩ : ∃ x, drN s2 = x := ⟨_, rfl⟩
  obtain ⟨a4, e4⟩ : ∃ x, s1 / 65536 % 4 = x := ⟨_, rfl⟩
  obtain ⟨ee, e5⟩ : ∃ x, s2 / 65536 % m = x := ⟨_, rfl⟩
  obtain ⟨xx, e6⟩ : ∃ x, s3 / 65536 % 9 = x := ⟨_, rfl⟩
  have l1 : s1 < 2147483648 := by rw [← e1]; exact drN_lt s
  have l2 : s2 < 2147483648 := by rw [← e2]; exact drN_lt s1
  have l3 : s3 < 2147483648 := by rw [← e3]; exact drN_lt s2
  rw [tend_n hm1 hP.1.2.2.1 e1 e2 e3 e4 e5 e6]
  by_cases h0 : a4 = 0
  · rw [if_pos h0]
    refine M_mono ?_ (r_deed0 hP hW hB hT hs hs2 hm1 e1 e2 e3 e4 e5 e6 h0)
    rintro _ h2 ⟨rfl, q1, q2⟩
    exact ⟨rfl, s2, l2, rfl, q1, q2⟩
  · rw [if_neg h0]
    by_cases h1 : a4 = 1
    · rw [if_pos h1]
      refine M_mono ?_ (r_deed1 hP hW hB hT hs hs2 hm1 e1 e2 e3 e4 e5 e6 h1)
      rintro _ h2 ⟨rfl, q1, q2⟩
      exact ⟨rfl, s3, l3, rfl, q1, q2⟩
    · rw [if_neg h1]
      refine M_mono ?_ (r_deed2 hP hW hB hT hs hs2 hm1 e1 e2 e3 e4 e5 e6 (by omega))
      rintro _ h2 ⟨rfl, q1, q2⟩
      exact ⟨rfl, s1, l1, rfl, q1, q2⟩
theorem burn_bt {K : Nat → Int32} {lit : Int32} {a : Nat} (ha : a < 32) : ∀ (j i : Nat) (s : FS × Int32), i + j ≤ 7 → bt (it (burnS K lit) j i s).2 a = true → bt s.2 a = true ∨ a < 7 := by
  intro j
  induction j with
  | zero => intro i s _ h; exact Or.inl h
  | succ j ih =>
    intro i s hi h
    rw [it_step] at h
    rcases ih (i + 1) _ (by omega) h with h1 | h1
    · unfold burnS at h1
      split at h1
      · split at h1
        · exact Or.inl h1
        · rw [b_or, Bool.or_eq_true, b_one (by omega) ha] at h1
          rcases h1 with h1 | h1
          · exact Or.inl h1
          · have := of_decide_eq_true h1; exact Or.inr (by omega)
      · exact Or.inl h1
    · exact Or.inr h1
theorem HB_bits {h : AHP} {g n : Nat} {b : Int32} {F : FS} : ∀ i, 12 ≤ i → i < 32 → bt (HB h g n b F).2 i = false := by
  intro i h1 h2
  cases hb : bt (HB h g n b F).2 i with
  | false => rfl
  | true =>
    rcases burn_bt h2 7 0 _ (by omega) hb with q | q
    · rw [b_0] at q; cases q
    · omega
theorem lit_bits {h : AHP} {g n : Nat} {F : FS} : ∀ i, 12 ≤ i → i < 32 → bt (litH h g n F) i = false := by
  intro i h1 h2
  rw [show litH h g n F = setB (glP F (h.1 (g + 2)) (h.1 g 5)) from rfl, setB_bt h2, decide_eq_false (by omega)]
  rfl
theorem lr_win {d : Nat} {k h : AHP} {m n g T q : Nat} (hP : CP k h g n m) (hT : T < 90000) (hq6 : q ≤ 99) (hM : h.1 g 4 = nI m) {y w : Int32} {Q : Option Value → AHP → Prop} : ∀ (j i : Nat) (S : AHP) (z : Int32) (G : FS) (s : Nat), i + j = q → Zf trl (sJ k 183 27 (lN s)) S → RB (S.1 197) 924 G → FW m (T + i) G → s < 2147483648 → (∀ S2 (s2 : Nat), Zf trl (sJ k 183 27 (lN s2)) S2 → RB (S2.1 197) 924 (it (winS h g n) j i (z, G, lN s)).2.1 → FW m (T + q) (it (winS h g n) j i (z, G, lN s)).2.1 → TT (d + 5) 267 97 [some (.ref 183), some (.int y), some (.int (nI q)), some (.int w), some (.int (it (winS h g n) j i (z, G, lN s)).1), some (.int (nI q))] [] S2 Q) → TT (d + 5) 267 59 [some (.ref 183), some (.int y), some (.int (nI q)), some (.int w), some (.int z), some (.int (nI i))] [] S Q := by
  intro j
  induction j with
  | zero =>
    intro i S z G s hi hz hBt hWt hs2 hq
    have hN : i = q := by omega
    have hm := hP.1.2.2.1
    have hPS := (hP.sj (u := lN s)).zf hz
    have hS := hPS.1.1
    have hE := hPS.1.2.1
    refine t_go (op := o_iload 61 5) (fe_X12_winters 59) (fun _ _ => rfl) ?_
    refine t_go (op := o_iload 62 2) (fe_X12_winters 61) (fun _ _ => rfl) ?_
    refine t_ite (op := o_icmp 65 97 (fun x y => y ≤ x) (fun _ _ => inferInstance)) (fe_X12_winters 62) g_icmp (fun c1 => ?_) (fun c1 => ?_)
    · have eN : nI i = nI q := by rw [hN]
      rw [eN]
      exact hq S s hz hBt (by rw [← hN]; exact hWt)
    · exact absurd (by rw [hN]; exact Int32.le_refl _) c1
  | succ j ih =>
    intro i S z G s hi hz hBt hWt hs2 hq
    have hi7 : i < q := by omega
    have hm := hP.1.2.2.1
    have hPS := (hP.sj (u := lN s)).zf hz
    have hS := hPS.1.1
    have hE := hPS.1.2.1
    refine t_go (op := o_iload 61 5) (fe_X12_winters 59) (fun _ _ => rfl) ?_
    refine t_go (op := o_iload 62 2) (fe_X12_winters 61) (fun _ _ => rfl) ?_
    refine t_ite (op := o_icmp 65 97 (fun x y => y ≤ x) (fun _ _ => inferInstance)) (fe_X12_winters 62) g_icmp (fun c1 => ?_) (fun c1 => ?_)
    · exact absurd c1 (nI_ge hi7 (by omega))
    · refine t_go (op := o_aload 66 0) (fe_X12_winters 65) (fun _ _ => rfl) ?_
      refine t_call (op := o_callV 69 200 1 11) (fe_X12_winters 66) (g_callV hS (show (lay 183).1 = 11 by decide) (by decide) rfl rfl rfl (Nat.le_of_ble_eq_true rfl)) ?_
      refine M_eq (r_embers hS hE) ?_
      refine t_ite (op := o_if 72 76 (fun x => x ≤ 0) (fun _ => inferInstance)) (fe_X12_winters 69) g_if (fun c2 => ?_) (fun c2 => ?_)
      · refine t_go (op := o_iload 78 4) (fe_X12_winters 76) (fun _ _ => rfl) ?_
        refine t_go (op := o_aload 79 0) (fe_X12_winters 78) (fun _ _ => rfl) ?_
        refine t_go (op := o_ci 82 924) (fe_X12_winters 79) (fun _ _ => rfl) ?_
        refine t_call (op := o_callV 85 215 2 11) (fe_X12_winters 82) (g_callV hS (show (lay 183).1 = 11 by decide) (by decide) rfl rfl rfl (Nat.le_of_ble_eq_true rfl)) ?_
        refine M_mono ?_ (r_hour (b := 924) hPS hWt hBt (by decide) (by omega))
        rintro _ h2 ⟨rfl, hz2, hB2⟩
        replace hz := hz.tr (hz2.mono trl_c)
        clear hz2
        have hPS := (hP.sj (u := lN s)).zf hz
        have hS := hPS.1.1
        have hE := hPS.1.2.1
        refine t_call (op := o_callS 88 210 1) (fe_X12_winters 85) (g_callS rfl rfl rfl (Nat.le_of_ble_eq_true rfl)) ?_
        refine M_eq (r_bits HB_bits) ?_
        refine t_go (op := o_i2 89 (fun x y => x + y)) (fe_X12_winters 88) (fun _ _ => rfl) ?_
        refine t_go (op := o_istore 91 4) (fe_X12_winters 89) (fun _ _ => rfl) ?_
        refine t_go (op := o_iinc 94 5 1) (fe_X12_winters 91) (fun _ _ => rfl) ?_
        refine t_go (op := o_goto 59) (fe_X12_winters 94) (fun _ _ => rfl) ?_
        have eS : winS h g n i (z, G, lN s) = _ := if_pos (by rw [hM]; exact c2)
        rw [it_step, eS] at hq
        rw [nI_1]
        exact ih (i + 1) _ _ _ _ (by omega) hz hB2 (FW_HF hm hWt) hs2 hq
      · refine t_go (op := o_aload 73 0) (fe_X12_winters 72) (fun _ _ => rfl) ?_
        refine t_call (op := o_callV 76 266 1 11) (fe_X12_winters 73) (g_callV hS (show (lay 183).1 = 11 by decide) (by decide) rfl rfl rfl (Nat.le_of_ble_eq_true rfl)) ?_
        have hm1 : 1 ≤ m := Nat.pos_of_ne_zero fun e0 => c2 (by rw [e0]; decide)
        refine M_mono ?_ (r_deed hPS hWt hBt (by omega) hz.at_g hs2 hm1)
        rintro _ h2 ⟨rfl, u, hu, eu, hz2, hBt2⟩
        replace hz := (hz.g2 (v := lN u)).tr hz2
        clear hz2
        replace hBt := hBt2
        clear hBt2
        replace hWt := FW_tend (s := s) hm1 hm hWt
        have hPS := (hP.sj (u := lN u)).zf hz
        have hS := hPS.1.1
        have hE := hPS.1.2.1
        refine t_go (op := o_iload 78 4) (fe_X12_winters 76) (fun _ _ => rfl) ?_
        refine t_go (op := o_aload 79 0) (fe_X12_winters 78) (fun _ _ => rfl) ?_
        refine t_go (op := o_ci 82 924) (fe_X12_winters 79) (fun _ _ => rfl) ?_
        refine t_call (op := o_callV 85 215 2 11) (fe_X12_winters 82) (g_callV hS (show (lay 183).1 = 11 by decide) (by decide) rfl rfl rfl (Nat.le_of_ble_eq_true rfl)) ?_
        refine M_mono ?_ (r_hour (b := 924) hPS hWt hBt (by decide) (by omega))
        rintro _ h2 ⟨rfl, hz2, hB2⟩
        replace hz := hz.tr (hz2.mono trl_c)
        clear hz2
        have hPS := (hP.sj (u := lN u)).zf hz
        have hS := hPS.1.1
        have hE := hPS.1.2.1
        refine t_call (op := o_callS 88 210 1) (fe_X12_winters 85) (g_callS rfl rfl rfl (Nat.le_of_ble_eq_true rfl)) ?_
        refine M_eq (r_bits HB_bits) ?_
        refine t_go (op := o_i2 89 (fun x y => x + y)) (fe_X12_winters 88) (fun _ _ => rfl) ?_
        refine t_go (op := o_istore 91 4) (fe_X12_winters 89) (fun _ _ => rfl) ?_
        refine t_go (op := o_iinc 94 5 1) (fe_X12_winters 91) (fun _ _ => rfl) ?_
        refine t_go (op := o_goto 59) (fe_X12_winters 94) (fun _ _ => rfl) ?_
        have eS : winS h g n i (z, G, lN s) = _ := if_neg (by rw [hM]; exact c2)
        rw [it_step, eS] at hq
        dsimp only at hq
        rw [hM, eu] at hq
        rw [nI_1]
        exact ih (i + 1) _ _ _ _ (by omega) hz hB2 (FW_HF hm hWt) hu hq
noncomputable def winG (h : AHP) (g n : Nat) (F : FS) (m : Nat) (y : Int32) : Int32 × FS × Int64 := it (winS h g n) m 0 (0, F, y.toInt64)
noncomputable def winH (h : AHP) (g n : Nat) (F : FS) (m : Nat) (y w : Int32) : Int32 := if w = 0 then (winG h g n F m y).1 else if w = 1 then bcI (litH h g n (winG h g n F m y).2.1) else heatV (winG h g n F m y).2.1
theorem sJ_id {k : AHP} {a i : Nat} : sJ k a i (k.2.1 a i) = k := by
  have : up2 k.2.1 a i (k.2.1 a i) = k.2.1 := by
    funext b j
    unfold up2
    by_cases h : b = a
    · by_cases h2 : j = i
      · simp [h, h2]
      · simp [h, h2]
    · simp [h]
  unfold sJ
  rw [this]
theorem r_winters {d : Nat} {k h : AHP} {m n g T : Nat} {F : FS} (hP : CP k h g n m) (hW : FW m T F) (hB0 : RB (k.1 197) 0 F) (hT : T < 90000) {y w : Nat} (hy : y ≤ 9999) {q : Nat} (hq1 : 1 ≤ q) (hq6 : q ≤ 99) (hw : w ≤ 2) (hM : h.1 g 4 = nI m) : MM (d + 5) 267 [.ref 183, .int (nI y), .int (nI q), .int (nI w)] k (fun v h2 => v = some (.int (winH h g n F q (nI y) (nI w))) ∧ ∃ u, Zf trl (sJ k 183 27 u) h2) := by
  refine ⟨Nat.le_of_ble_eq_true rfl, ?_⟩
  have hm := hP.1.2.2.1
  have hS := hP.1.1
  have hE := hP.1.2.1
  refine t_go (op := o_aload 1 0) (fe_X12_winters 0) (fun _ _ => rfl) ?_
  refine t_go (op := o_ci 2 0) (fe_X12_winters 1) (fun _ _ => rfl) ?_
  refine t_go (op := o_putI 5 11 0) (fe_X12_winters 2) (g_putI hS (show (lay 183).1 = 11 by decide) (by decide)) ?_
  have hz : Zf trl k (sI k 183 0 0) := Zf_thr Zf.rf
  have hS := (hP.zf hz).1.1
  have hE := (hP.zf hz).1.2.1
  refine t_go (op := o_iload 6 1) (fe_X12_winters 5) (fun _ _ => rfl) ?_
  refine t_go (op := o_ci 7 0) (fe_X12_winters 6) (fun _ _ => rfl) ?_
  refine t_go (op := o_ci 10 9999) (fe_X12_winters 7) (fun _ _ => rfl) ?_
  refine t_call (op := o_callS 13 173 3) (fe_X12_winters 10) (g_callS rfl rfl rfl (Nat.le_of_ble_eq_true rfl)) ?_
  refine M_eq r_within ?_
  refine t_ite (op := o_if 16 35 (fun x => x = 0) (fun _ => inferInstance)) (fe_X12_winters 13) g_if (fun c1 => ?_) (fun c1 => ?_)
  · exact absurd (show ¬ nI y < 0 ∧ ¬ (9999 : Int32) < nI y from ⟨nI_pos (by omega), nI_nlt (a := 9999) (by omega) (by omega)⟩) (b2i_z c1)
  · replace c1 := b2i_nn c1
    refine t_go (op := o_iload 17 2) (fe_X12_winters 16) (fun _ _ => rfl) ?_
    refine t_go (op := o_ci 18 1) (fe_X12_winters 17) (fun _ _ => rfl) ?_
    refine t_go (op := o_ci 20 99) (fe_X12_winters 18) (fun _ _ => rfl) ?_
    refine t_call (op := o_callS 23 173 3) (fe_X12_winters 20) (g_callS rfl rfl rfl (Nat.le_of_ble_eq_true rfl)) ?_
    refine M_eq r_within ?_
    refine t_ite (op := o_if 26 35 (fun x => x = 0) (fun _ => inferInstance)) (fe_X12_winters 23) g_if (fun c2 => ?_) (fun c2 => ?_)
    · exact absurd (show ¬ nI q < 1 ∧ ¬ (99 : Int32) < nI q from ⟨nI_nlt (b := 1) hq1 (by omega), nI_nlt (a := 99) (by omega) (by omega)⟩) (b2i_z c2)
    · replace c2 := b2i_nn c2
      refine t_go (op := o_iload 27 3) (fe_X12_winters 26) (fun _ _ => rfl) ?_
      refine t_go (op := o_ci 28 0) (fe_X12_winters 27) (fun _ _ => rfl) ?_
      refine t_go (op := o_ci 29 2) (fe_X12_winters 28) (fun _ _ => rfl) ?_
      refine t_call (op := o_callS 32 173 3) (fe_X12_winters 29) (g_callS rfl rfl rfl (Nat.le_of_ble_eq_true rfl)) ?_
      refine M_eq r_within ?_
      refine t_ite (op := o_if 37 35 (fun x => x = 0) (fun _ => inferInstance)) (fe_X12_winters 32) g_if (fun c3 => ?_) (fun c3 => ?_)
      · exact absurd (show ¬ nI w < 0 ∧ ¬ (2 : Int32) < nI w from ⟨nI_pos (by omega), nI_nlt (a := 2) (by omega) (by omega)⟩) (b2i_z c3)
      · replace c3 := b2i_nn c3
        refine t_go (op := o_aload 38 0) (fe_X12_winters 37) (fun _ _ => rfl) ?_
        refine t_go (op := o_ci 39 0) (fe_X12_winters 38) (fun _ _ => rfl) ?_
        refine t_go (op := o_ci 42 924) (fe_X12_winters 39) (fun _ _ => rfl) ?_
        refine t_go (op := o_ci 44 23) (fe_X12_winters 42) (fun _ _ => rfl) ?_
        refine t_call (op := o_callV 47 196 4 11) (fe_X12_winters 44) (g_callV hS (show (lay 183).1 = 11 by decide) (by decide) rfl rfl rfl (Nat.le_of_ble_eq_true rfl)) ?_
        refine M_mono ?_ (r_copies (p := 0) (q := 924) (c := 23) hS (by decide) (by decide) (by decide))
        rintro _ h2 ⟨rfl, hz2, hc⟩
        have hBt := RB_copy hc (hB0.zf hz trl0)
        replace hz := hz.tr (hz2.mono (B := trl) (fun i q => ⟨by omega, by omega⟩))
        clear hz2
        have hS := (hP.zf hz).1.1
        have hE := (hP.zf hz).1.2.1
        refine t_go (op := o_aload 48 0) (fe_X12_winters 47) (fun _ _ => rfl) ?_
        refine t_go (op := o_iload 49 1) (fe_X12_winters 48) (fun _ _ => rfl) ?_
        refine t_go (op := o_i2l 50) (fe_X12_winters 49) (fun _ _ => rfl) ?_
        refine t_go (op := o_putJ 53 11 27) (fe_X12_winters 50) (g_putJ hS (show (lay 183).1 = 11 by decide) (by decide)) ?_
        rw [show Int32.toInt64 (nI y) = lN y from nI_l (by omega)]
        have hz5 := Zf.g2 (k := k) (u := k.2.1 183 27) (v := lN y) (by rw [sJ_id]; exact hz)
        have hz := hz5
        refine t_go (op := o_ci 54 0) (fe_X12_winters 53) (fun _ _ => rfl) ?_
        refine t_go (op := o_istore 56 4) (fe_X12_winters 54) (fun _ _ => rfl) ?_
        refine t_go (op := o_ci 57 0) (fe_X12_winters 56) (fun _ _ => rfl) ?_
        refine t_go (op := o_istore 59 5) (fe_X12_winters 57) (fun _ _ => rfl) ?_
        refine lr_win hP hT hq6 hM q 0 _ 0 F y (by omega) hz hBt (FW_le hW (by omega)) (by omega) fun S2 s2 hz hBt hWt => ?_
        have hPS := (hP.sj (u := lN s2)).zf hz
        have hS := hPS.1.1
        have hE := hPS.1.2.1
        have eG : it (winS h g n) q 0 (0, F, lN y) = winG h g n F q (nI y) := by unfold winG; rw [nI_l (by omega)]
        rw [eG] at hBt hWt ⊢
        refine t_go (op := o_iload 98 3) (fe_X12_winters 97) (fun _ _ => rfl) ?_
        refine t_ite (op := o_if 106 101 (fun x => x = 0) (fun _ => inferInstance)) (fe_X12_winters 98) g_if (fun c4 => ?_) (fun c4 => ?_)
        · refine t_go (op := o_iload 103 4) (fe_X12_winters 101) (fun _ _ => rfl) ?_
          refine t_go (op := o_goto 131) (fe_X12_winters 103) (fun _ _ => rfl) ?_
          refine t_ret (op := o_iret) (fe_X12_winters 131) (fun _ _ => rfl) ?_
          exact ⟨congrArg (fun z => some (Value.int z)) (show winH _ _ _ _ _ _ _ = _ from (if_pos c4)).symm, _, hz⟩
        · refine t_go (op := o_iload 107 3) (fe_X12_winters 106) (fun _ _ => rfl) ?_
          refine t_go (op := o_ci 108 1) (fe_X12_winters 107) (fun _ _ => rfl) ?_
          refine t_ite (op := o_icmp 124 111 (fun x y => x = y) (fun _ _ => inferInstance)) (fe_X12_winters 108) g_icmp (fun c5 => ?_) (fun c5 => ?_)
          · refine t_go (op := o_aload 112 0) (fe_X12_winters 111) (fun _ _ => rfl) ?_
            refine t_go (op := o_ci 115 924) (fe_X12_winters 112) (fun _ _ => rfl) ?_
            refine t_call (op := o_callV 118 205 2 11) (fe_X12_winters 115) (g_callV hS (show (lay 183).1 = 11 by decide) (by decide) rfl rfl rfl (Nat.le_of_ble_eq_true rfl)) ?_
            refine M_eq (r_alightNow (b := 924) hS hWt.1 hBt (by decide) hm hE hPS.1.2.2.2.1 hPS.1.2.2.2.2.1) ?_
            refine t_call (op := o_callS 121 210 1) (fe_X12_winters 118) (g_callS rfl rfl rfl (Nat.le_of_ble_eq_true rfl)) ?_
            refine M_eq (r_bits (lit_bits (h := h) (g := g) (n := n))) ?_
            refine t_go (op := o_goto 131) (fe_X12_winters 121) (fun _ _ => rfl) ?_
            refine t_ret (op := o_iret) (fe_X12_winters 131) (fun _ _ => rfl) ?_
            exact ⟨congrArg (fun z => some (Value.int z)) (show winH _ _ _ _ _ _ _ = _ from (Eq.trans (if_neg c4) (if_pos c5))).symm, _, hz⟩
          · refine t_go (op := o_aload 125 0) (fe_X12_winters 124) (fun _ _ => rfl) ?_
            refine t_go (op := o_ci 128 924) (fe_X12_winters 125) (fun _ _ => rfl) ?_
            refine t_call (op := o_callV 131 216 2 11) (fe_X12_winters 128) (g_callV hS (show (lay 183).1 = 11 by decide) (by decide) rfl rfl rfl (Nat.le_of_ble_eq_true rfl)) ?_
            refine M_eq (r_heatOfAll (b := 924) hPS.1 hWt.1 hBt (by decide)) ?_
            refine t_ret (op := o_iret) (fe_X12_winters 131) (fun _ _ => rfl) ?_
            exact ⟨congrArg (fun z => some (Value.int z)) (show winH _ _ _ _ _ _ _ = _ from (Eq.trans (if_neg c4) (if_neg c5))).symm, _, hz⟩
theorem r_wintersF {d : Nat} {k h : AHP} {m n g T : Nat} {F : FS} (hP : CP k h g n m) (hW : FW m T F) (hB0 : RB (k.1 197) 0 F) (hT : T < 90000) {x y z : Int32} (hn : ¬ ((¬ x < 0 ∧ ¬ 9999 < x) ∧ (¬ y < 1 ∧ ¬ 99 < y) ∧ (¬ z < 0 ∧ ¬ 2 < z))) : MM (d + 5) 267 [.ref 183, .int x, .int y, .int z] k (fun v h2 => v = some (.int (-1)) ∧ ∃ u, Zf trl (sJ k 183 27 u) h2) := by
  refine ⟨Nat.le_of_ble_eq_true rfl, ?_⟩
  have hm := hP.1.2.2.1
  have hS := hP.1.1
  have hE := hP.1.2.1
  refine t_go (op := o_aload 1 0) (fe_X12_winters 0) (fun _ _ => rfl) ?_
  refine t_go (op := o_ci 2 0) (fe_X12_winters 1) (fun _ _ => rfl) ?_
  refine t_go (op := o_putI 5 11 0) (fe_X12_winters 2) (g_putI hS (show (lay 183).1 = 11 by decide) (by decide)) ?_
  have hz : Zf trl k (sI k 183 0 0) := Zf_thr Zf.rf
  have hS := (hP.zf hz).1.1
  have hE := (hP.zf hz).1.2.1
  refine t_go (op := o_iload 6 1) (fe_X12_winters 5) (fun _ _ => rfl) ?_
  refine t_go (op := o_ci 7 0) (fe_X12_winters 6) (fun _ _ => rfl) ?_
  refine t_go (op := o_ci 10 9999) (fe_X12_winters 7) (fun _ _ => rfl) ?_
  refine t_call (op := o_callS 13 173 3) (fe_X12_winters 10) (g_callS rfl rfl rfl (Nat.le_of_ble_eq_true rfl)) ?_
  refine M_eq r_within ?_
  refine t_ite (op := o_if 16 35 (fun x => x = 0) (fun _ => inferInstance)) (fe_X12_winters 13) g_if (fun c1 => ?_) (fun c1 => ?_)
  · replace c1 := b2i_z c1
    refine t_go (op := o_ci 36 (-1)) (fe_X12_winters 35) (fun _ _ => rfl) ?_
    refine t_ret (op := o_iret) (fe_X12_winters 36) (fun _ _ => rfl) ?_
    exact ⟨rfl, k.2.1 183 27, by rw [sJ_id]; exact hz⟩
  · replace c1 := b2i_nn c1
    refine t_go (op := o_iload 17 2) (fe_X12_winters 16) (fun _ _ => rfl) ?_
    refine t_go (op := o_ci 18 1) (fe_X12_winters 17) (fun _ _ => rfl) ?_
    refine t_go (op := o_ci 20 99) (fe_X12_winters 18) (fun _ _ => rfl) ?_
    refine t_call (op := o_callS 23 173 3) (fe_X12_winters 20) (g_callS rfl rfl rfl (Nat.le_of_ble_eq_true rfl)) ?_
    refine M_eq r_within ?_
    refine t_ite (op := o_if 26 35 (fun x => x = 0) (fun _ => inferInstance)) (fe_X12_winters 23) g_if (fun c2 => ?_) (fun c2 => ?_)
    · replace c2 := b2i_z c2
      refine t_go (op := o_ci 36 (-1)) (fe_X12_winters 35) (fun _ _ => rfl) ?_
      refine t_ret (op := o_iret) (fe_X12_winters 36) (fun _ _ => rfl) ?_
      exact ⟨rfl, k.2.1 183 27, by rw [sJ_id]; exact hz⟩
    · replace c2 := b2i_nn c2
      refine t_go (op := o_iload 27 3) (fe_X12_winters 26) (fun _ _ => rfl) ?_
      refine t_go (op := o_ci 28 0) (fe_X12_winters 27) (fun _ _ => rfl) ?_
      refine t_go (op := o_ci 29 2) (fe_X12_winters 28) (fun _ _ => rfl) ?_
      refine t_call (op := o_callS 32 173 3) (fe_X12_winters 29) (g_callS rfl rfl rfl (Nat.le_of_ble_eq_true rfl)) ?_
      refine M_eq r_within ?_
      refine t_ite (op := o_if 37 35 (fun x => x = 0) (fun _ => inferInstance)) (fe_X12_winters 32) g_if (fun c3 => ?_) (fun c3 => ?_)
      · replace c3 := b2i_z c3
        refine t_go (op := o_ci 36 (-1)) (fe_X12_winters 35) (fun _ _ => rfl) ?_
        refine t_ret (op := o_iret) (fe_X12_winters 36) (fun _ _ => rfl) ?_
        exact ⟨rfl, k.2.1 183 27, by rw [sJ_id]; exact hz⟩
      · exact absurd ⟨c1, c2, b2i_nn c3⟩ hn
