/-! ===== the reference: bits, kindle, save ===== -/
def bitS (x : Int32) (i : Nat) (s : Int32) : Int32 := s + ((x >>> (nI i &&& 31)) &&& 1)
theorem bits_at {x : Int32} : ∀ i, i ≤ 32 → it (bitS x) i 0 0 = nI (cntN (bt x) i) := by
  intro i
  induction i with
  | zero => intro _; rfl
  | succ i ih =>
    intro hi
    rw [it_snoc, ih (by omega), bitS, bit_and (by omega), cntN]
    split
    · exact nI_add _ 1
    · rw [Int32.add_zero, Nat.add_zero]
theorem cnt_tail {f : Nat → Bool} {a : Nat} (h : ∀ i, a ≤ i → f i = false) : ∀ n, a ≤ n → cntN f n = cntN f a := by
  intro n
  induction n with
  | zero => intro h2; rw [show a = 0 by omega]
  | succ n ih =>
    intro h2
    by_cases h3 : a = n + 1
    · rw [h3]
    · rw [cntN, h n (by omega), ih (by omega)]; rfl
theorem bits_eq {x : Int32} (h : ∀ i, 12 ≤ i → i < 32 → bt x i = false) : it (bitS x) 30 0 0 = bcI x := by
  rw [bits_at 30 (by omega), bc_eq h, cnt_tail (a := 12) (fun i hi => by
    rcases Nat.lt_or_ge i 32 with q | q
    · exact h i hi q
    · exact b_big q) 30 (by omega)]
theorem lr_bits {d : Nat} {k : AHP} {x : Int32} {Q : Option Value → AHP → Prop} : ∀ (j i : Nat) (s : Int32), i + j = 30 → Q (some (.int (it (bitS x) j i s))) k → TT d 210 4 [some (.int x), some (.int s), some (.int (nI i))] [] k Q := by
  intro j
  induction j with
  | zero =>
    intro i s hi  hq
    have hN : i = 30 := by omega
    refine t_go (op := o_iload 5 2) (fe_X12_bits 4) (fun _ _ => rfl) ?_
    refine t_go (op := o_ci 7 30) (fe_X12_bits 5) (fun _ _ => rfl) ?_
    refine t_ite (op := o_icmp 10 24 (fun x y => y ≤ x) (fun _ _ => inferInstance)) (fe_X12_bits 7) g_icmp (fun c1 => ?_) (fun c1 => ?_)
    · refine t_go (op := o_iload 25 1) (fe_X12_bits 24) (fun _ _ => rfl) ?_
      refine t_ret (op := o_iret) (fe_X12_bits 25) (fun _ _ => rfl) ?_
      exact hq
    · exact absurd (by rw [hN]; exact Int32.le_refl _) c1
  | succ j ih =>
    intro i s hi  hq
    have hi7 : i < 30 := by omega
    refine t_go (op := o_iload 5 2) (fe_X12_bits 4) (fun _ _ => rfl) ?_
    refine t_go (op := o_ci 7 30) (fe_X12_bits 5) (fun _ _ => rfl) ?_
    refine t_ite (op := o_icmp 10 24 (fun x y => y ≤ x) (fun _ _ => inferInstance)) (fe_X12_bits 7) g_icmp (fun c1 => ?_) (fun c1 => ?_)
    · exact absurd c1 (nI_ge hi7 (by decide))
    · refine t_go (op := o_iload 11 1) (fe_X12_bits 10) (fun _ _ => rfl) ?_
      refine t_go (op := o_iload 12 0) (fe_X12_bits 11) (fun _ _ => rfl) ?_
      refine t_go (op := o_iload 13 2) (fe_X12_bits 12) (fun _ _ => rfl) ?_
      refine t_go (op := o_i2 14 (fun x y => x >>> (y &&& 31))) (fe_X12_bits 13) (fun _ _ => rfl) ?_
      refine t_go (op := o_ci 15 1) (fe_X12_bits 14) (fun _ _ => rfl) ?_
      refine t_go (op := o_i2 16 (fun x y => x &&& y)) (fe_X12_bits 15) (fun _ _ => rfl) ?_
      refine t_go (op := o_i2 17 (fun x y => x + y)) (fe_X12_bits 16) (fun _ _ => rfl) ?_
      refine t_go (op := o_istore 18 1) (fe_X12_bits 17) (fun _ _ => rfl) ?_
      refine t_go (op := o_iinc 21 2 1) (fe_X12_bits 18) (fun _ _ => rfl) ?_
      refine t_go (op := o_goto 4) (fe_X12_bits 21) (fun _ _ => rfl) ?_
      rw [it_step, bitS] at hq
      rw [nI_1]
      exact ih (i + 1) _ (by omega) hq
theorem r_bits {d : Nat} {k : AHP} {x : Int32} (hx : ∀ i, 12 ≤ i → i < 32 → bt x i = false) : MM d 210 [.int x] k (fun v h2 => v = some (.int (bcI x)) ∧ h2 = k) := by
  refine ⟨Nat.le_of_ble_eq_true rfl, ?_⟩
  refine t_go (op := o_ci 1 0) (fe_X12_bits 0) (fun _ _ => rfl) ?_
  refine t_go (op := o_istore 2 1) (fe_X12_bits 1) (fun _ _ => rfl) ?_
  refine t_go (op := o_ci 3 0) (fe_X12_bits 2) (fun _ _ => rfl) ?_
  refine t_go (op := o_istore 4 2) (fe_X12_bits 3) (fun _ _ => rfl) ?_
  exact lr_bits 30 0 0 (by omega) ⟨by rw [bits_eq hx], rfl⟩
theorem lr_there0 {d : Nat} {k : AHP} {m : Nat} {F : FS} (hS : Std k) (hE : k.1 189 0 = nI m) (hm : m ≤ 7) (hV : FV m F) (hB : RB (k.1 197) 0 F) {K : Nat → Int32} (hK : ∀ e, e < m → k.1 189 (4 + 4 * e) = K e) {Q : Option Value → AHP → Prop} : ∀ (j i : Nat) (s : Int32), i + j = m → Q (some (.int (it (burnB F K) j i s))) k → TT (d + 1) 246 4 [some (.ref 183), some (.int (0)), some (.int s), some (.int (nI i))] [] k Q := by
  intro j
  induction j with
  | zero =>
    intro i s hi  hq
    have hN : i = m := by omega
    refine t_go (op := o_iload 5 3) (fe_X12_thereNow 4) (fun _ _ => rfl) ?_
    refine t_go (op := o_aload 6 0) (fe_X12_thereNow 5) (fun _ _ => rfl) ?_
    refine t_call (op := o_callV 9 200 1 11) (fe_X12_thereNow 6) (g_callV hS (show (lay 183).1 = 11 by decide) (by decide) rfl rfl rfl (Nat.le_of_ble_eq_true rfl)) ?_
    refine M_eq (r_embers hS hE) ?_
    refine t_ite (op := o_icmp 12 51 (fun x y => y ≤ x) (fun _ _ => inferInstance)) (fe_X12_thereNow 9) g_icmp (fun c1 => ?_) (fun c1 => ?_)
    · refine t_go (op := o_iload 52 2) (fe_X12_thereNow 51) (fun _ _ => rfl) ?_
      refine t_ret (op := o_iret) (fe_X12_thereNow 52) (fun _ _ => rfl) ?_
      exact hq
    · exact absurd (by rw [hN]; exact Int32.le_refl _) c1
  | succ j ih =>
    intro i s hi  hq
    have hi7 : i < m := by omega
    refine t_go (op := o_iload 5 3) (fe_X12_thereNow 4) (fun _ _ => rfl) ?_
    refine t_go (op := o_aload 6 0) (fe_X12_thereNow 5) (fun _ _ => rfl) ?_
    refine t_call (op := o_callV 9 200 1 11) (fe_X12_thereNow 6) (g_callV hS (show (lay 183).1 = 11 by decide) (by decide) rfl rfl rfl (Nat.le_of_ble_eq_true rfl)) ?_
    refine M_eq (r_embers hS hE) ?_
    refine t_ite (op := o_icmp 12 51 (fun x y => y ≤ x) (fun _ _ => inferInstance)) (fe_X12_thereNow 9) g_icmp (fun c1 => ?_) (fun c1 => ?_)
    · exact absurd c1 (nI_ge hi7 (by omega))
    · refine t_go (op := o_iload 13 2) (fe_X12_thereNow 12) (fun _ _ => rfl) ?_
      refine t_go (op := o_aload 14 0) (fe_X12_thereNow 13) (fun _ _ => rfl) ?_
      refine t_go (op := o_ci 15 0) (fe_X12_thereNow 14) (fun _ _ => rfl) ?_
      refine t_go (op := o_iload 16 3) (fe_X12_thereNow 15) (fun _ _ => rfl) ?_
      refine t_call (op := o_callV 19 203 3 11) (fe_X12_thereNow 16) (g_callV hS (show (lay 183).1 = 11 by decide) (by decide) rfl rfl rfl (Nat.le_of_ble_eq_true rfl)) ?_
      refine M_eq (r_isThere (b := 0) hS hV hB (by decide) (e := i) (by omega)) ?_
      refine t_ite (op := o_if 22 42 (fun x => x = 0) (fun _ => inferInstance)) (fe_X12_thereNow 19) g_if (fun c2 => ?_) (fun c2 => ?_)
      · replace c2 := b2i_z c2
        refine t_go (op := o_ci 43 0) (fe_X12_thereNow 42) (fun _ _ => rfl) ?_
        refine t_go (op := o_i2 44 (fun x y => x ||| y)) (fe_X12_thereNow 43) (fun _ _ => rfl) ?_
        refine t_go (op := o_istore 45 2) (fe_X12_thereNow 44) (fun _ _ => rfl) ?_
        refine t_go (op := o_iinc 48 3 1) (fe_X12_thereNow 45) (fun _ _ => rfl) ?_
        refine t_go (op := o_goto 4) (fe_X12_thereNow 48) (fun _ _ => rfl) ?_
        have eS : burnB F K i s = _ := if_neg fun q => c2 q.1
        rw [it_step, eS] at hq
        rw [← Int32.or_zero (a := s)] at hq
        rw [nI_1]
        exact ih (i + 1) _ (by omega) hq
      · replace c2 := b2i_nn c2
        refine t_go (op := o_iload 23 1) (fe_X12_thereNow 22) (fun _ _ => rfl) ?_
        refine t_ite (op := o_if 36 26 (fun x => x = 0) (fun _ => inferInstance)) (fe_X12_thereNow 23) g_if (fun c3 => ?_) (fun c3 => ?_)
        · clear c3
          refine t_go (op := o_aload 27 0) (fe_X12_thereNow 26) (fun _ _ => rfl) ?_
          refine t_go (op := o_iload 28 3) (fe_X12_thereNow 27) (fun _ _ => rfl) ?_
          refine t_go (op := o_ci 29 0) (fe_X12_thereNow 28) (fun _ _ => rfl) ?_
          refine t_call (op := o_callV 32 201 3 11) (fe_X12_thereNow 29) (g_callV hS (show (lay 183).1 = 11 by decide) (by decide) rfl rfl rfl (Nat.le_of_ble_eq_true rfl)) ?_
          refine M_eq (r_emberOf (by exact hS) (e := i) (w := 0) (by omega)) ?_
          rw [show 4 + 4 * i + 0 = 4 + 4 * i from rfl, hK i hi7]
          refine t_go (op := o_ci 33 3) (fe_X12_thereNow 32) (fun _ _ => rfl) ?_
          refine t_ite (op := o_icmp 36 42 (fun x y => x = y) (fun _ _ => inferInstance)) (fe_X12_thereNow 33) g_icmp (fun c4 => ?_) (fun c4 => ?_)
          · refine t_go (op := o_ci 43 0) (fe_X12_thereNow 42) (fun _ _ => rfl) ?_
            refine t_go (op := o_i2 44 (fun x y => x ||| y)) (fe_X12_thereNow 43) (fun _ _ => rfl) ?_
            refine t_go (op := o_istore 45 2) (fe_X12_thereNow 44) (fun _ _ => rfl) ?_
            refine t_go (op := o_iinc 48 3 1) (fe_X12_thereNow 45) (fun _ _ => rfl) ?_
            refine t_go (op := o_goto 4) (fe_X12_thereNow 48) (fun _ _ => rfl) ?_
            have eS : burnB F K i s = _ := if_neg fun q => q.2 (by rw [nI_clamp (by omega)]; exact c4)
            rw [it_step, eS] at hq
            rw [← Int32.or_zero (a := s)] at hq
            rw [nI_1]
            exact ih (i + 1) _ (by omega) hq
          · refine t_go (op := o_ci 37 1) (fe_X12_thereNow 36) (fun _ _ => rfl) ?_
            refine t_go (op := o_iload 38 3) (fe_X12_thereNow 37) (fun _ _ => rfl) ?_
            refine t_go (op := o_i2 39 (fun x y => x <<< (y &&& 31))) (fe_X12_thereNow 38) (fun _ _ => rfl) ?_
            refine t_go (op := o_goto 43) (fe_X12_thereNow 39) (fun _ _ => rfl) ?_
            refine t_go (op := o_i2 44 (fun x y => x ||| y)) (fe_X12_thereNow 43) (fun _ _ => rfl) ?_
            refine t_go (op := o_istore 45 2) (fe_X12_thereNow 44) (fun _ _ => rfl) ?_
            refine t_go (op := o_iinc 48 3 1) (fe_X12_thereNow 45) (fun _ _ => rfl) ?_
            refine t_go (op := o_goto 4) (fe_X12_thereNow 48) (fun _ _ => rfl) ?_
            have eS : burnB F K i s = _ := if_pos ⟨c2, by rw [nI_clamp (by omega)]; exact c4⟩
            rw [it_step, eS] at hq
            rw [nI_1]
            exact ih (i + 1) _ (by omega) hq
        · exact absurd (by decide) c3
theorem there_m0 {m : Nat} {F : FS} {K : Nat → Int32} (hV : FV m F) (hm : m ≤ 7) : it (burnB F K) 7 0 0 = it (burnB F K) m 0 0 := it_more hm fun t s h1 h2 => if_neg fun q => FV_no hV h2 h1 q.1
theorem r_there0 {d : Nat} {k : AHP} {m : Nat} {F : FS} (hS : Std k) (hE : k.1 189 0 = nI m) (hm : m ≤ 7) (hV : FV m F) (hB : RB (k.1 197) 0 F) {K : Nat → Int32} (hK : ∀ e, e < m → k.1 189 (4 + 4 * e) = K e) : MM (d + 1) 246 [.ref 183, .int (0)] k (fun v h2 => v = some (.int (it (burnB F K) 7 0 0)) ∧ h2 = k) := by
  refine ⟨Nat.le_of_ble_eq_true rfl, ?_⟩
  refine t_go (op := o_ci 1 0) (fe_X12_thereNow 0) (fun _ _ => rfl) ?_
  refine t_go (op := o_istore 2 2) (fe_X12_thereNow 1) (fun _ _ => rfl) ?_
  refine t_go (op := o_ci 3 0) (fe_X12_thereNow 2) (fun _ _ => rfl) ?_
  refine t_go (op := o_istore 4 3) (fe_X12_thereNow 3) (fun _ _ => rfl) ?_
  exact lr_there0 hS hE hm hV hB hK m 0 0 (by omega) ⟨by rw [there_m0 hV hm], rfl⟩
theorem lr_there1 {d : Nat} {k : AHP} {m : Nat} {F : FS} (hS : Std k) (hE : k.1 189 0 = nI m) (hm : m ≤ 7) (hV : FV m F) (hB : RB (k.1 197) 0 F) {Q : Option Value → AHP → Prop} : ∀ (j i : Nat) (s : Int32), i + j = m → Q (some (.int (it (hereS F) j i s))) k → TT (d + 1) 246 4 [some (.ref 183), some (.int (1)), some (.int s), some (.int (nI i))] [] k Q := by
  intro j
  induction j with
  | zero =>
    intro i s hi  hq
    have hN : i = m := by omega
    refine t_go (op := o_iload 5 3) (fe_X12_thereNow 4) (fun _ _ => rfl) ?_
    refine t_go (op := o_aload 6 0) (fe_X12_thereNow 5) (fun _ _ => rfl) ?_
    refine t_call (op := o_callV 9 200 1 11) (fe_X12_thereNow 6) (g_callV hS (show (lay 183).1 = 11 by decide) (by decide) rfl rfl rfl (Nat.le_of_ble_eq_true rfl)) ?_
    refine M_eq (r_embers hS hE) ?_
    refine t_ite (op := o_icmp 12 51 (fun x y => y ≤ x) (fun _ _ => inferInstance)) (fe_X12_thereNow 9) g_icmp (fun c1 => ?_) (fun c1 => ?_)
    · refine t_go (op := o_iload 52 2) (fe_X12_thereNow 51) (fun _ _ => rfl) ?_
      refine t_ret (op := o_iret) (fe_X12_thereNow 52) (fun _ _ => rfl) ?_
      exact hq
    · exact absurd (by rw [hN]; exact Int32.le_refl _) c1
  | succ j ih =>
    intro i s hi  hq
    have hi7 : i < m := by omega
    refine t_go (op := o_iload 5 3) (fe_X12_thereNow 4) (fun _ _ => rfl) ?_
    refine t_go (op := o_aload 6 0) (fe_X12_thereNow 5) (fun _ _ => rfl) ?_
    refine t_call (op := o_callV 9 200 1 11) (fe_X12_thereNow 6) (g_callV hS (show (lay 183).1 = 11 by decide) (by decide) rfl rfl rfl (Nat.le_of_ble_eq_true rfl)) ?_
    refine M_eq (r_embers hS hE) ?_
    refine t_ite (op := o_icmp 12 51 (fun x y => y ≤ x) (fun _ _ => inferInstance)) (fe_X12_thereNow 9) g_icmp (fun c1 => ?_) (fun c1 => ?_)
    · exact absurd c1 (nI_ge hi7 (by omega))
    · refine t_go (op := o_iload 13 2) (fe_X12_thereNow 12) (fun _ _ => rfl) ?_
      refine t_go (op := o_aload 14 0) (fe_X12_thereNow 13) (fun _ _ => rfl) ?_
      refine t_go (op := o_ci 15 0) (fe_X12_thereNow 14) (fun _ _ => rfl) ?_
      refine t_go (op := o_iload 16 3) (fe_X12_thereNow 15) (fun _ _ => rfl) ?_
      refine t_call (op := o_callV 19 203 3 11) (fe_X12_thereNow 16) (g_callV hS (show (lay 183).1 = 11 by decide) (by decide) rfl rfl rfl (Nat.le_of_ble_eq_true rfl)) ?_
      refine M_eq (r_isThere (b := 0) hS hV hB (by decide) (e := i) (by omega)) ?_
      refine t_ite (op := o_if 22 42 (fun x => x = 0) (fun _ => inferInstance)) (fe_X12_thereNow 19) g_if (fun c2 => ?_) (fun c2 => ?_)
      · replace c2 := b2i_z c2
        refine t_go (op := o_ci 43 0) (fe_X12_thereNow 42) (fun _ _ => rfl) ?_
        refine t_go (op := o_i2 44 (fun x y => x ||| y)) (fe_X12_thereNow 43) (fun _ _ => rfl) ?_
        refine t_go (op := o_istore 45 2) (fe_X12_thereNow 44) (fun _ _ => rfl) ?_
        refine t_go (op := o_iinc 48 3 1) (fe_X12_thereNow 45) (fun _ _ => rfl) ?_
        refine t_go (op := o_goto 4) (fe_X12_thereNow 48) (fun _ _ => rfl) ?_
        have eS : hereS F i s = _ := if_neg fun q => c2 q
        rw [it_step, eS] at hq
        rw [← Int32.or_zero (a := s)] at hq
        rw [nI_1]
        exact ih (i + 1) _ (by omega) hq
      · replace c2 := b2i_nn c2
        refine t_go (op := o_iload 23 1) (fe_X12_thereNow 22) (fun _ _ => rfl) ?_
        refine t_ite (op := o_if 36 26 (fun x => x = 0) (fun _ => inferInstance)) (fe_X12_thereNow 23) g_if (fun c3 => ?_) (fun c3 => ?_)
        · exact absurd c3 (by decide)
        · clear c3
          refine t_go (op := o_ci 37 1) (fe_X12_thereNow 36) (fun _ _ => rfl) ?_
          refine t_go (op := o_iload 38 3) (fe_X12_thereNow 37) (fun _ _ => rfl) ?_
          refine t_go (op := o_i2 39 (fun x y => x <<< (y &&& 31))) (fe_X12_thereNow 38) (fun _ _ => rfl) ?_
          refine t_go (op := o_goto 43) (fe_X12_thereNow 39) (fun _ _ => rfl) ?_
          refine t_go (op := o_i2 44 (fun x y => x ||| y)) (fe_X12_thereNow 43) (fun _ _ => rfl) ?_
          refine t_go (op := o_istore 45 2) (fe_X12_thereNow 44) (fun _ _ => rfl) ?_
          refine t_go (op := o_iinc 48 3 1) (fe_X12_thereNow 45) (fun _ _ => rfl) ?_
          refine t_go (op := o_goto 4) (fe_X12_thereNow 48) (fun _ _ => rfl) ?_
          have eS : hereS F i s = _ := if_pos c2
          rw [it_step, eS] at hq
          rw [nI_1]
          exact ih (i + 1) _ (by omega) hq
theorem there_m1 {m : Nat} {F : FS} (hV : FV m F) (hm : m ≤ 7) : it (hereS F) 7 0 0 = it (hereS F) m 0 0 := it_more hm fun t s h1 h2 => if_neg fun q => FV_no hV h2 h1 q
theorem r_there1 {d : Nat} {k : AHP} {m : Nat} {F : FS} (hS : Std k) (hE : k.1 189 0 = nI m) (hm : m ≤ 7) (hV : FV m F) (hB : RB (k.1 197) 0 F) : MM (d + 1) 246 [.ref 183, .int (1)] k (fun v h2 => v = some (.int (it (hereS F) 7 0 0)) ∧ h2 = k) := by
  refine ⟨Nat.le_of_ble_eq_true rfl, ?_⟩
  refine t_go (op := o_ci 1 0) (fe_X12_thereNow 0) (fun _ _ => rfl) ?_
  refine t_go (op := o_istore 2 2) (fe_X12_thereNow 1) (fun _ _ => rfl) ?_
  refine t_go (op := o_ci 3 0) (fe_X12_thereNow 2) (fun _ _ => rfl) ?_
  refine t_go (op := o_istore 4 3) (fe_X12_thereNow 3) (fun _ _ => rfl) ?_
  exact lr_there1 hS hE hm hV hB m 0 0 (by omega) ⟨by rw [there_m1 hV hm], rfl⟩
theorem lr_ever {d : Nat} {k h : AHP} {m n g T : Nat} (hP : CP k h g n m) (hT : T < 98000) {Q : Option Value → AHP → Prop} : ∀ (j i : Nat) (S : AHP) (s : Int32) (G : FS), i + j = 12 → Zf trl k S → RB (S.1 197) 882 G → FW m (T + i) G → (∀ S2, Zf trl k S2 → Q (some (.int (it (glowS h g n) j i (s, G)).1)) S2) → TT (d + 5) 245 10 [some (.ref 183), some (.int (12)), some (.int s), some (.int (nI i))] [] S Q := by
  intro j
  induction j with
  | zero =>
    intro i S s G hi hz hBt hWt hq
    have hN : i = 12 := by omega
    have hm := hP.1.2.2.1
    have hS := (hP.zf hz).1.1
    have hE := (hP.zf hz).1.2.1
    refine t_go (op := o_iload 11 3) (fe_X12_everAlight 10) (fun _ _ => rfl) ?_
    refine t_go (op := o_iload 12 1) (fe_X12_everAlight 11) (fun _ _ => rfl) ?_
    refine t_ite (op := o_icmp 15 39 (fun x y => y ≤ x) (fun _ _ => inferInstance)) (fe_X12_everAlight 12) g_icmp (fun c1 => ?_) (fun c1 => ?_)
    · refine t_go (op := o_iload 40 2) (fe_X12_everAlight 39) (fun _ _ => rfl) ?_
      refine t_ret (op := o_iret) (fe_X12_everAlight 40) (fun _ _ => rfl) ?_
      exact hq S hz
    · exact absurd (by rw [hN]; exact Int32.le_refl _) c1
  | succ j ih =>
    intro i S s G hi hz hBt hWt hq
    have hi7 : i < 12 := by omega
    have hm := hP.1.2.2.1
    have hS := (hP.zf hz).1.1
    have hE := (hP.zf hz).1.2.1
    refine t_go (op := o_iload 11 3) (fe_X12_everAlight 10) (fun _ _ => rfl) ?_
    refine t_go (op := o_iload 12 1) (fe_X12_everAlight 11) (fun _ _ => rfl) ?_
    refine t_ite (op := o_icmp 15 39 (fun x y => y ≤ x) (fun _ _ => inferInstance)) (fe_X12_everAlight 12) g_icmp (fun c1 => ?_) (fun c1 => ?_)
    · exact absurd c1 (nI_ge hi7 (by decide))
    · refine t_go (op := o_aload 16 0) (fe_X12_everAlight 15) (fun _ _ => rfl) ?_
      refine t_go (op := o_ci 19 882) (fe_X12_everAlight 16) (fun _ _ => rfl) ?_
      refine t_call (op := o_callV 22 215 2 11) (fe_X12_everAlight 19) (g_callV hS (show (lay 183).1 = 11 by decide) (by decide) rfl rfl rfl (Nat.le_of_ble_eq_true rfl)) ?_
      refine M_mono ?_ (r_hour (b := 882) (hP.zf hz) hWt hBt (by decide) (by omega))
      rintro _ h2 ⟨rfl, hz2, hB2⟩
      replace hz := hz.tr (hz2.mono trl_b)
      clear hz2
      have hS := (hP.zf hz).1.1
      have hE := (hP.zf hz).1.2.1
      replace hBt := hB2
      clear hB2
      replace hWt := FW_HF (h := h) (g := g) (n := n) hm hWt
      refine t_go (op := o_popI 23) (fe_X12_everAlight 22) (fun _ _ => rfl) ?_
      refine t_go (op := o_iload 24 2) (fe_X12_everAlight 23) (fun _ _ => rfl) ?_
      refine t_go (op := o_aload 25 0) (fe_X12_everAlight 24) (fun _ _ => rfl) ?_
      refine t_go (op := o_ci 28 882) (fe_X12_everAlight 25) (fun _ _ => rfl) ?_
      refine t_call (op := o_callV 31 205 2 11) (fe_X12_everAlight 28) (g_callV hS (show (lay 183).1 = 11 by decide) (by decide) rfl rfl rfl (Nat.le_of_ble_eq_true rfl)) ?_
      refine M_eq (r_alightNow (b := 882) hS hWt.1 hBt (by decide) hm hE (hP.zf hz).1.2.2.2.1 (hP.zf hz).1.2.2.2.2.1) ?_
      refine t_go (op := o_i2 32 (fun x y => x ||| y)) (fe_X12_everAlight 31) (fun _ _ => rfl) ?_
      refine t_go (op := o_istore 33 2) (fe_X12_everAlight 32) (fun _ _ => rfl) ?_
      refine t_go (op := o_iinc 36 3 1) (fe_X12_everAlight 33) (fun _ _ => rfl) ?_
      refine t_go (op := o_goto 10) (fe_X12_everAlight 36) (fun _ _ => rfl) ?_
      rw [it_step] at hq
      rw [nI_1]
      exact ih (i + 1) _ _ (HF h g n G) (by omega) hz hBt hWt hq
theorem r_ever {d : Nat} {k h : AHP} {m n g T : Nat} {G : FS} (hP : CP k h g n m) (hT : T < 98000) (hBt : RB (k.1 197) 882 G) (hWt : FW m T G) : MM (d + 5) 245 [.ref 183, .int (12)] k (fun v h2 => v = some (.int (glowV h g n G)) ∧ Zf trl k h2) := by
  refine ⟨Nat.le_of_ble_eq_true rfl, ?_⟩
  have hm := hP.1.2.2.1
  have hS := hP.1.1
  have hE := hP.1.2.1
  have hz : Zf trl k k := Zf.rf
  refine t_go (op := o_aload 1 0) (fe_X12_everAlight 0) (fun _ _ => rfl) ?_
  refine t_go (op := o_ci 4 882) (fe_X12_everAlight 1) (fun _ _ => rfl) ?_
  refine t_call (op := o_callV 7 205 2 11) (fe_X12_everAlight 4) (g_callV hS (show (lay 183).1 = 11 by decide) (by decide) rfl rfl rfl (Nat.le_of_ble_eq_true rfl)) ?_
  refine M_eq (r_alightNow (b := 882) hS hWt.1 hBt (by decide) hm hE (hP.zf hz).1.2.2.2.1 (hP.zf hz).1.2.2.2.2.1) ?_
  refine t_go (op := o_istore 8 2) (fe_X12_everAlight 7) (fun _ _ => rfl) ?_
  refine t_go (op := o_ci 9 0) (fe_X12_everAlight 8) (fun _ _ => rfl) ?_
  refine t_go (op := o_istore 10 3) (fe_X12_everAlight 9) (fun _ _ => rfl) ?_
  exact lr_ever hP hT 12 0 k _ G (by omega) Zf.rf hBt (FW_le hWt (by omega)) fun S2 hz => ⟨rfl, hz⟩
theorem full_1 {x : Int32} {e : Nat} {G : FS} : (fullS x e G).1 = G.1 ∧ (fullS x e G).2.2 = G.2.2 := by
  unfold fullS
  split <;> exact ⟨rfl, rfl⟩
theorem full_t {x : Int32} {e : Nat} {G : FS} (he : e < 7) (hb : bitI x (nI e)) (hh : hasF G (nI e)) : fullS x e G = (G.1, fup G.2.1 e 20, G.2.2) := by
  rw [fullS, if_pos ⟨hb, hh⟩, nI_clamp (by omega)]
theorem full_f {x : Int32} {e : Nat} {G : FS} (hb : ¬ bitI x (nI e)) : fullS x e G = G := if_neg fun q => hb q.1
theorem FV_full {m e : Nat} {x : Int32} {G : FS} (hV : FV m G) (he : e < 7) : FV m (fullS x e G) := by
  by_cases h : bitI x (nI e) ∧ hasF G (nI e)
  · rw [full_t he h.1 h.2]; exact FV_heat (x := 20) hV (by omega) h.2 he
  · rw [fullS, if_neg h]; exact hV
theorem full_it {x : Int32} : ∀ (j i : Nat) (G : FS), (it (fullS x) j i G).1 = G.1 ∧ (it (fullS x) j i G).2.2 = G.2.2 := by
  intro j
  induction j with
  | zero => intro i G; exact ⟨rfl, rfl⟩
  | succ j ih => intro i G; rw [it_step]; have h1 := ih (i + 1) (fullS x i G); have h2 := full_1 (x := x) (e := i) (G := G); exact ⟨h1.1.trans h2.1, h1.2.trans h2.2⟩
theorem FV_fulls {m : Nat} {x : Int32} {F : FS} (hV : FV m F) : FV m (it (fullS x) 7 0 F) := it_inv7 (P := FV m) (n := 7) (fun i s hi hs => FV_full hs hi) 7 0 F (by omega) hV
theorem full_m {m : Nat} {x : Int32} {F : FS} (hV : FV m F) (hm : m ≤ 7) : it (fullS x) 7 0 F = it (fullS x) m 0 F := it_moreP (fun G => G.1 = F.1) hm (full_it m 0 F).1 fun t G hG h1 h2 => if_neg fun q => FV_no hV h2 h1 ((hasF_cg h2 (by rw [hG])).mp q.2)
theorem FW_fulls {m T : Nat} {x : Int32} {F : FS} (hW : FW m T F) : FW m T (it (fullS x) 7 0 F) := FW_of hW (FV_fulls hW.1) (by rw [(full_it 7 0 F).2])
theorem bit_cmp {x : Int32} {e : Nat} : (x >>> (nI e &&& 31)) &&& 1 = 1 ↔ bitI x (nI e) := Iff.rfl
theorem lr_kinI {d : Nat} {k h : AHP} {m n g : Nat} {F : FS} (hP : CP k h g n m) {a b x : Int32} (hsub : ∀ e, e < m → bitI x (nI e) → hasF F (nI e)) {Q : Option Value → AHP → Prop} : ∀ (j i : Nat) (S : AHP) (G : FS), i + j = m → Zf trl k S → RB (S.1 197) 882 G → G.1 = F.1 → (∀ S2, Zf trl k S2 → RB (S2.1 197) 882 (it (fullS x) j i G) → TT (d + 6) 247 107 [some (.ref 183), some (.int a), some (.int b), some (.int x), some (.int (nI m))] [] S2 Q) → TT (d + 6) 247 55 [some (.ref 183), some (.int a), some (.int b), some (.int x), some (.int (nI i))] [] S Q := by
  intro j
  induction j with
  | zero =>
    intro i S G hi hz hBt hG hq
    have hN : i = m := by omega
    have hm := hP.1.2.2.1
    have hS := (hP.zf hz).1.1
    have hE := (hP.zf hz).1.2.1
    refine t_go (op := o_iload 57 4) (fe_X12_kindle 55) (fun _ _ => rfl) ?_
    refine t_go (op := o_aload 58 0) (fe_X12_kindle 57) (fun _ _ => rfl) ?_
    refine t_call (op := o_callV 61 200 1 11) (fe_X12_kindle 58) (g_callV hS (show (lay 183).1 = 11 by decide) (by decide) rfl rfl rfl (Nat.le_of_ble_eq_true rfl)) ?_
    refine M_eq (r_embers hS hE) ?_
    refine t_ite (op := o_icmp 64 107 (fun x y => y ≤ x) (fun _ _ => inferInstance)) (fe_X12_kindle 61) g_icmp (fun c1 => ?_) (fun c1 => ?_)
    · have eN : nI i = nI m := by rw [hN]
      rw [eN]
      exact hq S hz hBt
    · exact absurd (by rw [hN]; exact Int32.le_refl _) c1
  | succ j ih =>
    intro i S G hi hz hBt hG hq
    have hi7 : i < m := by omega
    have hm := hP.1.2.2.1
    have hS := (hP.zf hz).1.1
    have hE := (hP.zf hz).1.2.1
    refine t_go (op := o_iload 57 4) (fe_X12_kindle 55) (fun _ _ => rfl) ?_
    refine t_go (op := o_aload 58 0) (fe_X12_kindle 57) (fun _ _ => rfl) ?_
    refine t_call (op := o_callV 61 200 1 11) (fe_X12_kindle 58) (g_callV hS (show (lay 183).1 = 11 by decide) (by decide) rfl rfl rfl (Nat.le_of_ble_eq_true rfl)) ?_
    refine M_eq (r_embers hS hE) ?_
    refine t_ite (op := o_icmp 64 107 (fun x y => y ≤ x) (fun _ _ => inferInstance)) (fe_X12_kindle 61) g_icmp (fun c1 => ?_) (fun c1 => ?_)
    · exact absurd c1 (nI_ge hi7 (by omega))
    · refine t_go (op := o_aload 65 0) (fe_X12_kindle 64) (fun _ _ => rfl) ?_
      refine t_go (op := o_getR 68 11 22) (fe_X12_kindle 65) (g_getR hS (show (lay 183).1 = 11 by decide) (by decide) (fr_11_22 hS) (by decide)) ?_
      refine t_go (op := o_ci 71 891) (fe_X12_kindle 68) (fun _ _ => rfl) ?_
      refine t_go (op := o_iload 73 4) (fe_X12_kindle 71) (fun _ _ => rfl) ?_
      refine t_go (op := o_i2 74 (fun x y => x + y)) (fe_X12_kindle 73) (fun _ _ => rfl) ?_
      refine t_go (op := o_iload 75 3) (fe_X12_kindle 74) (fun _ _ => rfl) ?_
      refine t_go (op := o_iload 77 4) (fe_X12_kindle 75) (fun _ _ => rfl) ?_
      refine t_go (op := o_i2 78 (fun x y => x >>> (y &&& 31))) (fe_X12_kindle 77) (fun _ _ => rfl) ?_
      refine t_go (op := o_ci 79 1) (fe_X12_kindle 78) (fun _ _ => rfl) ?_
      refine t_go (op := o_i2 80 (fun x y => x &&& y)) (fe_X12_kindle 79) (fun _ _ => rfl) ?_
      refine t_go (op := o_ci 81 1) (fe_X12_kindle 80) (fun _ _ => rfl) ?_
      refine t_ite (op := o_icmp 89 84 (fun x y => x = y) (fun _ _ => inferInstance)) (fe_X12_kindle 81) g_icmp (fun c2 => ?_) (fun c2 => ?_)
      · refine t_go (op := o_ci 86 20) (fe_X12_kindle 84) (fun _ _ => rfl) ?_
        refine t_go (op := o_goto 100) (fe_X12_kindle 86) (fun _ _ => rfl) ?_
        refine t_go (op := o_iast 101) (fe_X12_kindle 100) (g_iastN hS (show lay 197 = (20, 966) by decide) (nIa (nIl 891) rfl) (by omega) (by decide)) ?_
        refine t_go (op := o_iinc 104 4 1) (fe_X12_kindle 101) (fun _ _ => rfl) ?_
        refine t_go (op := o_goto 55) (fe_X12_kindle 104) (fun _ _ => rfl) ?_
        rw [it_step, full_t (by omega) c2 ((hasF_cg (by omega) (by rw [hG])).mpr (hsub i hi7 c2))] at hq
        rw [nI_1]
        exact ih (i + 1) _ (G.1, fup G.2.1 i 20, G.2.2) (by omega) (Zf_st hz (by constructor <;> omega)) (RB_heat hBt (show i < 7 by omega)) hG hq
      · refine t_go (op := o_aload 90 0) (fe_X12_kindle 89) (fun _ _ => rfl) ?_
        refine t_go (op := o_getR 93 11 22) (fe_X12_kindle 90) (g_getR hS (show (lay 183).1 = 11 by decide) (by decide) (fr_11_22 hS) (by decide)) ?_
        refine t_go (op := o_ci 96 891) (fe_X12_kindle 93) (fun _ _ => rfl) ?_
        refine t_go (op := o_iload 98 4) (fe_X12_kindle 96) (fun _ _ => rfl) ?_
        refine t_go (op := o_i2 99 (fun x y => x + y)) (fe_X12_kindle 98) (fun _ _ => rfl) ?_
        refine t_go (op := o_iald 100) (fe_X12_kindle 99) (g_ialdN hS (show lay 197 = (20, 966) by decide) (nIa (nIl 891) rfl) (by omega) (by decide)) ?_
        rw [show S.1 197 (891 + i) = G.2.1 i from (hBt.1 i (by omega)).2.1]
        refine t_go (op := o_iast 101) (fe_X12_kindle 100) (g_iastN hS (show lay 197 = (20, 966) by decide) (nIa (nIl 891) rfl) (by omega) (by decide)) ?_
        refine t_go (op := o_iinc 104 4 1) (fe_X12_kindle 101) (fun _ _ => rfl) ?_
        refine t_go (op := o_goto 55) (fe_X12_kindle 104) (fun _ _ => rfl) ?_
        rw [it_step, full_f c2] at hq
        rw [nI_1]
        have hb3 := RB_heat (x := G.2.1 i) hBt (show i < 7 by omega)
        rw [fup_self] at hb3
        exact ih (i + 1) _ G (by omega) (Zf_st hz (by constructor <;> omega)) hb3 hG hq
noncomputable def kinI (V : Nat → Prop) (t : Nat) (s : Int32) : Int32 := @ite _ (V t ∧ (s < 0 ∨ ¬ bcI s ≤ bcI (nI t))) (Classical.propDecidable _) (nI t) s
theorem shl7 : ∀ q, q < 8 → (1 : Int32) <<< (nI q &&& 31) = nI (2 ^ q) := by decide +kernel
theorem n_bits {t : Nat} (h : t < 4096) : ∀ i, 12 ≤ i → i < 32 → bt (nI t) i = false := by
  intro i h1 h2
  show (BitVec.ofNat 32 t).getLsbD i = false
  rw [BitVec.getLsbD_ofNat, Nat.testBit_lt_two_pow (Nat.lt_of_lt_of_le h (show 2 ^ 12 ≤ 2 ^ i from Nat.pow_le_pow_right (show 2 > 0 by decide) h1)), Bool.and_false]
def kinB (N : Nat) (s : Int32) : Prop := s = -1 ∨ ∃ t, t < N ∧ s = nI t
theorem kinB_b {s : Int32} (h : kinB 128 s) (h0 : ¬ s < 0) : ∀ i, 12 ≤ i → i < 32 → bt s i = false := by
  rcases h with rfl | ⟨t, ht, rfl⟩
  · exact absurd (by decide) h0
  · exact n_bits (by omega)
theorem sub_bit {x b : Int32} (h : x &&& (b ^^^ -1) = 0) {a : Nat} (ha : a < 32) (hx : bt x a = true) : bt b a = true := by
  have h1 := b_and x (b ^^^ -1) a
  rw [h, b_0, b_xor, b_m1 a ha, hx] at h1
  cases hb : bt b a with
  | true => rfl
  | false => rw [hb] at h1; simp at h1
theorem sub_iff {x b : Int32} : x &&& (b ^^^ -1) = 0 ↔ ∀ a, a < 32 → bt x a = true → bt b a = true := by
  refine ⟨fun h a ha hx => sub_bit h ha hx, fun h => b_ext fun a ha => ?_⟩
  rw [b_and, b_xor, b_m1 a ha, b_0]
  cases hx : bt x a with
  | false => rfl
  | true => rw [h a ha hx]; rfl
theorem lr_kindle {d : Nat} {k h : AHP} {m n g T : Nat} {F : FS} (hP : CP k h g n m) (hW : FW m T F) (hB0 : RB (k.1 197) 0 F) (hT : T < 90000) {b : Int32} (hmay : ∀ a, a < 32 → bt b a = true → a < m ∧ hasF F (nI a)) {Q : Option Value → AHP → Prop} : ∀ (j i : Nat) (S : AHP) (s : Int32) (x4 : Option Value), i + j = (2 ^ m) → Zf trl k S → kinB 128 s → (∀ S2, Zf trl k S2 → Q (some (.int (it (kinI (fun t => nI t &&& (b ^^^ -1) = 0 ∧ b &&& (glowV h g n (it (fullS (nI t)) 7 0 F) ^^^ -1) = 0)) j i s))) S2) → TT (d + 6) 247 15 [some (.ref 183), some (.int b), some (.int s), some (.int (nI i)), x4] [] S Q := by
  intro j
  induction j with
  | zero =>
    intro i S s x4 hi hz hbs hq
    have hN : i = (2 ^ m) := by omega
    have hm := hP.1.2.2.1
    have hS := (hP.zf hz).1.1
    have hE := (hP.zf hz).1.2.1
    have h27 : 2 ^ m ≤ 128 := Nat.pow_le_pow_right (show 0 < 2 by decide) hm
    refine t_go (op := o_iload 16 3) (fe_X12_kindle 15) (fun _ _ => rfl) ?_
    refine t_go (op := o_ci 17 1) (fe_X12_kindle 16) (fun _ _ => rfl) ?_
    refine t_go (op := o_aload 18 0) (fe_X12_kindle 17) (fun _ _ => rfl) ?_
    refine t_call (op := o_callV 21 200 1 11) (fe_X12_kindle 18) (g_callV hS (show (lay 183).1 = 11 by decide) (by decide) rfl rfl rfl (Nat.le_of_ble_eq_true rfl)) ?_
    refine M_eq (r_embers hS hE) ?_
    refine t_go (op := o_i2 22 (fun x y => x <<< (y &&& 31))) (fe_X12_kindle 21) (fun _ _ => rfl) ?_
    refine t_ite (op := o_icmp 25 132 (fun x y => y ≤ x) (fun _ _ => inferInstance)) (fe_X12_kindle 22) g_icmp (fun c1 => ?_) (fun c1 => ?_)
    · refine t_go (op := o_iload 133 2) (fe_X12_kindle 132) (fun _ _ => rfl) ?_
      refine t_ret (op := o_iret) (fe_X12_kindle 133) (fun _ _ => rfl) ?_
      exact hq S hz
    · exact absurd (show (1 : Int32) <<< (nI m &&& 31) ≤ nI i by rw [hN, shl7 m (by omega)]; exact Int32.le_refl _) c1
  | succ j ih =>
    intro i S s x4 hi hz hbs hq
    have hi7 : i < 2 ^ m := by omega
    have hm := hP.1.2.2.1
    have hS := (hP.zf hz).1.1
    have hE := (hP.zf hz).1.2.1
    have h27 : 2 ^ m ≤ 128 := Nat.pow_le_pow_right (show 0 < 2 by decide) hm
    refine t_go (op := o_iload 16 3) (fe_X12_kindle 15) (fun _ _ => rfl) ?_
    refine t_go (op := o_ci 17 1) (fe_X12_kindle 16) (fun _ _ => rfl) ?_
    refine t_go (op := o_aload 18 0) (fe_X12_kindle 17) (fun _ _ => rfl) ?_
    refine t_call (op := o_callV 21 200 1 11) (fe_X12_kindle 18) (g_callV hS (show (lay 183).1 = 11 by decide) (by decide) rfl rfl rfl (Nat.le_of_ble_eq_true rfl)) ?_
    refine M_eq (r_embers hS hE) ?_
    refine t_go (op := o_i2 22 (fun x y => x <<< (y &&& 31))) (fe_X12_kindle 21) (fun _ _ => rfl) ?_
    refine t_ite (op := o_icmp 25 132 (fun x y => y ≤ x) (fun _ _ => inferInstance)) (fe_X12_kindle 22) g_icmp (fun c1 => ?_) (fun c1 => ?_)
    · exact absurd c1 (show ¬ (1 : Int32) <<< (nI m &&& 31) ≤ nI i by rw [shl7 m (by omega)]; exact nI_ge hi7 (by have : 2 ^ m ≤ 2 ^ 7 := Nat.pow_le_pow_right (by decide) hm; omega))
    · refine t_go (op := o_iload 26 3) (fe_X12_kindle 25) (fun _ _ => rfl) ?_
      refine t_go (op := o_iload 27 1) (fe_X12_kindle 26) (fun _ _ => rfl) ?_
      refine t_go (op := o_ci 28 (-1)) (fe_X12_kindle 27) (fun _ _ => rfl) ?_
      refine t_go (op := o_i2 29 (fun x y => x ^^^ y)) (fe_X12_kindle 28) (fun _ _ => rfl) ?_
      refine t_go (op := o_i2 30 (fun x y => x &&& y)) (fe_X12_kindle 29) (fun _ _ => rfl) ?_
      refine t_ite (op := o_if 126 33 (fun x => x = 0) (fun _ => inferInstance)) (fe_X12_kindle 30) g_if (fun c2 => ?_) (fun c2 => ?_)
      · refine t_go (op := o_iload 34 2) (fe_X12_kindle 33) (fun _ _ => rfl) ?_
        refine t_ite (op := o_if 37 48 (fun x => x < 0) (fun _ => inferInstance)) (fe_X12_kindle 34) g_if (fun c3 => ?_) (fun c3 => ?_)
        · refine t_go (op := o_aload 49 0) (fe_X12_kindle 48) (fun _ _ => rfl) ?_
          refine t_call (op := o_callV 52 229 1 11) (fe_X12_kindle 49) (g_callV hS (show (lay 183).1 = 11 by decide) (by decide) rfl rfl rfl (Nat.le_of_ble_eq_true rfl)) ?_
          refine M_mono ?_ (r_triesNow (hP.zf hz).1.1 (hB0.zf hz trl0))
          rintro _ h2 ⟨rfl, hz2, hBt⟩
          replace hz := hz.tr hz2
          clear hz2
          have hS := (hP.zf hz).1.1
          have hE := (hP.zf hz).1.2.1
          refine t_go (op := o_ci 53 0) (fe_X12_kindle 52) (fun _ _ => rfl) ?_
          refine t_go (op := o_istore 55 4) (fe_X12_kindle 53) (fun _ _ => rfl) ?_
          refine lr_kinI (F := F) (hP.zf hz) (fun e he hb => (hmay e (by omega) (sub_bit c2 (show e < 32 by omega) ((bitI_bt (by omega)).mp hb))).2) m 0 _ F (by omega) Zf.rf hBt rfl fun S2 hz2 hBt => ?_
          replace hz := hz.tr hz2
          clear hz2
          rw [← full_m hW.1 hm] at hBt
          have hWt := FW_fulls (x := nI i) hW
          have hS := (hP.zf hz).1.1
          have hE := (hP.zf hz).1.2.1
          refine t_go (op := o_iload 108 1) (fe_X12_kindle 107) (fun _ _ => rfl) ?_
          refine t_go (op := o_aload 109 0) (fe_X12_kindle 108) (fun _ _ => rfl) ?_
          refine t_go (op := o_ci 111 12) (fe_X12_kindle 109) (fun _ _ => rfl) ?_
          refine t_call (op := o_callV 114 245 2 11) (fe_X12_kindle 111) (g_callV hS (show (lay 183).1 = 11 by decide) (by decide) rfl rfl rfl (Nat.le_of_ble_eq_true rfl)) ?_
          refine M_mono ?_ (r_ever (hP.zf hz) (show T < 98000 by omega) hBt hWt)
          rintro _ h2 ⟨rfl, hz2⟩
          replace hz := hz.tr hz2
          clear hz2
          have hS := (hP.zf hz).1.1
          have hE := (hP.zf hz).1.2.1
          refine t_go (op := o_ci 115 (-1)) (fe_X12_kindle 114) (fun _ _ => rfl) ?_
          refine t_go (op := o_i2 116 (fun x y => x ^^^ y)) (fe_X12_kindle 115) (fun _ _ => rfl) ?_
          refine t_go (op := o_i2 117 (fun x y => x &&& y)) (fe_X12_kindle 116) (fun _ _ => rfl) ?_
          refine t_ite (op := o_if 124 120 (fun x => x = 0) (fun _ => inferInstance)) (fe_X12_kindle 117) g_if (fun c4 => ?_) (fun c4 => ?_)
          · refine t_go (op := o_iload 121 3) (fe_X12_kindle 120) (fun _ _ => rfl) ?_
            refine t_go (op := o_goto 125) (fe_X12_kindle 121) (fun _ _ => rfl) ?_
            refine t_go (op := o_istore 126 2) (fe_X12_kindle 125) (fun _ _ => rfl) ?_
            refine t_go (op := o_iinc 129 3 1) (fe_X12_kindle 126) (fun _ _ => rfl) ?_
            refine t_go (op := o_goto 15) (fe_X12_kindle 129) (fun _ _ => rfl) ?_
            have eS : kinI (fun t => nI t &&& (b ^^^ -1) = 0 ∧ b &&& (glowV h g n (it (fullS (nI t)) 7 0 F) ^^^ -1) = 0) i s = _ := if_pos ⟨⟨c2, c4⟩, Or.inl c3⟩
            rw [it_step, eS] at hq
            rw [nI_1]
            exact ih (i + 1) _ _ _ (by omega) hz (Or.inr ⟨i, by omega, rfl⟩) hq
          · refine t_go (op := o_iload 125 2) (fe_X12_kindle 124) (fun _ _ => rfl) ?_
            refine t_go (op := o_istore 126 2) (fe_X12_kindle 125) (fun _ _ => rfl) ?_
            refine t_go (op := o_iinc 129 3 1) (fe_X12_kindle 126) (fun _ _ => rfl) ?_
            refine t_go (op := o_goto 15) (fe_X12_kindle 129) (fun _ _ => rfl) ?_
            have eS : kinI (fun t => nI t &&& (b ^^^ -1) = 0 ∧ b &&& (glowV h g n (it (fullS (nI t)) 7 0 F) ^^^ -1) = 0) i s = _ := if_neg fun q => c4 q.1.2
            rw [it_step, eS] at hq
            rw [nI_1]
            exact ih (i + 1) _ _ _ (by omega) hz hbs hq
        · refine t_go (op := o_iload 38 3) (fe_X12_kindle 37) (fun _ _ => rfl) ?_
          refine t_call (op := o_callS 41 210 1) (fe_X12_kindle 38) (g_callS rfl rfl rfl (Nat.le_of_ble_eq_true rfl)) ?_
          refine M_eq (r_bits (n_bits (t := i) (by omega))) ?_
          refine t_go (op := o_iload 42 2) (fe_X12_kindle 41) (fun _ _ => rfl) ?_
          refine t_call (op := o_callS 45 210 1) (fe_X12_kindle 42) (g_callS rfl rfl rfl (Nat.le_of_ble_eq_true rfl)) ?_
          refine M_eq (r_bits (kinB_b hbs c3)) ?_
          refine t_ite (op := o_icmp 48 126 (fun x y => y ≤ x) (fun _ _ => inferInstance)) (fe_X12_kindle 45) g_icmp (fun c5 => ?_) (fun c5 => ?_)
          · refine t_go (op := o_iinc 129 3 1) (fe_X12_kindle 126) (fun _ _ => rfl) ?_
            refine t_go (op := o_goto 15) (fe_X12_kindle 129) (fun _ _ => rfl) ?_
            have eS : kinI (fun t => nI t &&& (b ^^^ -1) = 0 ∧ b &&& (glowV h g n (it (fullS (nI t)) 7 0 F) ^^^ -1) = 0) i s = _ := if_neg fun q => q.2.elim c3 (fun z => z c5)
            rw [it_step, eS] at hq
            rw [nI_1]
            exact ih (i + 1) _ _ _ (by omega) hz hbs hq
          · refine t_go (op := o_aload 49 0) (fe_X12_kindle 48) (fun _ _ => rfl) ?_
            refine t_call (op := o_callV 52 229 1 11) (fe_X12_kindle 49) (g_callV hS (show (lay 183).1 = 11 by decide) (by decide) rfl rfl rfl (Nat.le_of_ble_eq_true rfl)) ?_
            refine M_mono ?_ (r_triesNow (hP.zf hz).1.1 (hB0.zf hz trl0))
            rintro _ h2 ⟨rfl, hz2, hBt⟩
            replace hz := hz.tr hz2
            clear hz2
            have hS := (hP.zf hz).1.1
            have hE := (hP.zf hz).1.2.1
            refine t_go (op := o_ci 53 0) (fe_X12_kindle 52) (fun _ _ => rfl) ?_
            refine t_go (op := o_istore 55 4) (fe_X12_kindle 53) (fun _ _ => rfl) ?_
            refine lr_kinI (F := F) (hP.zf hz) (fun e he hb => (hmay e (by omega) (sub_bit c2 (show e < 32 by omega) ((bitI_bt (by omega)).mp hb))).2) m 0 _ F (by omega) Zf.rf hBt rfl fun S2 hz2 hBt => ?_
            replace hz := hz.tr hz2
            clear hz2
            rw [← full_m hW.1 hm] at hBt
            have hWt := FW_fulls (x := nI i) hW
            have hS := (hP.zf hz).1.1
            have hE := (hP.zf hz).1.2.1
            refine t_go (op := o_iload 108 1) (fe_X12_kindle 107) (fun _ _ => rfl) ?_
            refine t_go (op := o_aload 109 0) (fe_X12_kindle 108) (fun _ _ => rfl) ?_
            refine t_go (op := o_ci 111 12) (fe_X12_kindle 109) (fun _ _ => rfl) ?_
            refine t_call (op := o_callV 114 245 2 11) (fe_X12_kindle 111) (g_callV hS (show (lay 183).1 = 11 by decide) (by decide) rfl rfl rfl (Nat.le_of_ble_eq_true rfl)) ?_
            refine M_mono ?_ (r_ever (hP.zf hz) (show T < 98000 by omega) hBt hWt)
            rintro _ h2 ⟨rfl, hz2⟩
            replace hz := hz.tr hz2
            clear hz2
            have hS := (hP.zf hz).1.1
            have hE := (hP.zf hz).1.2.1
            refine t_go (op := o_ci 115 (-1)) (fe_X12_kindle 114) (fun _ _ => rfl) ?_
            refine t_go (op := o_i2 116 (fun x y => x ^^^ y)) (fe_X12_kindle 115) (fun _ _ => rfl) ?_
            refine t_go (op := o_i2 117 (fun x y => x &&& y)) (fe_X12_kindle 116) (fun _ _ => rfl) ?_
            refine t_ite (op := o_if 124 120 (fun x => x = 0) (fun _ => inferInstance)) (fe_X12_kindle 117) g_if (fun c6 => ?_) (fun c6 => ?_)
            · refine t_go (op := o_iload 121 3) (fe_X12_kindle 120) (fun _ _ => rfl) ?_
              refine t_go (op := o_goto 125) (fe_X12_kindle 121) (fun _ _ => rfl) ?_
              refine t_go (op := o_istore 126 2) (fe_X12_kindle 125) (fun _ _ => rfl) ?_
              refine t_go (op := o_iinc 129 3 1) (fe_X12_kindle 126) (fun _ _ => rfl) ?_
              refine t_go (op := o_goto 15) (fe_X12_kindle 129) (fun _ _ => rfl) ?_
              have eS : kinI (fun t => nI t &&& (b ^^^ -1) = 0 ∧ b &&& (glowV h g n (it (fullS (nI t)) 7 0 F) ^^^ -1) = 0) i s = _ := if_pos ⟨⟨c2, c6⟩, Or.inr c5⟩
              rw [it_step, eS] at hq
              rw [nI_1]
              exact ih (i + 1) _ _ _ (by omega) hz (Or.inr ⟨i, by omega, rfl⟩) hq
            · refine t_go (op := o_iload 125 2) (fe_X12_kindle 124) (fun _ _ => rfl) ?_
              refine t_go (op := o_istore 126 2) (fe_X12_kindle 125) (fun _ _ => rfl) ?_
              refine t_go (op := o_iinc 129 3 1) (fe_X12_kindle 126) (fun _ _ => rfl) ?_
              refine t_go (op := o_goto 15) (fe_X12_kindle 129) (fun _ _ => rfl) ?_
              have eS : kinI (fun t => nI t &&& (b ^^^ -1) = 0 ∧ b &&& (glowV h g n (it (fullS (nI t)) 7 0 F) ^^^ -1) = 0) i s = _ := if_neg fun q => c6 q.1.2
              rw [it_step, eS] at hq
              rw [nI_1]
              exact ih (i + 1) _ _ _ (by omega) hz hbs hq
      · refine t_go (op := o_iinc 129 3 1) (fe_X12_kindle 126) (fun _ _ => rfl) ?_
        refine t_go (op := o_goto 15) (fe_X12_kindle 129) (fun _ _ => rfl) ?_
        have eS : kinI (fun t => nI t &&& (b ^^^ -1) = 0 ∧ b &&& (glowV h g n (it (fullS (nI t)) 7 0 F) ^^^ -1) = 0) i s = _ := if_neg fun q => c2 q.1.1
        rw [it_step, eS] at hq
        rw [nI_1]
        exact ih (i + 1) _ _ _ (by omega) hz hbs hq
theorem burn_may {m : Nat} {F : FS} {K : Nat → Int32} (hV : FV m F) : ∀ a, a < 32 → bt (it (burnB F K) 7 0 0) a = true → a < m ∧ hasF F (nI a) := by
  intro a ha h
  rw [show it (burnB F K) 7 0 0 = setB (fun e => hasF F (nI e) ∧ ¬ K (nI e).toNatClampNeg = 3) from rfl, setB_bt ha, Bool.and_eq_true] at h
  have h1 := of_decide_eq_true h.1
  have h2 := (dcd_iff.mp h.2).1
  refine ⟨?_, h2⟩
  rcases Nat.lt_or_ge a m with q | q
  · exact q
  · exact absurd h2 (FV_no hV h1 q)
theorem here_may {m : Nat} {F : FS} (hV : FV m F) : ∀ a, a < 32 → bt (it (hereS F) 7 0 0) a = true → a < m ∧ hasF F (nI a) := by
  intro a ha h
  rw [show it (hereS F) 7 0 0 = setB (fun e => hasF F (nI e)) from rfl, setB_bt ha, Bool.and_eq_true] at h
  have h1 := of_decide_eq_true h.1
  have h2 := dcd_iff.mp h.2
  refine ⟨?_, h2⟩
  rcases Nat.lt_or_ge a m with q | q
  · exact q
  · exact absurd h2 (FV_no hV h1 q)
theorem r_kindle {d : Nat} {k h : AHP} {m n g T : Nat} {F : FS} (hP : CP k h g n m) (hW : FW m T F) (hB0 : RB (k.1 197) 0 F) (hT : T < 90000) {b : Int32} (hbb : b = it (burnB F (h.1 (g + 2))) 7 0 0) : MM (d + 6) 247 [.ref 183] k (fun v h2 => v = some (.int (it (kinI (fun t => nI t &&& (b ^^^ -1) = 0 ∧ b &&& (glowV h g n (it (fullS (nI t)) 7 0 F) ^^^ -1) = 0)) (2 ^ m) 0 (-1))) ∧ Zf trl k h2) := by
  refine ⟨Nat.le_of_ble_eq_true rfl, ?_⟩
  have hm := hP.1.2.2.1
  have hS := hP.1.1
  have hE := hP.1.2.1
  refine t_go (op := o_aload 1 0) (fe_X12_kindle 0) (fun _ _ => rfl) ?_
  refine t_go (op := o_ci 2 0) (fe_X12_kindle 1) (fun _ _ => rfl) ?_
  refine t_go (op := o_putI 5 11 0) (fe_X12_kindle 2) (g_putI hS (show (lay 183).1 = 11 by decide) (by decide)) ?_
  have hz : Zf trl k (sI k 183 0 0) := Zf_thr Zf.rf
  have hS := (hP.zf hz).1.1
  have hE := (hP.zf hz).1.2.1
  refine t_go (op := o_aload 6 0) (fe_X12_kindle 5) (fun _ _ => rfl) ?_
  refine t_go (op := o_ci 7 0) (fe_X12_kindle 6) (fun _ _ => rfl) ?_
  refine t_call (op := o_callV 10 246 2 11) (fe_X12_kindle 7) (g_callV hS (show (lay 183).1 = 11 by decide) (by decide) rfl rfl rfl (Nat.le_of_ble_eq_true rfl)) ?_
  refine M_eq (r_there0 hS hE hm hW.1 (hB0.zf hz trl0) (hP.zf hz).1.2.2.2.1) ?_
  refine t_go (op := o_istore 11 1) (fe_X12_kindle 10) (fun _ _ => rfl) ?_
  refine t_go (op := o_ci 12 (-1)) (fe_X12_kindle 11) (fun _ _ => rfl) ?_
  refine t_go (op := o_istore 13 2) (fe_X12_kindle 12) (fun _ _ => rfl) ?_
  refine t_go (op := o_ci 14 0) (fe_X12_kindle 13) (fun _ _ => rfl) ?_
  refine t_go (op := o_istore 15 3) (fe_X12_kindle 14) (fun _ _ => rfl) ?_
  subst hbb
  exact (lr_kindle hP hW hB0 hT (burn_may hW.1) (2 ^ m) 0 _ (-1) _ (by omega) hz (Or.inl rfl) fun S2 hz => ⟨rfl, hz⟩)
theorem take_t {x : Int32} {e : Nat} {G : FS} (hb : bitI x (nI e)) : takeS x e G = takeOutF G (nI e) := if_pos hb
theorem take_f {x : Int32} {e : Nat} {G : FS} (hb : ¬ bitI x (nI e)) : takeS x e G = G := if_neg hb
theorem FV_takes {m : Nat} {x : Int32} {F : FS} (hV : FV m F) : FV m (it (takeS x) 7 0 F) := it_inv7 (P := FV m) (n := 7) (fun i s hi hs => by
  unfold takeS
  split
  · exact FV_take hs hi
  · exact hs) 7 0 F (by omega) hV
theorem takes_end {x : Int32} : ∀ (j i : Nat) (G : FS), (it (takeS x) j i G).2.2.2.2 = G.2.2.2.2 := by
  intro j
  induction j with
  | zero => intro i G; rfl
  | succ j ih =>
    intro i G
    rw [it_step, ih]
    unfold takeS
    split
    · exact take_end
    · rfl
theorem FW_takes {m T : Nat} {x : Int32} {F : FS} (hW : FW m T F) : FW m T (it (takeS x) 7 0 F) := FW_of hW (FV_takes hW.1) (takes_end 7 0 F)
theorem take_cg {F G : FS} {e a : Nat} (he : e < 7) (ha : a < 7) (hne : a ≠ e) : hasF (takeOutF G (nI e)) (nI a) ↔ hasF G (nI a) := by
  refine hasF_cg ha ?_
  unfold takeOutF
  split
  · rw [nI_clamp (by omega)]; exact fup_ne hne
  · rfl
theorem has_take {G : FS} {e a : Nat} (he : e < 7) (ha : a < 7) (h : hasF (takeOutF G (nI e)) (nI a)) : hasF G (nI a) := by
  by_cases hne : a = e
  · subst hne
    unfold takeOutF at h
    by_cases hh : hasF G (nI a)
    · exact hh
    · rw [if_neg hh] at h; exact h
  · exact (take_cg (F := G) he ha hne).mp h
theorem takes_m {m : Nat} {x : Int32} {F : FS} (hV : FV m F) (hm : m ≤ 7) : it (takeS x) 7 0 F = it (takeS x) m 0 F := it_moreP (FV m) hm (it_inv7 (P := FV m) (n := 7) (fun i s hi hs => by
  unfold takeS
  split
  · exact FV_take hs hi
  · exact hs) m 0 F (by omega) hV) fun t G hG h1 h2 => by
    unfold takeS
    split
    · rw [takeOutF, if_neg (FV_no hG h2 h1)]
    · rfl
theorem lr_savI {d : Nat} {k h : AHP} {m n g : Nat} (hP : CP k h g n m) {y a b x : Int32} {Q : Option Value → AHP → Prop} : ∀ (j i : Nat) (S : AHP) (G : FS), i + j = m → Zf trl k S → RB (S.1 197) 882 G → FV m G → (∀ e, i ≤ e → e < m → bitI x (nI e) → hasF G (nI e)) → (∀ S2, Zf trl k S2 → RB (S2.1 197) 882 (it (takeS x) j i G) → TT (d + 6) 248 119 [some (.ref 183), some (.int y), some (.int a), some (.int b), some (.int x), some (.int (nI m))] [] S2 Q) → TT (d + 6) 248 84 [some (.ref 183), some (.int y), some (.int a), some (.int b), some (.int x), some (.int (nI i))] [] S Q := by
  intro j
  induction j with
  | zero =>
    intro i S G hi hz hBt hV hG hq
    have hN : i = m := by omega
    have hm := hP.1.2.2.1
    have hS := (hP.zf hz).1.1
    have hE := (hP.zf hz).1.2.1
    refine t_go (op := o_iload 86 5) (fe_X12_save 84) (fun _ _ => rfl) ?_
    refine t_go (op := o_aload 87 0) (fe_X12_save 86) (fun _ _ => rfl) ?_
    refine t_call (op := o_callV 90 200 1 11) (fe_X12_save 87) (g_callV hS (show (lay 183).1 = 11 by decide) (by decide) rfl rfl rfl (Nat.le_of_ble_eq_true rfl)) ?_
    refine M_eq (r_embers hS hE) ?_
    refine t_ite (op := o_icmp 93 119 (fun x y => y ≤ x) (fun _ _ => inferInstance)) (fe_X12_save 90) g_icmp (fun c1 => ?_) (fun c1 => ?_)
    · have eN : nI i = nI m := by rw [hN]
      rw [eN]
      exact hq S hz hBt
    · exact absurd (by rw [hN]; exact Int32.le_refl _) c1
  | succ j ih =>
    intro i S G hi hz hBt hV hG hq
    have hi7 : i < m := by omega
    have hm := hP.1.2.2.1
    have hS := (hP.zf hz).1.1
    have hE := (hP.zf hz).1.2.1
    refine t_go (op := o_iload 86 5) (fe_X12_save 84) (fun _ _ => rfl) ?_
    refine t_go (op := o_aload 87 0) (fe_X12_save 86) (fun _ _ => rfl) ?_
    refine t_call (op := o_callV 90 200 1 11) (fe_X12_save 87) (g_callV hS (show (lay 183).1 = 11 by decide) (by decide) rfl rfl rfl (Nat.le_of_ble_eq_true rfl)) ?_
    refine M_eq (r_embers hS hE) ?_
    refine t_ite (op := o_icmp 93 119 (fun x y => y ≤ x) (fun _ _ => inferInstance)) (fe_X12_save 90) g_icmp (fun c1 => ?_) (fun c1 => ?_)
    · exact absurd c1 (nI_ge hi7 (by omega))
    · refine t_go (op := o_iload 95 4) (fe_X12_save 93) (fun _ _ => rfl) ?_
      refine t_go (op := o_iload 97 5) (fe_X12_save 95) (fun _ _ => rfl) ?_
      refine t_go (op := o_i2 98 (fun x y => x >>> (y &&& 31))) (fe_X12_save 97) (fun _ _ => rfl) ?_
      refine t_go (op := o_ci 99 1) (fe_X12_save 98) (fun _ _ => rfl) ?_
      refine t_go (op := o_i2 100 (fun x y => x &&& y)) (fe_X12_save 99) (fun _ _ => rfl) ?_
      refine t_go (op := o_ci 101 1) (fe_X12_save 100) (fun _ _ => rfl) ?_
      refine t_ite (op := o_icmp 113 104 (fun x y => x = y) (fun _ _ => inferInstance)) (fe_X12_save 101) g_icmp (fun c2 => ?_) (fun c2 => ?_)
      · refine t_go (op := o_aload 105 0) (fe_X12_save 104) (fun _ _ => rfl) ?_
        refine t_go (op := o_ci 108 882) (fe_X12_save 105) (fun _ _ => rfl) ?_
        refine t_go (op := o_iload 110 5) (fe_X12_save 108) (fun _ _ => rfl) ?_
        refine t_call (op := o_callV 113 212 3 11) (fe_X12_save 110) (g_callV hS (show (lay 183).1 = 11 by decide) (by decide) rfl rfl rfl (Nat.le_of_ble_eq_true rfl)) ?_
        refine M_mono ?_ (r_van (hP.zf hz) hV hBt (e := i) (by omega) (hG i (by omega) hi7 c2))
        rintro _ h2 ⟨rfl, hz2, hBt⟩
        replace hz := hz.tr hz2
        clear hz2
        have hS := (hP.zf hz).1.1
        have hE := (hP.zf hz).1.2.1
        refine t_go (op := o_iinc 116 5 1) (fe_X12_save 113) (fun _ _ => rfl) ?_
        refine t_go (op := o_goto 84) (fe_X12_save 116) (fun _ _ => rfl) ?_
        rw [it_step, take_t c2] at hq
        rw [nI_1]
        exact ih (i + 1) _ _ (by omega) hz hBt (FV_take hV (by omega)) (fun e h1 h2 hb => (take_cg (F := G) (show i < 7 by omega) (show e < 7 by omega) (by omega)).mpr (hG e (by omega) h2 hb)) hq
      · refine t_go (op := o_iinc 116 5 1) (fe_X12_save 113) (fun _ _ => rfl) ?_
        refine t_go (op := o_goto 84) (fe_X12_save 116) (fun _ _ => rfl) ?_
        rw [it_step, take_f c2] at hq
        rw [nI_1]
        exact ih (i + 1) _ G (by omega) hz hBt hV (fun e h1 h2 hb => hG e (by omega) h2 hb) hq
theorem lr_save {d : Nat} {k h : AHP} {m n g T : Nat} {F : FS} (hP : CP k h g n m) (hW : FW m T F) (hB0 : RB (k.1 197) 0 F) (hT : T < 90000) {b : Int32} {e : Nat} (hmay : ∀ a, a < 32 → bt b a = true → a < m ∧ hasF F (nI a)) {Q : Option Value → AHP → Prop} : ∀ (j i : Nat) (S : AHP) (s : Int32) (x5 : Option Value), i + j = (2 ^ m) → Zf trl k S → kinB 128 s → (∀ S2, Zf trl k S2 → Q (some (.int (it (kinI (fun t => nI t &&& (b ^^^ -1) = 0 ∧ (glowV h g n (it (takeS (nI t)) 7 0 F) >>> (nI e &&& 31)) &&& 1 = 0)) j i s))) S2) → TT (d + 6) 248 41 [some (.ref 183), some (.int (nI e)), some (.int b), some (.int s), some (.int (nI i)), x5] [] S Q := by
  intro j
  induction j with
  | zero =>
    intro i S s x5 hi hz hbs hq
    have hN : i = (2 ^ m) := by omega
    have hm := hP.1.2.2.1
    have hS := (hP.zf hz).1.1
    have hE := (hP.zf hz).1.2.1
    have h27 : 2 ^ m ≤ 128 := Nat.pow_le_pow_right (show 0 < 2 by decide) hm
    refine t_go (op := o_iload 43 4) (fe_X12_save 41) (fun _ _ => rfl) ?_
    refine t_go (op := o_ci 44 1) (fe_X12_save 43) (fun _ _ => rfl) ?_
    refine t_go (op := o_aload 45 0) (fe_X12_save 44) (fun _ _ => rfl) ?_
    refine t_call (op := o_callV 48 200 1 11) (fe_X12_save 45) (g_callV hS (show (lay 183).1 = 11 by decide) (by decide) rfl rfl rfl (Nat.le_of_ble_eq_true rfl)) ?_
    refine M_eq (r_embers hS hE) ?_
    refine t_go (op := o_i2 49 (fun x y => x <<< (y &&& 31))) (fe_X12_save 48) (fun _ _ => rfl) ?_
    refine t_ite (op := o_icmp 52 145 (fun x y => y ≤ x) (fun _ _ => inferInstance)) (fe_X12_save 49) g_icmp (fun c1 => ?_) (fun c1 => ?_)
    · refine t_go (op := o_iload 146 3) (fe_X12_save 145) (fun _ _ => rfl) ?_
      refine t_ret (op := o_iret) (fe_X12_save 146) (fun _ _ => rfl) ?_
      exact hq S hz
    · exact absurd (show (1 : Int32) <<< (nI m &&& 31) ≤ nI i by rw [hN, shl7 m (by omega)]; exact Int32.le_refl _) c1
  | succ j ih =>
    intro i S s x5 hi hz hbs hq
    have hi7 : i < 2 ^ m := by omega
    have hm := hP.1.2.2.1
    have hS := (hP.zf hz).1.1
    have hE := (hP.zf hz).1.2.1
    have h27 : 2 ^ m ≤ 128 := Nat.pow_le_pow_right (show 0 < 2 by decide) hm
    refine t_go (op := o_iload 43 4) (fe_X12_save 41) (fun _ _ => rfl) ?_
    refine t_go (op := o_ci 44 1) (fe_X12_save 43) (fun _ _ => rfl) ?_
    refine t_go (op := o_aload 45 0) (fe_X12_save 44) (fun _ _ => rfl) ?_
    refine t_call (op := o_callV 48 200 1 11) (fe_X12_save 45) (g_callV hS (show (lay 183).1 = 11 by decide) (by decide) rfl rfl rfl (Nat.le_of_ble_eq_true rfl)) ?_
    refine M_eq (r_embers hS hE) ?_
    refine t_go (op := o_i2 49 (fun x y => x <<< (y &&& 31))) (fe_X12_save 48) (fun _ _ => rfl) ?_
    refine t_ite (op := o_icmp 52 145 (fun x y => y ≤ x) (fun _ _ => inferInstance)) (fe_X12_save 49) g_icmp (fun c1 => ?_) (fun c1 => ?_)
    · exact absurd c1 (show ¬ (1 : Int32) <<< (nI m &&& 31) ≤ nI i by rw [shl7 m (by omega)]; exact nI_ge hi7 (by have : 2 ^ m ≤ 2 ^ 7 := Nat.pow_le_pow_right (by decide) hm; omega))
    · refine t_go (op := o_iload 54 4) (fe_X12_save 52) (fun _ _ => rfl) ?_
      refine t_go (op := o_iload 55 2) (fe_X12_save 54) (fun _ _ => rfl) ?_
      refine t_go (op := o_ci 56 (-1)) (fe_X12_save 55) (fun _ _ => rfl) ?_
      refine t_go (op := o_i2 57 (fun x y => x ^^^ y)) (fe_X12_save 56) (fun _ _ => rfl) ?_
      refine t_go (op := o_i2 58 (fun x y => x &&& y)) (fe_X12_save 57) (fun _ _ => rfl) ?_
      refine t_ite (op := o_if 139 61 (fun x => x = 0) (fun _ => inferInstance)) (fe_X12_save 58) g_if (fun c2 => ?_) (fun c2 => ?_)
      · refine t_go (op := o_iload 62 3) (fe_X12_save 61) (fun _ _ => rfl) ?_
        refine t_ite (op := o_if 65 77 (fun x => x < 0) (fun _ => inferInstance)) (fe_X12_save 62) g_if (fun c3 => ?_) (fun c3 => ?_)
        · refine t_go (op := o_aload 78 0) (fe_X12_save 77) (fun _ _ => rfl) ?_
          refine t_call (op := o_callV 81 229 1 11) (fe_X12_save 78) (g_callV hS (show (lay 183).1 = 11 by decide) (by decide) rfl rfl rfl (Nat.le_of_ble_eq_true rfl)) ?_
          refine M_mono ?_ (r_triesNow (hP.zf hz).1.1 (hB0.zf hz trl0))
          rintro _ h2 ⟨rfl, hz2, hBt⟩
          replace hz := hz.tr hz2
          clear hz2
          have hS := (hP.zf hz).1.1
          have hE := (hP.zf hz).1.2.1
          refine t_go (op := o_ci 82 0) (fe_X12_save 81) (fun _ _ => rfl) ?_
          refine t_go (op := o_istore 84 5) (fe_X12_save 82) (fun _ _ => rfl) ?_
          refine lr_savI (hP.zf hz) m 0 _ F (by omega) Zf.rf hBt hW.1 (fun e _ he hb => (hmay e (by omega) (sub_bit c2 (show e < 32 by omega) ((bitI_bt (by omega)).mp hb))).2) fun S2 hz2 hBt => ?_
          replace hz := hz.tr hz2
          clear hz2
          rw [← takes_m hW.1 hm] at hBt
          have hWt := FW_takes (x := nI i) hW
          have hS := (hP.zf hz).1.1
          have hE := (hP.zf hz).1.2.1
          refine t_go (op := o_aload 120 0) (fe_X12_save 119) (fun _ _ => rfl) ?_
          refine t_go (op := o_ci 122 12) (fe_X12_save 120) (fun _ _ => rfl) ?_
          refine t_call (op := o_callV 125 245 2 11) (fe_X12_save 122) (g_callV hS (show (lay 183).1 = 11 by decide) (by decide) rfl rfl rfl (Nat.le_of_ble_eq_true rfl)) ?_
          refine M_mono ?_ (r_ever (hP.zf hz) (show T < 98000 by omega) hBt hWt)
          rintro _ h2 ⟨rfl, hz2⟩
          replace hz := hz.tr hz2
          clear hz2
          have hS := (hP.zf hz).1.1
          have hE := (hP.zf hz).1.2.1
          refine t_go (op := o_iload 126 1) (fe_X12_save 125) (fun _ _ => rfl) ?_
          refine t_go (op := o_i2 127 (fun x y => x >>> (y &&& 31))) (fe_X12_save 126) (fun _ _ => rfl) ?_
          refine t_go (op := o_ci 128 1) (fe_X12_save 127) (fun _ _ => rfl) ?_
          refine t_go (op := o_i2 129 (fun x y => x &&& y)) (fe_X12_save 128) (fun _ _ => rfl) ?_
          refine t_ite (op := o_if 137 132 (fun x => x = 0) (fun _ => inferInstance)) (fe_X12_save 129) g_if (fun c4 => ?_) (fun c4 => ?_)
          · refine t_go (op := o_iload 134 4) (fe_X12_save 132) (fun _ _ => rfl) ?_
            refine t_go (op := o_goto 138) (fe_X12_save 134) (fun _ _ => rfl) ?_
            refine t_go (op := o_istore 139 3) (fe_X12_save 138) (fun _ _ => rfl) ?_
            refine t_go (op := o_iinc 142 4 1) (fe_X12_save 139) (fun _ _ => rfl) ?_
            refine t_go (op := o_goto 41) (fe_X12_save 142) (fun _ _ => rfl) ?_
            have eS : kinI (fun t => nI t &&& (b ^^^ -1) = 0 ∧ (glowV h g n (it (takeS (nI t)) 7 0 F) >>> (nI e &&& 31)) &&& 1 = 0) i s = _ := if_pos ⟨⟨c2, c4⟩, Or.inl c3⟩
            rw [it_step, eS] at hq
            rw [nI_1]
            exact ih (i + 1) _ _ _ (by omega) hz (Or.inr ⟨i, by omega, rfl⟩) hq
          · refine t_go (op := o_iload 138 3) (fe_X12_save 137) (fun _ _ => rfl) ?_
            refine t_go (op := o_istore 139 3) (fe_X12_save 138) (fun _ _ => rfl) ?_
            refine t_go (op := o_iinc 142 4 1) (fe_X12_save 139) (fun _ _ => rfl) ?_
            refine t_go (op := o_goto 41) (fe_X12_save 142) (fun _ _ => rfl) ?_
            have eS : kinI (fun t => nI t &&& (b ^^^ -1) = 0 ∧ (glowV h g n (it (takeS (nI t)) 7 0 F) >>> (nI e &&& 31)) &&& 1 = 0) i s = _ := if_neg fun q => c4 q.1.2
            rw [it_step, eS] at hq
            rw [nI_1]
            exact ih (i + 1) _ _ _ (by omega) hz hbs hq
        · refine t_go (op := o_iload 67 4) (fe_X12_save 65) (fun _ _ => rfl) ?_
          refine t_call (op := o_callS 70 210 1) (fe_X12_save 67) (g_callS rfl rfl rfl (Nat.le_of_ble_eq_true rfl)) ?_
          refine M_eq (r_bits (n_bits (t := i) (by omega))) ?_
          refine t_go (op := o_iload 71 3) (fe_X12_save 70) (fun _ _ => rfl) ?_
          refine t_call (op := o_callS 74 210 1) (fe_X12_save 71) (g_callS rfl rfl rfl (Nat.le_of_ble_eq_true rfl)) ?_
          refine M_eq (r_bits (kinB_b hbs c3)) ?_
          refine t_ite (op := o_icmp 77 139 (fun x y => y ≤ x) (fun _ _ => inferInstance)) (fe_X12_save 74) g_icmp (fun c5 => ?_) (fun c5 => ?_)
          · refine t_go (op := o_iinc 142 4 1) (fe_X12_save 139) (fun _ _ => rfl) ?_
            refine t_go (op := o_goto 41) (fe_X12_save 142) (fun _ _ => rfl) ?_
            have eS : kinI (fun t => nI t &&& (b ^^^ -1) = 0 ∧ (glowV h g n (it (takeS (nI t)) 7 0 F) >>> (nI e &&& 31)) &&& 1 = 0) i s = _ := if_neg fun q => q.2.elim c3 (fun z => z c5)
            rw [it_step, eS] at hq
            rw [nI_1]
            exact ih (i + 1) _ _ _ (by omega) hz hbs hq
          · refine t_go (op := o_aload 78 0) (fe_X12_save 77) (fun _ _ => rfl) ?_
            refine t_call (op := o_callV 81 229 1 11) (fe_X12_save 78) (g_callV hS (show (lay 183).1 = 11 by decide) (by decide) rfl rfl rfl (Nat.le_of_ble_eq_true rfl)) ?_
            refine M_mono ?_ (r_triesNow (hP.zf hz).1.1 (hB0.zf hz trl0))
            rintro _ h2 ⟨rfl, hz2, hBt⟩
            replace hz := hz.tr hz2
            clear hz2
            have hS := (hP.zf hz).1.1
            have hE := (hP.zf hz).1.2.1
            refine t_go (op := o_ci 82 0) (fe_X12_save 81) (fun _ _ => rfl) ?_
            refine t_go (op := o_istore 84 5) (fe_X12_save 82) (fun _ _ => rfl) ?_
            refine lr_savI (hP.zf hz) m 0 _ F (by omega) Zf.rf hBt hW.1 (fun e _ he hb => (hmay e (by omega) (sub_bit c2 (show e < 32 by omega) ((bitI_bt (by omega)).mp hb))).2) fun S2 hz2 hBt => ?_
            replace hz := hz.tr hz2
            clear hz2
            rw [← takes_m hW.1 hm] at hBt
            have hWt := FW_takes (x := nI i) hW
            have hS := (hP.zf hz).1.1
            have hE := (hP.zf hz).1.2.1
            refine t_go (op := o_aload 120 0) (fe_X12_save 119) (fun _ _ => rfl) ?_
            refine t_go (op := o_ci 122 12) (fe_X12_save 120) (fun _ _ => rfl) ?_
            refine t_call (op := o_callV 125 245 2 11) (fe_X12_save 122) (g_callV hS (show (lay 183).1 = 11 by decide) (by decide) rfl rfl rfl (Nat.le_of_ble_eq_true rfl)) ?_
            refine M_mono ?_ (r_ever (hP.zf hz) (show T < 98000 by omega) hBt hWt)
            rintro _ h2 ⟨rfl, hz2⟩
            replace hz := hz.tr hz2
            clear hz2
            have hS := (hP.zf hz).1.1
            have hE := (hP.zf hz).1.2.1
            refine t_go (op := o_iload 126 1) (fe_X12_save 125) (fun _ _ => rfl) ?_
            refine t_go (op := o_i2 127 (fun x y => x >>> (y &&& 31))) (fe_X12_save 126) (fun _ _ => rfl) ?_
            refine t_go (op := o_ci 128 1) (fe_X12_save 127) (fun _ _ => rfl) ?_
            refine t_go (op := o_i2 129 (fun x y => x &&& y)) (fe_X12_save 128) (fun _ _ => rfl) ?_
            refine t_ite (op := o_if 137 132 (fun x => x = 0) (fun _ => inferInstance)) (fe_X12_save 129) g_if (fun c6 => ?_) (fun c6 => ?_)
            · refine t_go (op := o_iload 134 4) (fe_X12_save 132) (fun _ _ => rfl) ?_
              refine t_go (op := o_goto 138) (fe_X12_save 134) (fun _ _ => rfl) ?_
              refine t_go (op := o_istore 139 3) (fe_X12_save 138) (fun _ _ => rfl) ?_
              refine t_go (op := o_iinc 142 4 1) (fe_X12_save 139) (fun _ _ => rfl) ?_
              refine t_go (op := o_goto 41) (fe_X12_save 142) (fun _ _ => rfl) ?_
              have eS : kinI (fun t => nI t &&& (b ^^^ -1) = 0 ∧ (glowV h g n (it (takeS (nI t)) 7 0 F) >>> (nI e &&& 31)) &&& 1 = 0) i s = _ := if_pos ⟨⟨c2, c6⟩, Or.inr c5⟩
              rw [it_step, eS] at hq
              rw [nI_1]
              exact ih (i + 1) _ _ _ (by omega) hz (Or.inr ⟨i, by omega, rfl⟩) hq
            · refine t_go (op := o_iload 138 3) (fe_X12_save 137) (fun _ _ => rfl) ?_
              refine t_go (op := o_istore 139 3) (fe_X12_save 138) (fun _ _ => rfl) ?_
              refine t_go (op := o_iinc 142 4 1) (fe_X12_save 139) (fun _ _ => rfl) ?_
              refine t_go (op := o_goto 41) (fe_X12_save 142) (fun _ _ => rfl) ?_
              have eS : kinI (fun t => nI t &&& (b ^^^ -1) = 0 ∧ (glowV h g n (it (takeS (nI t)) 7 0 F) >>> (nI e &&& 31)) &&& 1 = 0) i s = _ := if_neg fun q => c6 q.1.2
              rw [it_step, eS] at hq
              rw [nI_1]
              exact ih (i + 1) _ _ _ (by omega) hz hbs hq
      · refine t_go (op := o_iinc 142 4 1) (fe_X12_save 139) (fun _ _ => rfl) ?_
        refine t_go (op := o_goto 41) (fe_X12_save 142) (fun _ _ => rfl) ?_
        have eS : kinI (fun t => nI t &&& (b ^^^ -1) = 0 ∧ (glowV h g n (it (takeS (nI t)) 7 0 F) >>> (nI e &&& 31)) &&& 1 = 0) i s = _ := if_neg fun q => c2 q.1.1
        rw [it_step, eS] at hq
        rw [nI_1]
        exact ih (i + 1) _ _ _ (by omega) hz hbs hq
theorem r_saveF {d : Nat} {k h : AHP} {m n g T : Nat} {F : FS} (hP : CP k h g n m) (hW : FW m T F) (hB0 : RB (k.1 197) 0 F) (hT : T < 90000) {x : Int32} (hn : ¬ (¬ x < 0 ∧ x < nI m)) : MM (d + 6) 248 [.ref 183, .int x] k (fun v h2 => v = some (.int (-1)) ∧ Zf trl k h2) := by
  refine ⟨Nat.le_of_ble_eq_true rfl, ?_⟩
  have hm := hP.1.2.2.1
  have hS := hP.1.1
  have hE := hP.1.2.1
  refine t_go (op := o_aload 1 0) (fe_X12_save 0) (fun _ _ => rfl) ?_
  refine t_go (op := o_ci 2 0) (fe_X12_save 1) (fun _ _ => rfl) ?_
  refine t_go (op := o_putI 5 11 0) (fe_X12_save 2) (g_putI hS (show (lay 183).1 = 11 by decide) (by decide)) ?_
  have hz : Zf trl k (sI k 183 0 0) := Zf_thr Zf.rf
  have hS := (hP.zf hz).1.1
  have hE := (hP.zf hz).1.2.1
  refine t_go (op := o_aload 6 0) (fe_X12_save 5) (fun _ _ => rfl) ?_
  refine t_go (op := o_iload 7 1) (fe_X12_save 6) (fun _ _ => rfl) ?_
  refine t_call (op := o_callV 10 202 2 11) (fe_X12_save 7) (g_callV hS (show (lay 183).1 = 11 by decide) (by decide) rfl rfl rfl (Nat.le_of_ble_eq_true rfl)) ?_
  refine M_eq (r_isEmber hS hE) ?_
  refine t_ite (op := o_if 13 22 (fun x => x = 0) (fun _ => inferInstance)) (fe_X12_save 10) g_if (fun c1 => ?_) (fun c1 => ?_)
  · replace c1 := b2i_z c1
    refine t_go (op := o_ci 23 (-1)) (fe_X12_save 22) (fun _ _ => rfl) ?_
    refine t_ret (op := o_iret) (fe_X12_save 23) (fun _ _ => rfl) ?_
    exact ⟨rfl, hz⟩
  · exact absurd (b2i_nn c1) hn
theorem r_saveA {d : Nat} {k h : AHP} {m n g T : Nat} {F : FS} (hP : CP k h g n m) (hW : FW m T F) (hB0 : RB (k.1 197) 0 F) (hT : T < 90000) {e : Nat} (he : e < m) (hh : ¬ hasF F (nI e)) : MM (d + 6) 248 [.ref 183, .int (nI e)] k (fun v h2 => v = some (.int (-1)) ∧ Zf trl k h2) := by
  refine ⟨Nat.le_of_ble_eq_true rfl, ?_⟩
  have hm := hP.1.2.2.1
  have hS := hP.1.1
  have hE := hP.1.2.1
  refine t_go (op := o_aload 1 0) (fe_X12_save 0) (fun _ _ => rfl) ?_
  refine t_go (op := o_ci 2 0) (fe_X12_save 1) (fun _ _ => rfl) ?_
  refine t_go (op := o_putI 5 11 0) (fe_X12_save 2) (g_putI hS (show (lay 183).1 = 11 by decide) (by decide)) ?_
  have hz : Zf trl k (sI k 183 0 0) := Zf_thr Zf.rf
  have hS := (hP.zf hz).1.1
  have hE := (hP.zf hz).1.2.1
  refine t_go (op := o_aload 6 0) (fe_X12_save 5) (fun _ _ => rfl) ?_
  refine t_go (op := o_iload 7 1) (fe_X12_save 6) (fun _ _ => rfl) ?_
  refine t_call (op := o_callV 10 202 2 11) (fe_X12_save 7) (g_callV hS (show (lay 183).1 = 11 by decide) (by decide) rfl rfl rfl (Nat.le_of_ble_eq_true rfl)) ?_
  refine M_eq (r_isEmber hS hE) ?_
  refine t_ite (op := o_if 13 22 (fun x => x = 0) (fun _ => inferInstance)) (fe_X12_save 10) g_if (fun c1 => ?_) (fun c1 => ?_)
  · exact absurd (isE he hm) (b2i_z c1)
  · replace c1 := b2i_nn c1
    refine t_go (op := o_aload 14 0) (fe_X12_save 13) (fun _ _ => rfl) ?_
    refine t_go (op := o_ci 15 0) (fe_X12_save 14) (fun _ _ => rfl) ?_
    refine t_go (op := o_iload 16 1) (fe_X12_save 15) (fun _ _ => rfl) ?_
    refine t_call (op := o_callV 19 203 3 11) (fe_X12_save 16) (g_callV hS (show (lay 183).1 = 11 by decide) (by decide) rfl rfl rfl (Nat.le_of_ble_eq_true rfl)) ?_
    refine M_eq (r_isThere (b := 0) hS hW.1 (hB0.zf hz trl0) (by decide) (e := e) (by omega)) ?_
    refine t_ite (op := o_if 24 22 (fun x => x = 0) (fun _ => inferInstance)) (fe_X12_save 19) g_if (fun c2 => ?_) (fun c2 => ?_)
    · replace c2 := b2i_z c2
      refine t_go (op := o_ci 23 (-1)) (fe_X12_save 22) (fun _ _ => rfl) ?_
      refine t_ret (op := o_iret) (fe_X12_save 23) (fun _ _ => rfl) ?_
      exact ⟨rfl, hz⟩
    · exact absurd (b2i_nn c2) hh
theorem r_save {d : Nat} {k h : AHP} {m n g T : Nat} {F : FS} (hP : CP k h g n m) (hW : FW m T F) (hB0 : RB (k.1 197) 0 F) (hT : T < 90000) {e : Nat} (he : e < m) (hh : hasF F (nI e)) {b : Int32} (hbb : b = it (hereS F) 7 0 0 &&& ((1 <<< (nI e &&& 31)) ^^^ -1)) : MM (d + 6) 248 [.ref 183, .int (nI e)] k (fun v h2 => v = some (.int (it (kinI (fun t => nI t &&& (b ^^^ -1) = 0 ∧ (glowV h g n (it (takeS (nI t)) 7 0 F) >>> (nI e &&& 31)) &&& 1 = 0)) (2 ^ m) 0 (-1))) ∧ Zf trl k h2) := by
  refine ⟨Nat.le_of_ble_eq_true rfl, ?_⟩
  have hm := hP.1.2.2.1
  have hS := hP.1.1
  have hE := hP.1.2.1
  refine t_go (op := o_aload 1 0) (fe_X12_save 0) (fun _ _ => rfl) ?_
  refine t_go (op := o_ci 2 0) (fe_X12_save 1) (fun _ _ => rfl) ?_
  refine t_go (op := o_putI 5 11 0) (fe_X12_save 2) (g_putI hS (show (lay 183).1 = 11 by decide) (by decide)) ?_
  have hz : Zf trl k (sI k 183 0 0) := Zf_thr Zf.rf
  have hS := (hP.zf hz).1.1
  have hE := (hP.zf hz).1.2.1
  refine t_go (op := o_aload 6 0) (fe_X12_save 5) (fun _ _ => rfl) ?_
  refine t_go (op := o_iload 7 1) (fe_X12_save 6) (fun _ _ => rfl) ?_
  refine t_call (op := o_callV 10 202 2 11) (fe_X12_save 7) (g_callV hS (show (lay 183).1 = 11 by decide) (by decide) rfl rfl rfl (Nat.le_of_ble_eq_true rfl)) ?_
  refine M_eq (r_isEmber hS hE) ?_
  refine t_ite (op := o_if 13 22 (fun x => x = 0) (fun _ => inferInstance)) (fe_X12_save 10) g_if (fun c1 => ?_) (fun c1 => ?_)
  · exact absurd (isE he hm) (b2i_z c1)
  · replace c1 := b2i_nn c1
    refine t_go (op := o_aload 14 0) (fe_X12_save 13) (fun _ _ => rfl) ?_
    refine t_go (op := o_ci 15 0) (fe_X12_save 14) (fun _ _ => rfl) ?_
    refine t_go (op := o_iload 16 1) (fe_X12_save 15) (fun _ _ => rfl) ?_
    refine t_call (op := o_callV 19 203 3 11) (fe_X12_save 16) (g_callV hS (show (lay 183).1 = 11 by decide) (by decide) rfl rfl rfl (Nat.le_of_ble_eq_true rfl)) ?_
    refine M_eq (r_isThere (b := 0) hS hW.1 (hB0.zf hz trl0) (by decide) (e := e) (by omega)) ?_
    refine t_ite (op := o_if 24 22 (fun x => x = 0) (fun _ => inferInstance)) (fe_X12_save 19) g_if (fun c2 => ?_) (fun c2 => ?_)
    · exact absurd hh (b2i_z c2)
    · replace c2 := b2i_nn c2
      refine t_go (op := o_aload 25 0) (fe_X12_save 24) (fun _ _ => rfl) ?_
      refine t_go (op := o_ci 26 1) (fe_X12_save 25) (fun _ _ => rfl) ?_
      refine t_call (op := o_callV 29 246 2 11) (fe_X12_save 26) (g_callV hS (show (lay 183).1 = 11 by decide) (by decide) rfl rfl rfl (Nat.le_of_ble_eq_true rfl)) ?_
      refine M_eq (r_there1 hS hE hm hW.1 (hB0.zf hz trl0)) ?_
      refine t_go (op := o_ci 30 1) (fe_X12_save 29) (fun _ _ => rfl) ?_
      refine t_go (op := o_iload 31 1) (fe_X12_save 30) (fun _ _ => rfl) ?_
      refine t_go (op := o_i2 32 (fun x y => x <<< (y &&& 31))) (fe_X12_save 31) (fun _ _ => rfl) ?_
      refine t_go (op := o_ci 33 (-1)) (fe_X12_save 32) (fun _ _ => rfl) ?_
      refine t_go (op := o_i2 34 (fun x y => x ^^^ y)) (fe_X12_save 33) (fun _ _ => rfl) ?_
      refine t_go (op := o_i2 35 (fun x y => x &&& y)) (fe_X12_save 34) (fun _ _ => rfl) ?_
      refine t_go (op := o_istore 36 2) (fe_X12_save 35) (fun _ _ => rfl) ?_
      refine t_go (op := o_ci 37 (-1)) (fe_X12_save 36) (fun _ _ => rfl) ?_
      refine t_go (op := o_istore 38 3) (fe_X12_save 37) (fun _ _ => rfl) ?_
      refine t_go (op := o_ci 39 0) (fe_X12_save 38) (fun _ _ => rfl) ?_
      refine t_go (op := o_istore 41 4) (fe_X12_save 39) (fun _ _ => rfl) ?_
      subst hbb
      exact (lr_save hP hW hB0 hT (fun a ha h => here_may hW.1 a ha (by rw [b_and, Bool.and_eq_true] at h; exact h.1)) (2 ^ m) 0 _ (-1) _ (by omega) hz (Or.inl rfl) fun S2 hz => ⟨rfl, hz⟩)
