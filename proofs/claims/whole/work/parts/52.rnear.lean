/-! ===== the reference: touching, near ===== -/
def dt2 (v c d : Int32) : Int32 := if v = 4 then 1 else if v = 1 then (if c / 4 = d / 4 then 1 else 0) else 0
def dtV (c d : Int32) : Int32 := if d ≤ c then dt2 (c - d) c d else dt2 (d - c) c d
theorem dt_bes : ∀ c, c < 12 → ∀ d, d < 12 → dtV (nI c) (nI d) = if bt (bes c) d = true then 1 else 0 := by decide +kernel
theorem bes_self : ∀ c, c < 12 → bt (bes c) c = false := by decide +kernel
theorem bes_big : ∀ c, c < 12 → ∀ i, i < 32 → 12 ≤ i → bt (bes c) i = false := by decide +kernel
theorem besV_n : ∀ c, c < 12 → besV (nI c) = bes c := by decide +kernel
theorem r_dt {d : Nat} {k : AHP} {x y : Int32} : MM d 207 [.int x, .int y] k (fun v h2 => v = some (.int (dtV x y)) ∧ h2 = k) := by
  refine ⟨Nat.le_of_ble_eq_true rfl, ?_⟩
  refine t_go (op := o_iload 1 0) (fe_X12_doTouch 0) (fun _ _ => rfl) ?_
  refine t_go (op := o_iload 2 1) (fe_X12_doTouch 1) (fun _ _ => rfl) ?_
  refine t_ite (op := o_icmp 5 11 (fun x y => y ≤ x) (fun _ _ => inferInstance)) (fe_X12_doTouch 2) g_icmp (fun c1 => ?_) (fun c1 => ?_)
  · refine t_go (op := o_iload 12 0) (fe_X12_doTouch 11) (fun _ _ => rfl) ?_
    refine t_go (op := o_iload 13 1) (fe_X12_doTouch 12) (fun _ _ => rfl) ?_
    refine t_go (op := o_i2 14 (fun x y => x - y)) (fe_X12_doTouch 13) (fun _ _ => rfl) ?_
    refine t_go (op := o_istore 15 2) (fe_X12_doTouch 14) (fun _ _ => rfl) ?_
    refine t_go (op := o_iload 16 2) (fe_X12_doTouch 15) (fun _ _ => rfl) ?_
    refine t_go (op := o_ci 17 4) (fe_X12_doTouch 16) (fun _ _ => rfl) ?_
    refine t_ite (op := o_icmp 20 34 (fun x y => x = y) (fun _ _ => inferInstance)) (fe_X12_doTouch 17) g_icmp (fun c2 => ?_) (fun c2 => ?_)
    · refine t_go (op := o_ci 35 1) (fe_X12_doTouch 34) (fun _ _ => rfl) ?_
      refine t_go (op := o_goto 39) (fe_X12_doTouch 35) (fun _ _ => rfl) ?_
      refine t_ret (op := o_zret) (fe_X12_doTouch 39) (g_zret (Or.inr rfl)) ?_
      exact ⟨congrArg (fun x => some (Value.int x)) (Eq.symm (show dtV x y = _ from (Eq.trans (if_pos c1) (if_pos c2)))), rfl⟩
    · refine t_go (op := o_iload 21 2) (fe_X12_doTouch 20) (fun _ _ => rfl) ?_
      refine t_go (op := o_ci 22 1) (fe_X12_doTouch 21) (fun _ _ => rfl) ?_
      refine t_ite (op := o_icmp 38 25 (fun x y => x = y) (fun _ _ => inferInstance)) (fe_X12_doTouch 22) g_icmp (fun c3 => ?_) (fun c3 => ?_)
      · refine t_go (op := o_iload 26 0) (fe_X12_doTouch 25) (fun _ _ => rfl) ?_
        refine t_go (op := o_ci 27 4) (fe_X12_doTouch 26) (fun _ _ => rfl) ?_
        refine t_go (op := o_i2d 28 (fun x y => x / y)) (fe_X12_doTouch 27) (g_i2d (by decide)) ?_
        refine t_go (op := o_iload 29 1) (fe_X12_doTouch 28) (fun _ _ => rfl) ?_
        refine t_go (op := o_ci 30 4) (fe_X12_doTouch 29) (fun _ _ => rfl) ?_
        refine t_go (op := o_i2d 31 (fun x y => x / y)) (fe_X12_doTouch 30) (g_i2d (by decide)) ?_
        refine t_ite (op := o_icmp 38 34 (fun x y => x = y) (fun _ _ => inferInstance)) (fe_X12_doTouch 31) g_icmp (fun c4 => ?_) (fun c4 => ?_)
        · refine t_go (op := o_ci 35 1) (fe_X12_doTouch 34) (fun _ _ => rfl) ?_
          refine t_go (op := o_goto 39) (fe_X12_doTouch 35) (fun _ _ => rfl) ?_
          refine t_ret (op := o_zret) (fe_X12_doTouch 39) (g_zret (Or.inr rfl)) ?_
          exact ⟨congrArg (fun x => some (Value.int x)) (Eq.symm (show dtV x y = _ from (Eq.trans (if_pos c1) (Eq.trans (if_neg c2) (Eq.trans (if_pos c3) (if_pos c4)))))), rfl⟩
        · refine t_go (op := o_ci 39 0) (fe_X12_doTouch 38) (fun _ _ => rfl) ?_
          refine t_ret (op := o_zret) (fe_X12_doTouch 39) (g_zret (Or.inl rfl)) ?_
          exact ⟨congrArg (fun x => some (Value.int x)) (Eq.symm (show dtV x y = _ from (Eq.trans (if_pos c1) (Eq.trans (if_neg c2) (Eq.trans (if_pos c3) (if_neg c4)))))), rfl⟩
      · refine t_go (op := o_ci 39 0) (fe_X12_doTouch 38) (fun _ _ => rfl) ?_
        refine t_ret (op := o_zret) (fe_X12_doTouch 39) (g_zret (Or.inl rfl)) ?_
        exact ⟨congrArg (fun x => some (Value.int x)) (Eq.symm (show dtV x y = _ from (Eq.trans (if_pos c1) (Eq.trans (if_neg c2) (if_neg c3))))), rfl⟩
  · refine t_go (op := o_iload 6 1) (fe_X12_doTouch 5) (fun _ _ => rfl) ?_
    refine t_go (op := o_iload 7 0) (fe_X12_doTouch 6) (fun _ _ => rfl) ?_
    refine t_go (op := o_i2 8 (fun x y => x - y)) (fe_X12_doTouch 7) (fun _ _ => rfl) ?_
    refine t_go (op := o_goto 14) (fe_X12_doTouch 8) (fun _ _ => rfl) ?_
    refine t_go (op := o_istore 15 2) (fe_X12_doTouch 14) (fun _ _ => rfl) ?_
    refine t_go (op := o_iload 16 2) (fe_X12_doTouch 15) (fun _ _ => rfl) ?_
    refine t_go (op := o_ci 17 4) (fe_X12_doTouch 16) (fun _ _ => rfl) ?_
    refine t_ite (op := o_icmp 20 34 (fun x y => x = y) (fun _ _ => inferInstance)) (fe_X12_doTouch 17) g_icmp (fun c5 => ?_) (fun c5 => ?_)
    · refine t_go (op := o_ci 35 1) (fe_X12_doTouch 34) (fun _ _ => rfl) ?_
      refine t_go (op := o_goto 39) (fe_X12_doTouch 35) (fun _ _ => rfl) ?_
      refine t_ret (op := o_zret) (fe_X12_doTouch 39) (g_zret (Or.inr rfl)) ?_
      exact ⟨congrArg (fun x => some (Value.int x)) (Eq.symm (show dtV x y = _ from (Eq.trans (if_neg c1) (if_pos c5)))), rfl⟩
    · refine t_go (op := o_iload 21 2) (fe_X12_doTouch 20) (fun _ _ => rfl) ?_
      refine t_go (op := o_ci 22 1) (fe_X12_doTouch 21) (fun _ _ => rfl) ?_
      refine t_ite (op := o_icmp 38 25 (fun x y => x = y) (fun _ _ => inferInstance)) (fe_X12_doTouch 22) g_icmp (fun c6 => ?_) (fun c6 => ?_)
      · refine t_go (op := o_iload 26 0) (fe_X12_doTouch 25) (fun _ _ => rfl) ?_
        refine t_go (op := o_ci 27 4) (fe_X12_doTouch 26) (fun _ _ => rfl) ?_
        refine t_go (op := o_i2d 28 (fun x y => x / y)) (fe_X12_doTouch 27) (g_i2d (by decide)) ?_
        refine t_go (op := o_iload 29 1) (fe_X12_doTouch 28) (fun _ _ => rfl) ?_
        refine t_go (op := o_ci 30 4) (fe_X12_doTouch 29) (fun _ _ => rfl) ?_
        refine t_go (op := o_i2d 31 (fun x y => x / y)) (fe_X12_doTouch 30) (g_i2d (by decide)) ?_
        refine t_ite (op := o_icmp 38 34 (fun x y => x = y) (fun _ _ => inferInstance)) (fe_X12_doTouch 31) g_icmp (fun c7 => ?_) (fun c7 => ?_)
        · refine t_go (op := o_ci 35 1) (fe_X12_doTouch 34) (fun _ _ => rfl) ?_
          refine t_go (op := o_goto 39) (fe_X12_doTouch 35) (fun _ _ => rfl) ?_
          refine t_ret (op := o_zret) (fe_X12_doTouch 39) (g_zret (Or.inr rfl)) ?_
          exact ⟨congrArg (fun x => some (Value.int x)) (Eq.symm (show dtV x y = _ from (Eq.trans (if_neg c1) (Eq.trans (if_neg c5) (Eq.trans (if_pos c6) (if_pos c7)))))), rfl⟩
        · refine t_go (op := o_ci 39 0) (fe_X12_doTouch 38) (fun _ _ => rfl) ?_
          refine t_ret (op := o_zret) (fe_X12_doTouch 39) (g_zret (Or.inl rfl)) ?_
          exact ⟨congrArg (fun x => some (Value.int x)) (Eq.symm (show dtV x y = _ from (Eq.trans (if_neg c1) (Eq.trans (if_neg c5) (Eq.trans (if_pos c6) (if_neg c7)))))), rfl⟩
      · refine t_go (op := o_ci 39 0) (fe_X12_doTouch 38) (fun _ _ => rfl) ?_
        refine t_ret (op := o_zret) (fe_X12_doTouch 39) (g_zret (Or.inl rfl)) ?_
        exact ⟨congrArg (fun x => some (Value.int x)) (Eq.symm (show dtV x y = _ from (Eq.trans (if_neg c1) (Eq.trans (if_neg c5) (if_neg c6))))), rfl⟩
theorem r_doTouch {d : Nat} {k : AHP} {c e : Nat} (hc : c < 12) (he : e < 12) : MM d 207 [.int (nI c), .int (nI e)] k (fun v h2 => v = some (.int (b2i (bt (bes c) e = true))) ∧ h2 = k) := by
  refine M_mono ?_ (r_dt (x := nI c) (y := nI e))
  rintro _ _ ⟨rfl, rfl⟩
  refine ⟨?_, rfl⟩
  rw [dt_bes c hc e he]
  by_cases h : bt (bes c) e = true
  · rw [if_pos h, b2i_t h]
  · rw [if_neg h, b2i_f h]
theorem l_touchOf {d : Nat} {k : AHP} (hS : Std k) {m b : Nat} {F : FS} (hV : FV m F) (hB : RB (k.1 197) b F) (hb : b + 23 ≤ 966) (hm : m ≤ 7) (hE : k.1 189 0 = nI m) {e c : Nat} (he : e < 7) (hh : hasF F (nI e)) (hc : c < 12) (hce : F.1 e = nI c) {Q : Option Value → AHP → Prop} : ∀ (j i : Nat) (S : Int32), i + j = m → Q (some (.int (it (touchS F (bes c)) j i S))) k → TT (d + 1) 208 5 [some (.ref 183), some (.int (nI b)), some (.int (nI e)), some (.int S), some (.int (nI i))] [] k Q := by
  intro j
  induction j with
  | zero =>
    intro i S hi  hq
    have hN : i = m := by omega
    refine t_go (op := o_iload 7 4) (fe_X12_touchOf 5) (fun _ _ => rfl) ?_
    refine t_go (op := o_aload 8 0) (fe_X12_touchOf 7) (fun _ _ => rfl) ?_
    refine t_call (op := o_callV 11 200 1 11) (fe_X12_touchOf 8) (g_callV hS (show (lay 183).1 = 11 by decide) (by decide) rfl rfl rfl (Nat.le_of_ble_eq_true rfl)) ?_
    refine M_eq (r_embers hS hE) ?_
    refine t_ite (op := o_icmp 14 83 (fun x y => y ≤ x) (fun _ _ => inferInstance)) (fe_X12_touchOf 11) g_icmp (fun c1 => ?_) (fun c1 => ?_)
    · refine t_go (op := o_iload 84 3) (fe_X12_touchOf 83) (fun _ _ => rfl) ?_
      refine t_ret (op := o_iret) (fe_X12_touchOf 84) (fun _ _ => rfl) ?_
      exact hq
    · exact absurd (by rw [hN]; exact Int32.le_refl _) c1
  | succ j ih =>
    intro i S hi  hq
    have hi7 : i < m := by omega
    refine t_go (op := o_iload 7 4) (fe_X12_touchOf 5) (fun _ _ => rfl) ?_
    refine t_go (op := o_aload 8 0) (fe_X12_touchOf 7) (fun _ _ => rfl) ?_
    refine t_call (op := o_callV 11 200 1 11) (fe_X12_touchOf 8) (g_callV hS (show (lay 183).1 = 11 by decide) (by decide) rfl rfl rfl (Nat.le_of_ble_eq_true rfl)) ?_
    refine M_eq (r_embers hS hE) ?_
    refine t_ite (op := o_icmp 14 83 (fun x y => y ≤ x) (fun _ _ => inferInstance)) (fe_X12_touchOf 11) g_icmp (fun c1 => ?_) (fun c1 => ?_)
    · exact absurd c1 (nI_ge hi7 (by omega))
    · refine t_go (op := o_aload 15 0) (fe_X12_touchOf 14) (fun _ _ => rfl) ?_
      refine t_go (op := o_iload 16 1) (fe_X12_touchOf 15) (fun _ _ => rfl) ?_
      refine t_go (op := o_iload 17 2) (fe_X12_touchOf 16) (fun _ _ => rfl) ?_
      refine t_call (op := o_callV 20 203 3 11) (fe_X12_touchOf 17) (g_callV hS (show (lay 183).1 = 11 by decide) (by decide) rfl rfl rfl (Nat.le_of_ble_eq_true rfl)) ?_
      refine M_eq (r_isThere hS hV hB hb (e := e) (by omega)) ?_
      refine t_ite (op := o_if 23 83 (fun x => x = 0) (fun _ => inferInstance)) (fe_X12_touchOf 20) g_if (fun c2 => ?_) (fun c2 => ?_)
      · exact absurd hh (b2i_z c2)
      · replace c2 := b2i_nn c2
        refine t_go (op := o_iload 24 3) (fe_X12_touchOf 23) (fun _ _ => rfl) ?_
        refine t_go (op := o_iload 26 4) (fe_X12_touchOf 24) (fun _ _ => rfl) ?_
        refine t_go (op := o_iload 27 2) (fe_X12_touchOf 26) (fun _ _ => rfl) ?_
        refine t_ite (op := o_icmp 30 74 (fun x y => x = y) (fun _ _ => inferInstance)) (fe_X12_touchOf 27) g_icmp (fun c3 => ?_) (fun c3 => ?_)
        · refine t_go (op := o_ci 75 0) (fe_X12_touchOf 74) (fun _ _ => rfl) ?_
          refine t_go (op := o_i2 76 (fun x y => x ||| y)) (fe_X12_touchOf 75) (fun _ _ => rfl) ?_
          refine t_go (op := o_istore 77 3) (fe_X12_touchOf 76) (fun _ _ => rfl) ?_
          refine t_go (op := o_iinc 80 4 1) (fe_X12_touchOf 77) (fun _ _ => rfl) ?_
          refine t_go (op := o_goto 5) (fe_X12_touchOf 80) (fun _ _ => rfl) ?_
          have eS : touchS F (bes c) i S = _ := if_neg fun q => by
              have hie : i = e := (nI_eq (by omega) (by omega)).mp c3
              have q2 := q.2
              rw [nI_clamp (by omega), hie, hce, bitI_bt (by omega), bes_self c hc] at q2
              cases q2
          rw [it_step, eS] at hq
          rw [← Int32.or_zero (a := S)] at hq
          rw [nI_1]
          exact ih (i + 1) _ (by omega) hq
        · refine t_go (op := o_aload 31 0) (fe_X12_touchOf 30) (fun _ _ => rfl) ?_
          refine t_go (op := o_iload 32 1) (fe_X12_touchOf 31) (fun _ _ => rfl) ?_
          refine t_go (op := o_iload 34 4) (fe_X12_touchOf 32) (fun _ _ => rfl) ?_
          refine t_call (op := o_callV 37 203 3 11) (fe_X12_touchOf 34) (g_callV hS (show (lay 183).1 = 11 by decide) (by decide) rfl rfl rfl (Nat.le_of_ble_eq_true rfl)) ?_
          refine M_eq (r_isThere hS hV hB hb (e := i) (by omega)) ?_
          refine t_ite (op := o_if 40 74 (fun x => x = 0) (fun _ => inferInstance)) (fe_X12_touchOf 37) g_if (fun c4 => ?_) (fun c4 => ?_)
          · replace c4 := b2i_z c4
            refine t_go (op := o_ci 75 0) (fe_X12_touchOf 74) (fun _ _ => rfl) ?_
            refine t_go (op := o_i2 76 (fun x y => x ||| y)) (fe_X12_touchOf 75) (fun _ _ => rfl) ?_
            refine t_go (op := o_istore 77 3) (fe_X12_touchOf 76) (fun _ _ => rfl) ?_
            refine t_go (op := o_iinc 80 4 1) (fe_X12_touchOf 77) (fun _ _ => rfl) ?_
            refine t_go (op := o_goto 5) (fe_X12_touchOf 80) (fun _ _ => rfl) ?_
            have eS : touchS F (bes c) i S = _ := if_neg fun q => c4 q.1
            rw [it_step, eS] at hq
            rw [← Int32.or_zero (a := S)] at hq
            rw [nI_1]
            exact ih (i + 1) _ (by omega) hq
          · replace c4 := b2i_nn c4
            refine t_go (op := o_aload 41 0) (fe_X12_touchOf 40) (fun _ _ => rfl) ?_
            refine t_go (op := o_getR 44 11 22) (fe_X12_touchOf 41) (g_getR hS (show (lay 183).1 = 11 by decide) (by decide) (fr_11_22 hS) (by decide)) ?_
            refine t_go (op := o_iload 45 1) (fe_X12_touchOf 44) (fun _ _ => rfl) ?_
            refine t_go (op := o_ci 46 2) (fe_X12_touchOf 45) (fun _ _ => rfl) ?_
            refine t_go (op := o_i2 47 (fun x y => x + y)) (fe_X12_touchOf 46) (fun _ _ => rfl) ?_
            refine t_go (op := o_iload 48 2) (fe_X12_touchOf 47) (fun _ _ => rfl) ?_
            refine t_go (op := o_i2 49 (fun x y => x + y)) (fe_X12_touchOf 48) (fun _ _ => rfl) ?_
            refine t_go (op := o_iald 50) (fe_X12_touchOf 49) (g_ialdN hS (show lay 197 = (20, 966) by decide) (nIa (nIa rfl (nIl 2)) rfl) (by omega) (by decide)) ?_
            rw [(hB.1 e he).1, hce]
            refine t_go (op := o_aload 51 0) (fe_X12_touchOf 50) (fun _ _ => rfl) ?_
            refine t_go (op := o_getR 54 11 22) (fe_X12_touchOf 51) (g_getR hS (show (lay 183).1 = 11 by decide) (by decide) (fr_11_22 hS) (by decide)) ?_
            refine t_go (op := o_iload 55 1) (fe_X12_touchOf 54) (fun _ _ => rfl) ?_
            refine t_go (op := o_ci 56 2) (fe_X12_touchOf 55) (fun _ _ => rfl) ?_
            refine t_go (op := o_i2 57 (fun x y => x + y)) (fe_X12_touchOf 56) (fun _ _ => rfl) ?_
            refine t_go (op := o_iload 59 4) (fe_X12_touchOf 57) (fun _ _ => rfl) ?_
            refine t_go (op := o_i2 60 (fun x y => x + y)) (fe_X12_touchOf 59) (fun _ _ => rfl) ?_
            refine t_go (op := o_iald 61) (fe_X12_touchOf 60) (g_ialdN hS (show lay 197 = (20, 966) by decide) (nIa (nIa rfl (nIl 2)) rfl) (by omega) (by decide)) ?_
            rw [(hB.1 i (by omega)).1]
            obtain ⟨_, c6, x6, y6, hc6, _, _, _, hci, _⟩ := FV_in hV (by omega) c4
            rw [hci]
            refine t_call (op := o_callS 64 207 2) (fe_X12_touchOf 61) (g_callS rfl rfl rfl (Nat.le_of_ble_eq_true rfl)) ?_
            refine M_eq (r_doTouch hc hc6) ?_
            refine t_ite (op := o_if 67 74 (fun x => x = 0) (fun _ => inferInstance)) (fe_X12_touchOf 64) g_if (fun c5 => ?_) (fun c5 => ?_)
            · replace c5 := b2i_z c5
              refine t_go (op := o_ci 75 0) (fe_X12_touchOf 74) (fun _ _ => rfl) ?_
              refine t_go (op := o_i2 76 (fun x y => x ||| y)) (fe_X12_touchOf 75) (fun _ _ => rfl) ?_
              refine t_go (op := o_istore 77 3) (fe_X12_touchOf 76) (fun _ _ => rfl) ?_
              refine t_go (op := o_iinc 80 4 1) (fe_X12_touchOf 77) (fun _ _ => rfl) ?_
              refine t_go (op := o_goto 5) (fe_X12_touchOf 80) (fun _ _ => rfl) ?_
              have eS : touchS F (bes c) i S = _ := if_neg fun q => by
                  have q2 := q.2
                  rw [nI_clamp (by omega), hci] at q2
                  exact c5 ((bitI_bt (by omega)).mp q2)
              rw [it_step, eS] at hq
              rw [← Int32.or_zero (a := S)] at hq
              rw [nI_1]
              exact ih (i + 1) _ (by omega) hq
            · replace c5 := b2i_nn c5
              refine t_go (op := o_ci 68 1) (fe_X12_touchOf 67) (fun _ _ => rfl) ?_
              refine t_go (op := o_iload 70 4) (fe_X12_touchOf 68) (fun _ _ => rfl) ?_
              refine t_go (op := o_i2 71 (fun x y => x <<< (y &&& 31))) (fe_X12_touchOf 70) (fun _ _ => rfl) ?_
              refine t_go (op := o_goto 75) (fe_X12_touchOf 71) (fun _ _ => rfl) ?_
              refine t_go (op := o_i2 76 (fun x y => x ||| y)) (fe_X12_touchOf 75) (fun _ _ => rfl) ?_
              refine t_go (op := o_istore 77 3) (fe_X12_touchOf 76) (fun _ _ => rfl) ?_
              refine t_go (op := o_iinc 80 4 1) (fe_X12_touchOf 77) (fun _ _ => rfl) ?_
              refine t_go (op := o_goto 5) (fe_X12_touchOf 80) (fun _ _ => rfl) ?_
              have eS : touchS F (bes c) i S = _ := if_pos ⟨c4, by rw [nI_clamp (by omega), hci]; exact (bitI_bt (by omega)).mpr c5⟩
              rw [it_step, eS] at hq
              rw [nI_1]
              exact ih (i + 1) _ (by omega) hq
theorem touchB_m {m e c : Nat} {F : FS} (hV : FV m F) (hm : m ≤ 7) (he : e < 7) (hh : hasF F (nI e)) (hc : c < 12) (hce : F.1 e = nI c) : touchB F (nI e) = it (touchS F (bes c)) m 0 0 := by
  rw [touchB, if_pos hh, nI_clamp (by omega), hce, besV_n c hc]
  exact it_more hm fun t s h1 h2 => if_neg fun q => FV_no hV h2 h1 q.1
theorem r_touchOfT {d : Nat} {k : AHP} (hS : Std k) {m b : Nat} {F : FS} (hV : FV m F) (hB : RB (k.1 197) b F) (hb : b + 23 ≤ 966) (hm : m ≤ 7) (hE : k.1 189 0 = nI m) {e c : Nat} (he : e < 7) (hh : hasF F (nI e)) (hc : c < 12) (hce : F.1 e = nI c) : MM (d + 1) 208 [.ref 183, .int (nI b), .int (nI e)] k (fun v h2 => v = some (.int (touchB F (nI e))) ∧ h2 = k) := by
  refine ⟨Nat.le_of_ble_eq_true rfl, ?_⟩
  refine t_go (op := o_ci 1 0) (fe_X12_touchOf 0) (fun _ _ => rfl) ?_
  refine t_go (op := o_istore 2 3) (fe_X12_touchOf 1) (fun _ _ => rfl) ?_
  refine t_go (op := o_ci 3 0) (fe_X12_touchOf 2) (fun _ _ => rfl) ?_
  refine t_go (op := o_istore 5 4) (fe_X12_touchOf 3) (fun _ _ => rfl) ?_
  exact l_touchOf hS hV hB hb hm hE he hh hc hce m 0 0 (by omega) ⟨by rw [touchB_m hV hm he hh hc hce], rfl⟩
theorem r_touchOfF {d : Nat} {k : AHP} (hS : Std k) {m b : Nat} {F : FS} (hV : FV m F) (hB : RB (k.1 197) b F) (hb : b + 23 ≤ 966) (hm : m ≤ 7) (hE : k.1 189 0 = nI m) {e : Nat} (he : e < 7) (hh : ¬ hasF F (nI e)) : MM (d + 1) 208 [.ref 183, .int (nI b), .int (nI e)] k (fun v h2 => v = some (.int (touchB F (nI e))) ∧ h2 = k) := by
  refine ⟨Nat.le_of_ble_eq_true rfl, ?_⟩
  refine t_go (op := o_ci 1 0) (fe_X12_touchOf 0) (fun _ _ => rfl) ?_
  refine t_go (op := o_istore 2 3) (fe_X12_touchOf 1) (fun _ _ => rfl) ?_
  refine t_go (op := o_ci 3 0) (fe_X12_touchOf 2) (fun _ _ => rfl) ?_
  refine t_go (op := o_istore 5 4) (fe_X12_touchOf 3) (fun _ _ => rfl) ?_
  refine t_go (op := o_iload 7 4) (fe_X12_touchOf 5) (fun _ _ => rfl) ?_
  refine t_go (op := o_aload 8 0) (fe_X12_touchOf 7) (fun _ _ => rfl) ?_
  refine t_call (op := o_callV 11 200 1 11) (fe_X12_touchOf 8) (g_callV hS (show (lay 183).1 = 11 by decide) (by decide) rfl rfl rfl (Nat.le_of_ble_eq_true rfl)) ?_
  refine M_eq (r_embers hS hE) ?_
  refine t_ite (op := o_icmp 14 83 (fun x y => y ≤ x) (fun _ _ => inferInstance)) (fe_X12_touchOf 11) g_icmp (fun c1 => ?_) (fun c1 => ?_)
  · refine t_go (op := o_iload 84 3) (fe_X12_touchOf 83) (fun _ _ => rfl) ?_
    refine t_ret (op := o_iret) (fe_X12_touchOf 84) (fun _ _ => rfl) ?_
    exact ⟨by rw [touchB, if_neg hh], rfl⟩
  · refine t_go (op := o_aload 15 0) (fe_X12_touchOf 14) (fun _ _ => rfl) ?_
    refine t_go (op := o_iload 16 1) (fe_X12_touchOf 15) (fun _ _ => rfl) ?_
    refine t_go (op := o_iload 17 2) (fe_X12_touchOf 16) (fun _ _ => rfl) ?_
    refine t_call (op := o_callV 20 203 3 11) (fe_X12_touchOf 17) (g_callV hS (show (lay 183).1 = 11 by decide) (by decide) rfl rfl rfl (Nat.le_of_ble_eq_true rfl)) ?_
    refine M_eq (r_isThere hS hV hB hb (e := e) (by omega)) ?_
    refine t_ite (op := o_if 23 83 (fun x => x = 0) (fun _ => inferInstance)) (fe_X12_touchOf 20) g_if (fun c2 => ?_) (fun c2 => ?_)
    · replace c2 := b2i_z c2
      refine t_go (op := o_iload 84 3) (fe_X12_touchOf 83) (fun _ _ => rfl) ?_
      refine t_ret (op := o_iret) (fe_X12_touchOf 84) (fun _ _ => rfl) ?_
      exact ⟨by rw [touchB, if_neg hh], rfl⟩
    · exact absurd (b2i_nn c2) hh
theorem r_touchOf {d : Nat} {k : AHP} (hS : Std k) {m b : Nat} {F : FS} (hV : FV m F) (hB : RB (k.1 197) b F) (hb : b + 23 ≤ 966) (hm : m ≤ 7) (hE : k.1 189 0 = nI m) {e : Nat} (he : e < 7) : MM (d + 1) 208 [.ref 183, .int (nI b), .int (nI e)] k (fun v h2 => v = some (.int (touchB F (nI e))) ∧ h2 = k) := by
  by_cases hh : hasF F (nI e)
  · obtain ⟨_, c, _, _, hc, _, _, _, hce, _⟩ := FV_in hV he hh
    exact r_touchOfT hS hV hB hb hm hE he hh hc hce
  · exact r_touchOfF hS hV hB hb hm hE he hh
noncomputable def nearS (F : FS) (K : Nat → Int32) (C : Int32) (T : Int32) (e : Nat) (s : Int32) : Int32 := if bitI T (nI e) then @ite _ (glP F K C e) (Classical.propDecidable _) (s + 1) (if K e = 2 then s + (-1) else s + 0) else s + 0
def nz0 (x : Int32) : Int32 := if 0 ≤ x then x else 0
noncomputable def nearR (F : FS) (K : Nat → Int32) (C : Int32) (m e : Nat) : Int32 := nz0 (it (nearS F K C (touchB F (nI e))) m 0 0)
theorem l_nearOf {d : Nat} {k : AHP} (hS : Std k) {m b : Nat} {F : FS} {K : Nat → Int32} {C : Int32} (hV : FV m F) (hB : RB (k.1 197) b F) (hb : b + 23 ≤ 966) (hm : m ≤ 7) (hE : k.1 189 0 = nI m) (hK : ∀ e, e < m → k.1 189 (4 + 4 * e) = K e) (hC : k.1 189 2 = C) {x2 : Option Value} {T : Int32} {Q : Option Value → AHP → Prop} : ∀ (j i : Nat) (S : Int32) (x6 : Option Value), i + j = m → Q (some (.int (nz0 (it (nearS F K C T) j i S)))) k → TT (d + 2) 209 13 [some (.ref 183), some (.int (nI b)), x2, some (.int T), some (.int S), some (.int (nI i)), x6] [] k Q := by
  intro j
  induction j with
  | zero =>
    intro i S x6 hi  hq
    have hN : i = m := by omega
    refine t_go (op := o_iload 15 5) (fe_X12_nearOf 13) (fun _ _ => rfl) ?_
    refine t_go (op := o_aload 16 0) (fe_X12_nearOf 15) (fun _ _ => rfl) ?_
    refine t_call (op := o_callV 19 200 1 11) (fe_X12_nearOf 16) (g_callV hS (show (lay 183).1 = 11 by decide) (by decide) rfl rfl rfl (Nat.le_of_ble_eq_true rfl)) ?_
    refine M_eq (r_embers hS hE) ?_
    refine t_ite (op := o_icmp 22 90 (fun x y => y ≤ x) (fun _ _ => inferInstance)) (fe_X12_nearOf 19) g_icmp (fun c1 => ?_) (fun c1 => ?_)
    · refine t_go (op := o_iload 92 4) (fe_X12_nearOf 90) (fun _ _ => rfl) ?_
      refine t_ite (op := o_if 95 99 (fun x => 0 ≤ x) (fun _ => inferInstance)) (fe_X12_nearOf 92) g_if (fun c2 => ?_) (fun c2 => ?_)
      · refine t_go (op := o_iload 101 4) (fe_X12_nearOf 99) (fun _ _ => rfl) ?_
        refine t_ret (op := o_iret) (fe_X12_nearOf 101) (fun _ _ => rfl) ?_
        rw [show nz0 (it (nearS F K C T) 0 i S) = _ from if_pos c2] at hq
        exact hq
      · refine t_go (op := o_ci 96 0) (fe_X12_nearOf 95) (fun _ _ => rfl) ?_
        refine t_go (op := o_goto 101) (fe_X12_nearOf 96) (fun _ _ => rfl) ?_
        refine t_ret (op := o_iret) (fe_X12_nearOf 101) (fun _ _ => rfl) ?_
        rw [show nz0 (it (nearS F K C T) 0 i S) = _ from if_neg c2] at hq
        exact hq
    · exact absurd (by rw [hN]; exact Int32.le_refl _) c1
  | succ j ih =>
    intro i S x6 hi  hq
    have hi7 : i < m := by omega
    refine t_go (op := o_iload 15 5) (fe_X12_nearOf 13) (fun _ _ => rfl) ?_
    refine t_go (op := o_aload 16 0) (fe_X12_nearOf 15) (fun _ _ => rfl) ?_
    refine t_call (op := o_callV 19 200 1 11) (fe_X12_nearOf 16) (g_callV hS (show (lay 183).1 = 11 by decide) (by decide) rfl rfl rfl (Nat.le_of_ble_eq_true rfl)) ?_
    refine M_eq (r_embers hS hE) ?_
    refine t_ite (op := o_icmp 22 90 (fun x y => y ≤ x) (fun _ _ => inferInstance)) (fe_X12_nearOf 19) g_icmp (fun c1 => ?_) (fun c1 => ?_)
    · exact absurd c1 (nI_ge hi7 (by omega))
    · refine t_go (op := o_iload 23 3) (fe_X12_nearOf 22) (fun _ _ => rfl) ?_
      refine t_go (op := o_iload 25 5) (fe_X12_nearOf 23) (fun _ _ => rfl) ?_
      refine t_go (op := o_i2 26 (fun x y => x >>> (y &&& 31))) (fe_X12_nearOf 25) (fun _ _ => rfl) ?_
      refine t_go (op := o_ci 27 1) (fe_X12_nearOf 26) (fun _ _ => rfl) ?_
      refine t_go (op := o_i2 28 (fun x y => x &&& y)) (fe_X12_nearOf 27) (fun _ _ => rfl) ?_
      refine t_go (op := o_ci 29 1) (fe_X12_nearOf 28) (fun _ _ => rfl) ?_
      refine t_ite (op := o_icmp 36 32 (fun x y => x = y) (fun _ _ => inferInstance)) (fe_X12_nearOf 29) g_icmp (fun c2 => ?_) (fun c2 => ?_)
      · refine t_go (op := o_ci 33 1) (fe_X12_nearOf 32) (fun _ _ => rfl) ?_
        refine t_go (op := o_goto 37) (fe_X12_nearOf 33) (fun _ _ => rfl) ?_
        refine t_go (op := o_istore 39 6) (fe_X12_nearOf 37) (fun _ _ => rfl) ?_
        refine t_go (op := o_iload 41 4) (fe_X12_nearOf 39) (fun _ _ => rfl) ?_
        refine t_go (op := o_iload 43 6) (fe_X12_nearOf 41) (fun _ _ => rfl) ?_
        refine t_ite (op := o_if 46 60 (fun x => x = 0) (fun _ => inferInstance)) (fe_X12_nearOf 43) g_if (fun c3 => ?_) (fun c3 => ?_)
        · exact absurd c3 (by decide)
        · clear c3
          refine t_go (op := o_aload 47 0) (fe_X12_nearOf 46) (fun _ _ => rfl) ?_
          refine t_go (op := o_iload 48 1) (fe_X12_nearOf 47) (fun _ _ => rfl) ?_
          refine t_go (op := o_iload 50 5) (fe_X12_nearOf 48) (fun _ _ => rfl) ?_
          refine t_call (op := o_callV 53 204 3 11) (fe_X12_nearOf 50) (g_callV hS (show (lay 183).1 = 11 by decide) (by decide) rfl rfl rfl (Nat.le_of_ble_eq_true rfl)) ?_
          refine M_eq (r_isAlight hS hV hB hb (e := i) (by omega) hm (hK _ (by omega)) hC) ?_
          refine t_ite (op := o_if 56 60 (fun x => x = 0) (fun _ => inferInstance)) (fe_X12_nearOf 53) g_if (fun c4 => ?_) (fun c4 => ?_)
          · replace c4 := b2i_z c4
            refine t_go (op := o_iload 62 6) (fe_X12_nearOf 60) (fun _ _ => rfl) ?_
            refine t_ite (op := o_if 65 80 (fun x => x = 0) (fun _ => inferInstance)) (fe_X12_nearOf 62) g_if (fun c5 => ?_) (fun c5 => ?_)
            · exact absurd c5 (by decide)
            · clear c5
              refine t_go (op := o_aload 66 0) (fe_X12_nearOf 65) (fun _ _ => rfl) ?_
              refine t_go (op := o_iload 68 5) (fe_X12_nearOf 66) (fun _ _ => rfl) ?_
              refine t_go (op := o_ci 69 0) (fe_X12_nearOf 68) (fun _ _ => rfl) ?_
              refine t_call (op := o_callV 72 201 3 11) (fe_X12_nearOf 69) (g_callV hS (show (lay 183).1 = 11 by decide) (by decide) rfl rfl rfl (Nat.le_of_ble_eq_true rfl)) ?_
              refine M_eq (r_emberOf hS (e := i) (w := 0) (by omega)) ?_
              refine t_go (op := o_ci 73 2) (fe_X12_nearOf 72) (fun _ _ => rfl) ?_
              rw [show 4 + 4 * i + 0 = 4 + 4 * i from rfl, hK i hi7]
              refine t_ite (op := o_icmp 80 76 (fun x y => x = y) (fun _ _ => inferInstance)) (fe_X12_nearOf 73) g_icmp (fun c6 => ?_) (fun c6 => ?_)
              · refine t_go (op := o_ci 77 (-1)) (fe_X12_nearOf 76) (fun _ _ => rfl) ?_
                refine t_go (op := o_goto 81) (fe_X12_nearOf 77) (fun _ _ => rfl) ?_
                refine t_go (op := o_i2 82 (fun x y => x + y)) (fe_X12_nearOf 81) (fun _ _ => rfl) ?_
                refine t_go (op := o_istore 84 4) (fe_X12_nearOf 82) (fun _ _ => rfl) ?_
                refine t_go (op := o_iinc 87 5 1) (fe_X12_nearOf 84) (fun _ _ => rfl) ?_
                refine t_go (op := o_goto 13) (fe_X12_nearOf 87) (fun _ _ => rfl) ?_
                have eS := (show nearS F K C T i S = _ from (Eq.trans (if_pos c2) (Eq.trans (if_neg c4) (if_pos c6))))
                rw [it_step, eS] at hq
                rw [nI_1]
                exact ih (i + 1) _ _ (by omega) hq
              · refine t_go (op := o_ci 81 0) (fe_X12_nearOf 80) (fun _ _ => rfl) ?_
                refine t_go (op := o_i2 82 (fun x y => x + y)) (fe_X12_nearOf 81) (fun _ _ => rfl) ?_
                refine t_go (op := o_istore 84 4) (fe_X12_nearOf 82) (fun _ _ => rfl) ?_
                refine t_go (op := o_iinc 87 5 1) (fe_X12_nearOf 84) (fun _ _ => rfl) ?_
                refine t_go (op := o_goto 13) (fe_X12_nearOf 87) (fun _ _ => rfl) ?_
                have eS := (show nearS F K C T i S = _ from (Eq.trans (if_pos c2) (Eq.trans (if_neg c4) (if_neg c6))))
                rw [it_step, eS] at hq
                rw [nI_1]
                exact ih (i + 1) _ _ (by omega) hq
          · replace c4 := b2i_nn c4
            refine t_go (op := o_ci 57 1) (fe_X12_nearOf 56) (fun _ _ => rfl) ?_
            refine t_go (op := o_goto 81) (fe_X12_nearOf 57) (fun _ _ => rfl) ?_
            refine t_go (op := o_i2 82 (fun x y => x + y)) (fe_X12_nearOf 81) (fun _ _ => rfl) ?_
            refine t_go (op := o_istore 84 4) (fe_X12_nearOf 82) (fun _ _ => rfl) ?_
            refine t_go (op := o_iinc 87 5 1) (fe_X12_nearOf 84) (fun _ _ => rfl) ?_
            refine t_go (op := o_goto 13) (fe_X12_nearOf 87) (fun _ _ => rfl) ?_
            have eS := (show nearS F K C T i S = _ from (Eq.trans (if_pos c2) (if_pos c4)))
            rw [it_step, eS] at hq
            rw [nI_1]
            exact ih (i + 1) _ _ (by omega) hq
      · refine t_go (op := o_ci 37 0) (fe_X12_nearOf 36) (fun _ _ => rfl) ?_
        refine t_go (op := o_istore 39 6) (fe_X12_nearOf 37) (fun _ _ => rfl) ?_
        refine t_go (op := o_iload 41 4) (fe_X12_nearOf 39) (fun _ _ => rfl) ?_
        refine t_go (op := o_iload 43 6) (fe_X12_nearOf 41) (fun _ _ => rfl) ?_
        refine t_ite (op := o_if 46 60 (fun x => x = 0) (fun _ => inferInstance)) (fe_X12_nearOf 43) g_if (fun c7 => ?_) (fun c7 => ?_)
        · clear c7
          refine t_go (op := o_iload 62 6) (fe_X12_nearOf 60) (fun _ _ => rfl) ?_
          refine t_ite (op := o_if 65 80 (fun x => x = 0) (fun _ => inferInstance)) (fe_X12_nearOf 62) g_if (fun c8 => ?_) (fun c8 => ?_)
          · clear c8
            refine t_go (op := o_ci 81 0) (fe_X12_nearOf 80) (fun _ _ => rfl) ?_
            refine t_go (op := o_i2 82 (fun x y => x + y)) (fe_X12_nearOf 81) (fun _ _ => rfl) ?_
            refine t_go (op := o_istore 84 4) (fe_X12_nearOf 82) (fun _ _ => rfl) ?_
            refine t_go (op := o_iinc 87 5 1) (fe_X12_nearOf 84) (fun _ _ => rfl) ?_
            refine t_go (op := o_goto 13) (fe_X12_nearOf 87) (fun _ _ => rfl) ?_
            have eS := (show nearS F K C T i S = _ from (if_neg c2))
            rw [it_step, eS] at hq
            rw [nI_1]
            exact ih (i + 1) _ _ (by omega) hq
          · exact absurd (by decide) c8
        · exact absurd (by decide) c7
theorem r_nearOf {d : Nat} {k : AHP} (hS : Std k) {m b : Nat} {F : FS} {K : Nat → Int32} {C : Int32} (hV : FV m F) (hB : RB (k.1 197) b F) (hb : b + 23 ≤ 966) (hm : m ≤ 7) (hE : k.1 189 0 = nI m) (hK : ∀ e, e < m → k.1 189 (4 + 4 * e) = K e) (hC : k.1 189 2 = C) {e : Nat} (he : e < 7) : MM (d + 2) 209 [.ref 183, .int (nI b), .int (nI e)] k (fun v h2 => v = some (.int (nearR F K C m e)) ∧ h2 = k) := by
  refine ⟨Nat.le_of_ble_eq_true rfl, ?_⟩
  refine t_go (op := o_aload 1 0) (fe_X12_nearOf 0) (fun _ _ => rfl) ?_
  refine t_go (op := o_iload 2 1) (fe_X12_nearOf 1) (fun _ _ => rfl) ?_
  refine t_go (op := o_iload 3 2) (fe_X12_nearOf 2) (fun _ _ => rfl) ?_
  refine t_call (op := o_callV 6 208 3 11) (fe_X12_nearOf 3) (g_callV hS (show (lay 183).1 = 11 by decide) (by decide) rfl rfl rfl (Nat.le_of_ble_eq_true rfl)) ?_
  refine M_eq (r_touchOf hS hV hB hb hm hE (e := e) (by omega)) ?_
  refine t_go (op := o_istore 7 3) (fe_X12_nearOf 6) (fun _ _ => rfl) ?_
  refine t_go (op := o_ci 8 0) (fe_X12_nearOf 7) (fun _ _ => rfl) ?_
  refine t_go (op := o_istore 10 4) (fe_X12_nearOf 8) (fun _ _ => rfl) ?_
  refine t_go (op := o_ci 11 0) (fe_X12_nearOf 10) (fun _ _ => rfl) ?_
  refine t_go (op := o_istore 13 5) (fe_X12_nearOf 11) (fun _ _ => rfl) ?_
  exact l_nearOf hS hV hB hb hm hE hK hC m 0 0 _ (by omega) ⟨rfl, rfl⟩
