/-! ===== an hour, whole ===== -/
section PASS
variable {L : Int32 → Int32 → Int32 → Int32 → Int32} {K : Nat → Int32} {lit lc dc air C : Int32}
theorem hr_rest {m : Nat} {G : FS} (hV : FV m G) (hL : ∀ e, m ≤ e → e < 7 → ¬ bitI lit (nI e)) : ∀ (j i : Nat) (s : Int32), m ≤ i → i + j ≤ 7 → it (hrS L K lit lc dc air) j i (G, s) = (G, s) := by
  intro j
  induction j with
  | zero => intro i s _ _; rfl
  | succ j ih =>
    intro i s h1 h2
    rw [it_step, hr_F (by omega) (FV_no hV (by omega) h1) (hL i h1 (by omega))]
    exact ih (i + 1) s (by omega) (by omega)
theorem FV_ithr {m : Nat} (hm : m ≤ 7) : ∀ (j i : Nat) (G : FS) (s : Int32), i + j ≤ m → FV m G → (∀ e, i ≤ e → e < m → bitI lit (nI e) → hasF G (nI e)) → FV m (it (hrS L K lit lc dc air) j i (G, s)).1 := by
  intro j
  induction j with
  | zero => intro i G s _ hV _; exact hV
  | succ j ih =>
    intro i G s h hV hL
    rw [it_step]
    have hv := FV_hr (L := L) (K := K) (lit := lit) (lc := lc) (dc := dc) (air := air) (s := s) hV (show i < 7 by omega) (hL i (by omega) (by omega))
    have hk := (hr_keep (L := L) (K := K) (r := fun e => wv L lc dc air G e) (lit := lit) (lc := lc) (dc := dc) (air := air) (s := s) (show i < m by omega) hm (fun e _ _ _ => rfl) hL).2
    generalize hrS L K lit lc dc air i (G, s) = q at hv hk ⊢
    obtain ⟨G2, s2⟩ := q
    exact ih (i + 1) G2 s2 (by omega) hv hk
theorem FV_itfall {m : Nat} : ∀ (j i : Nat) (G : FS), 4 ≤ i → i + j ≤ 12 → FV m G → FV m (it fallS j i G) := by
  intro j
  induction j with
  | zero => intro i G _ _ hV; exact hV
  | succ j ih =>
    intro i G h4 h hV
    rw [it_step]
    exact ih (i + 1) _ (by omega) (by omega) (FV_fall hV h4 (by omega))
theorem lit_in {F : FS} {e : Nat} (he : e < 7) (h : bitI (litB F K C) (nI e)) : hasF F (nI e) := ((litB_bit he).mp h).1
theorem burn_hr {m : Nat} {F : FS} (hV : FV m F) (hm : m ≤ 7) : it (burnS K (litB F K C)) 7 0 (warmF L K (litB F K C) air F, 0) = it (hrS L K (litB F K C) (it (cellsS F K (litB F K C)) 7 0 (0, 0)).1 (it (cellsS F K (litB F K C)) 7 0 (0, 0)).2 air) m 0 (F, 0) := by
  have key : ∀ lc dc : Int32, it (hrS L K (litB F K C) lc dc air) 7 0 (F, 0) = it (hrS L K (litB F K C) lc dc air) m 0 (F, 0) := by
    intro lc dc
    have h2 := FV_ithr (L := L) (K := K) (lit := litB F K C) (lc := lc) (dc := dc) (air := air) hm m 0 F 0 (by omega) hV (fun e _ h1 hb => lit_in (by omega) hb)
    rw [show 7 = m + (7 - m) by omega, it_app, Nat.zero_add]
    generalize it (hrS L K (litB F K C) lc dc air) m 0 (F, 0) = q at h2 ⊢
    obtain ⟨G, s⟩ := q
    exact hr_rest h2 (fun e h3 h4 hb => FV_no hV h4 h3 (lit_in h4 hb)) (7 - m) m s (by omega) (by omega)
  unfold warmF
  rw [← key, hr_eq 7 0 (F, 0) (by omega)]
theorem FV_pass {m : Nat} {F : FS} (hV : FV m F) (hm : m ≤ 7) : FV m (passF L K C air F).1 := by
  unfold passF
  rw [burn_hr hV hm]
  exact FV_itfall 8 4 _ (by omega) (by omega) (FV_ithr hm m 0 F 0 (by omega) hV (fun e _ h1 hb => lit_in (by omega) hb))
theorem carry_end {F : FS} {e c : Int32} : (carryF F e c).2.2.2.2 = F.2.2.2.2 := by
  unfold carryF
  split <;> rfl
theorem stoke_end {F : FS} {e : Int32} : (stokeF F e).2.2.2.2 = F.2.2.2.2 := by
  unfold stokeF
  split
  · exact carry_end
  · rfl
theorem take_end {F : FS} {e : Int32} : (takeOutF F e).2.2.2.2 = F.2.2.2.2 := by
  unfold takeOutF
  split <;> rfl
theorem fuel_end {F : FS} {e x : Int32} : (addFuelF F e x).2.2.2.2 = F.2.2.2.2 := by
  unfold addFuelF
  split <;> rfl
theorem fall_end : ∀ (j i : Nat) (G : FS), (it fallS j i G).2.2.2.2 = G.2.2.2.2 := by
  intro j
  induction j with
  | zero => intro i G; rfl
  | succ j ih => intro i G; rw [it_step, ih]; exact carry_end
theorem ithr_end : ∀ (j i : Nat) (s : FS × Int32), (it (hrS L K lit lc dc air) j i s).1.2.2.2.2 = s.1.2.2.2.2 := by
  intro j
  induction j with
  | zero => intro i G; rfl
  | succ j ih => intro i G; rw [it_step, ih]; exact hr_end
theorem pass_end {m : Nat} {F : FS} (hV : FV m F) (hm : m ≤ 7) : (passF L K C air F).1.2.2.2.2 = (F.2.2.2.2.1 + 1, F.2.2.2.2.2) := by
  unfold passF
  rw [burn_hr hV hm]
  show ((it fallS 8 4 _).2.2.2.2.1 + 1, (it fallS 8 4 _).2.2.2.2.2) = _
  rw [fall_end, ithr_end]
theorem HT_pass {m T : Nat} {F : FS} (hV : FV m F) (hm : m ≤ 7) (hT : HT T F) : HT (T + 1) (passF L K C air F).1 := by
  obtain ⟨t, h1, h2⟩ := hT
  refine ⟨t + 1, by omega, ?_⟩
  rw [show (passF L K C air F).1.2.2.2.2.1 = F.2.2.2.2.1 + 1 from congrArg Prod.fst (pass_end hV hm), h2, nI_1]
end PASS
set_option maxRecDepth 8000 in
theorem r_passes {d : Nat} {k : AHP} {m n b : Nat} {F : FS} {K st : Nat → Int32} {C x air : Int32} (hR : RH k m K C st n) (hV : FV m F) (hB : RB (k.1 197) b F) (hb : b + 23 ≤ 966) (hair : air = if F.2.2.2.2.2 = 1 then 0 else x) : MM (d + 3) 214 [.ref 183, .int (nI b), .int x] k (fun v h2 => v = some (.int (passF (tellsV st n (fun _ => 0) (fun _ => 0)) K C air F).2) ∧ Zf (blk b) k h2 ∧ RB (h2.1 197) b (passF (tellsV st n (fun _ => 0) (fun _ => 0)) K C air F).1) := by
  refine ⟨Nat.le_of_ble_eq_true rfl, ?_⟩
  have hS := hR.1
  have hE := hR.2.1
  have hm := hR.2.2.1
  have hK := hR.2.2.2.1
  have hC := hR.2.2.2.2.1
  refine t_go (op := o_aload 1 0) (fe_X12_passes 0) (fun _ _ => rfl) ?_
  refine t_go (op := o_iload 2 1) (fe_X12_passes 1) (fun _ _ => rfl) ?_
  refine t_call (op := o_callV 5 205 2 11) (fe_X12_passes 2) (g_callV hS (show (lay 183).1 = 11 by decide) (by decide) rfl rfl rfl (Nat.le_of_ble_eq_true rfl)) ?_
  refine M_eq (r_alightNow hS hV hB hb hm hE hK hC) ?_
  refine t_go (op := o_istore 6 3) (fe_X12_passes 5) (fun _ _ => rfl) ?_
  refine t_go (op := o_ci 7 0) (fe_X12_passes 6) (fun _ _ => rfl) ?_
  refine t_go (op := o_istore 9 4) (fe_X12_passes 7) (fun _ _ => rfl) ?_
  refine l_pass1 hR hV hB hb hair m 0 k none (by omega) Zf.rf (fun e he => absurd he (Nat.not_lt_zero e)) fun S1 x5 hz1 hH => ?_
  refine t_go (op := o_ci 175 0) (fe_X12_passes 174) (fun _ _ => rfl) ?_
  refine t_go (op := o_istore 177 4) (fe_X12_passes 175) (fun _ _ => rfl) ?_
  refine t_go (op := o_ci 178 0) (fe_X12_passes 177) (fun _ _ => rfl) ?_
  refine t_go (op := o_istore 180 5) (fe_X12_passes 178) (fun _ _ => rfl) ?_
  refine l_pass2 (hR.zf hz1) hb m 0 S1 F 0 (by omega) Zf.rf (hB.zf hz1 (fun _ _ _ q => q)) hV rfl (fun e _ he hh => hH e he hh) (fun e _ he hq => lit_in (by omega) hq) fun S2 hz2 hB2 hV2 => ?_
  refine t_go (op := o_ci 300 4) (fe_X12_passes 299) (fun _ _ => rfl) ?_
  refine t_go (op := o_istore 302 5) (fe_X12_passes 300) (fun _ _ => rfl) ?_
  refine l_pass3 ((hR.zf hz1).zf hz2) hb 8 4 S2 _ (by omega) Zf.rf hB2 hV2 (by omega) fun S3 hz3 hB3 hV3 => ?_
  refine ⟨?_, Zf_st ((hz1.mono (fun _ q => q.elim)).tr (hz2.tr hz3)) (by constructor <;> omega), ?_⟩
  · unfold passF
    rw [burn_hr hV hm]
  · unfold passF
    rw [burn_hr hV hm]
    exact RB_hour hB3
/-- the reference's draughts -/
def RD (k : AHP) (dr : Int32 → Int32) : Prop := ∃ q : Nat, 1 ≤ q ∧ q ≤ 12 ∧ k.1 189 1 = nI q ∧ ∀ t, t < 100000 → k.1 189 (32 + t % q) = dr (nI t)
theorem RD.zf {A : Nat → Prop} {k S : AHP} {dr : Int32 → Int32} (h : RD k dr) (hz : Zf A k S) : RD S dr := by
  unfold RD
  rw [hz.row (a := 189) (by omega)]
  exact h
theorem nI_mod {a q : Nat} (ha : a < 2 ^ 31) (hq : 1 ≤ q) (hq2 : q < 2 ^ 31) : remI (nI a) (nI q) = nI (a % q) := by
  have h1 : nI a / nI q = nI (a / q) := by
    refine Int32.toInt_inj.mp ?_
    rw [Int32.toInt_div, nI_toInt ha, nI_toInt hq2, nI_toInt (Nat.lt_of_le_of_lt (Nat.div_le_self a q) ha), show ((a : Int).tdiv (q : Int)) = ((a / q : Nat) : Int) from rfl]
    refine Int.bmod_eq_of_le ?_ ?_
    · have : (0 : Int) ≤ ((a / q : Nat) : Int) := Int.natCast_nonneg _
      omega
    · have : a / q ≤ a := Nat.div_le_self a q
      omega
  unfold remI
  rw [h1, nIm (a := a / q) (b := q) rfl rfl]
  have h2 : a / q * q ≤ a := Nat.div_mul_le_self a q
  rw [nIs (a := a) (b := a / q * q) rfl rfl h2]
  congr 1
  have := Nat.div_add_mod a q
  rw [Nat.mul_comm] at this
  omega
theorem nI_nz {q : Nat} (h : 1 ≤ q) (h2 : q < 2 ^ 31) : ¬ nI q = 0 := fun e => by
  have := (nI_eq (a := q) (b := 0) h2 (by decide)).mp e
  omega
theorem r_draughtOf {d : Nat} {k : AHP} {b : Nat} {F : FS} {dr : Int32 → Int32} (hS : Std k) (hD : RD k dr) (hB : RB (k.1 197) b F) (hb : b + 23 ≤ 966) {T : Nat} (hT : HT T F) (hT2 : T < 100000) : MM d 213 [.ref 183, .int (nI b)] k (fun v h2 => v = some (.int (dr F.2.2.2.2.1)) ∧ h2 = k) := by
  refine ⟨Nat.le_of_ble_eq_true rfl, ?_⟩
  obtain ⟨q, hq1, hq2, hq3, hq4⟩ := hD
  obtain ⟨t, ht, ht2⟩ := hT
  have hlt : t % q < 12 := Nat.lt_of_lt_of_le (Nat.mod_lt t hq1) hq2
  refine t_go (op := o_aload 1 0) (fe_X12_draughtOf 0) (fun _ _ => rfl) ?_
  refine t_go (op := o_getR 4 11 10) (fe_X12_draughtOf 1) (g_getR hS (show (lay 183).1 = 11 by decide) (by decide) (fr_11_10 hS) (by decide)) ?_
  refine t_go (op := o_ci 6 32) (fe_X12_draughtOf 4) (fun _ _ => rfl) ?_
  refine t_go (op := o_aload 7 0) (fe_X12_draughtOf 6) (fun _ _ => rfl) ?_
  refine t_go (op := o_getR 10 11 22) (fe_X12_draughtOf 7) (g_getR hS (show (lay 183).1 = 11 by decide) (by decide) (fr_11_22 hS) (by decide)) ?_
  refine t_go (op := o_iload 11 1) (fe_X12_draughtOf 10) (fun _ _ => rfl) ?_
  refine t_go (op := o_ci 12 0) (fe_X12_draughtOf 11) (fun _ _ => rfl) ?_
  refine t_go (op := o_i2 13 (fun x y => x + y)) (fe_X12_draughtOf 12) (fun _ _ => rfl) ?_
  refine t_go (op := o_iald 14) (fe_X12_draughtOf 13) (g_ialdN hS (show lay 197 = (20, 966) by decide) (nIa rfl (nIl 0)) (by omega) (by decide)) ?_
  rw [show k.1 197 (b + 0) = nI t from hB.2.1.trans ht2]
  refine t_go (op := o_aload 15 0) (fe_X12_draughtOf 14) (fun _ _ => rfl) ?_
  refine t_go (op := o_getR 18 11 10) (fe_X12_draughtOf 15) (g_getR hS (show (lay 183).1 = 11 by decide) (by decide) (fr_11_10 hS) (by decide)) ?_
  refine t_go (op := o_ci 19 1) (fe_X12_draughtOf 18) (fun _ _ => rfl) ?_
  refine t_go (op := o_iald 20) (fe_X12_draughtOf 19) (g_ialdN hS (show lay 189 = (20, 100) by decide) (nIl 1) (by omega) (by decide)) ?_
  rw [hq3]
  refine t_go (op := o_i2d 21 (fun x y => x - x / y * y)) (fe_X12_draughtOf 20) (g_i2d (nI_nz hq1 (by omega))) ?_
  refine t_go (op := o_i2 22 (fun x y => x + y)) (fe_X12_draughtOf 21) (fun _ _ => rfl) ?_
  refine t_go (op := o_iald 23) (fe_X12_draughtOf 22) (g_ialdN hS (show lay 189 = (20, 100) by decide) (nIa (nIl 32) (nI_mod (by omega) hq1 (by omega))) (by omega) (by decide)) ?_
  refine t_ret (op := o_iret) (fe_X12_draughtOf 23) (fun _ _ => rfl) ?_
  exact ⟨by rw [hq4 t (by omega), ht2], rfl⟩
/-- the reference holds the grate g of h -/
def CP (k h : AHP) (g n m : Nat) : Prop := RH k m (h.1 (g + 2)) (h.1 g 5) (h.1 (g + 9)) n ∧ RD k (drV h g)
theorem CP.zf {A : Nat → Prop} {k S h : AHP} {g n m : Nat} (hR : CP k h g n m) (hz : Zf A k S) : CP S h g n m := ⟨hR.1.zf hz, hR.2.zf hz⟩
/-- a fire that can be, no later than T -/
def FW (m T : Nat) (F : FS) : Prop := FV m F ∧ HT T F
theorem air_eq {h : AHP} {g m : Nat} {F : FS} (hV : FV m F) : airV h g 1 F = if F.2.2.2.2.2 = 1 then 0 else drV h g F.2.2.2.2.1 := by
  unfold airV
  rw [if_neg (by decide)]
  rcases hV.2.2.2 with h1 | h1
  · rw [h1, if_pos rfl, if_neg (by decide)]
  · rw [h1, if_neg (by decide), if_pos rfl]
theorem FW_HB {h : AHP} {g n m T : Nat} {b : Int32} {F : FS} (hm : m ≤ 7) (hW : FW m T F) : FW m (T + 1) (HB h g n b F).1 := ⟨FV_pass hW.1 hm, HT_pass hW.1 hm hW.2⟩
theorem FW_HF {h : AHP} {g n m T : Nat} {F : FS} (hm : m ≤ 7) (hW : FW m T F) : FW m (T + 1) (HF h g n F) := FW_HB hm hW
theorem FW_le {m T T2 : Nat} {F : FS} (hW : FW m T F) (h : T ≤ T2) : FW m T2 F := ⟨hW.1, hW.2.imp fun t q => ⟨by omega, q.2⟩⟩
theorem FW_HN {h : AHP} {g n m T : Nat} {F : FS} (hm : m ≤ 7) (hW : FW m T F) : ∀ j, FW m (T + j) (HN h g n j F) := by
  intro j
  induction j with
  | zero => exact hW
  | succ j ih => rw [HN_succ]; exact FW_HF hm ih
theorem r_hour {d : Nat} {k h : AHP} {m n g b T : Nat} {F : FS} (hP : CP k h g n m) (hW : FW m T F) (hB : RB (k.1 197) b F) (hb : b + 23 ≤ 966) (hT : T < 99000) : MM (d + 4) 215 [.ref 183, .int (nI b)] k (fun v h2 => v = some (.int (HB h g n 1 F).2) ∧ Zf (blk b) k h2 ∧ RB (h2.1 197) b (HF h g n F)) := by
  refine ⟨Nat.le_of_ble_eq_true rfl, ?_⟩
  have hS := hP.1.1
  refine t_go (op := o_aload 1 0) (fe_X12_passes_ 0) (fun _ _ => rfl) ?_
  refine t_go (op := o_iload 2 1) (fe_X12_passes_ 1) (fun _ _ => rfl) ?_
  refine t_go (op := o_aload 3 0) (fe_X12_passes_ 2) (fun _ _ => rfl) ?_
  refine t_go (op := o_iload 4 1) (fe_X12_passes_ 3) (fun _ _ => rfl) ?_
  refine t_call (op := o_callV 7 213 2 11) (fe_X12_passes_ 4) (g_callV hS (show (lay 183).1 = 11 by decide) (by decide) rfl rfl rfl (Nat.le_of_ble_eq_true rfl)) ?_
  refine M_eq (r_draughtOf hS hP.2 hB hb hW.2 (by omega)) ?_
  refine t_call (op := o_callV 10 214 3 11) (fe_X12_passes_ 7) (g_callV hS (show (lay 183).1 = 11 by decide) (by decide) rfl rfl rfl (Nat.le_of_ble_eq_true rfl)) ?_
  refine M_mono ?_ (r_passes hP.1 hW.1 hB hb (air_eq hW.1))
  rintro _ h2 ⟨rfl, hz, hB2⟩
  refine t_ret (op := o_iret) (fe_X12_passes_ 10) (fun _ _ => rfl) ?_
  exact ⟨rfl, hz, hB2⟩
