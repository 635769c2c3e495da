/-! ===== the class: the next token ===== -/
def Tf (h h2 : AHP) : Prop := h2.2.2.2 = h.2.2.2 ∧ (∀ a i, ¬ (a = 2 ∧ i = 6) → h2.2.2.1 a i = h.2.2.1 a i) ∧ (∀ a, a ≠ 2 → h2.2.1 a = h.2.1 a) ∧ (∀ a, a ≠ 2 → h2.1 a = h.1 a) ∧ h2.1 2 1 = h.1 2 1
theorem Tf.rf {h : AHP} : Tf h h := ⟨rfl, fun _ _ _ => rfl, fun _ _ => rfl, fun _ _ => rfl, rfl⟩
theorem Tf.tr {h k m : AHP} (h1 : Tf h k) (h2 : Tf k m) : Tf h m := ⟨h2.1.trans h1.1, fun a i q => (h2.2.1 a i q).trans (h1.2.1 a i q), fun a q => (h2.2.2.1 a q).trans (h1.2.2.1 a q), fun a q => (h2.2.2.2.1 a q).trans (h1.2.2.2.1 a q), h2.2.2.2.2.trans h1.2.2.2.2⟩
theorem fin_key : ∀ q ∈ finL, ¬ (q.1 = 2 ∧ q.2.1 = 6) := by decide +kernel
theorem Tf.std {h k : AHP} (h1 : Tf h k) (hS : Std h) : Std k := ⟨by rw [h1.1]; exact hS.1, fun q hq => by rw [h1.2.1 _ _ (fin_key q hq)]; exact hS.2 q hq⟩
def cSo (s : Nat) : Nat := if s = 0 then 0 else if s = 1 then 2 else if s = 2 then 3 else if s = 3 then 4 else 1
def TKp (h2 : AHP) (t : Tk) : Prop := h2.1 2 2 = nI (cSo t.1) ∧ h2.1 2 3 = nI t.2.1 ∧ ((t.1 = 2 ∨ t.1 = 3) → h2.1 2 4 = nI t.2.2.1) ∧ (t.1 = 1 → h2.2.1 2 5 = lN (n32 t.2.2.2.1)) ∧ h2.2.2.1 2 6 = 200000 + (if t.1 = 1 then t.2.2.1 else 24) ∧ h2.1 2 7 = nI t.2.2.2.2
set_option maxRecDepth 8000 in
theorem lc_blank {d : Nat} {k : AHP} {ch : Nat → Nat} {len : Nat} (hS : Std k) (hCH : CHr (k.1 3) ch len) (hlen : len ≤ 1000) {Q : Option Value → AHP → Prop} : ∀ (j i : Nat) (_ : Unit), i + j = len → TT (d + 1) 97 43 [some (.ref 2), some (.int (nI len)), some (.int (nI (rnE iB ch j i)))] [] k Q → TT (d + 1) 97 20 [some (.ref 2), some (.int (nI len)), some (.int (nI i))] [] k Q := by
  intro j
  induction j with
  | zero =>
    intro i _ hi  hq
    have hN : i = len := by omega
    refine t_go (op := o_iload 21 2) (fe_X9_toNext 20) (fun _ _ => rfl) ?_
    refine t_go (op := o_iload 22 1) (fe_X9_toNext 21) (fun _ _ => rfl) ?_
    refine t_ite (op := o_icmp 25 43 (fun x y => y ≤ x) (fun _ _ => inferInstance)) (fe_X9_toNext 22) g_icmp (fun c1 => ?_) (fun c1 => ?_)
    · exact hq
    · exact absurd (by rw [hN]; exact Int32.le_refl _) c1
  | succ j ih =>
    intro i _ hi  hq
    have hi7 : i < len := by omega
    refine t_go (op := o_iload 21 2) (fe_X9_toNext 20) (fun _ _ => rfl) ?_
    refine t_go (op := o_iload 22 1) (fe_X9_toNext 21) (fun _ _ => rfl) ?_
    refine t_ite (op := o_icmp 25 43 (fun x y => y ≤ x) (fun _ _ => inferInstance)) (fe_X9_toNext 22) g_icmp (fun c1 => ?_) (fun c1 => ?_)
    · exact absurd c1 (nI_ge hi7 (by omega))
    · refine t_go (op := o_aload 26 0) (fe_X9_toNext 25) (fun _ _ => rfl) ?_
      refine t_go (op := o_getR 29 8 0) (fe_X9_toNext 26) (g_getR hS (show (lay 2).1 = 8 by decide) (by decide) (fr_8_0 hS) (by decide)) ?_
      refine t_go (op := o_iload 30 2) (fe_X9_toNext 29) (fun _ _ => rfl) ?_
      refine t_go (op := o_iald 31) (fe_X9_toNext 30) (g_ialdN hS (show lay 3 = (20, 1000) by decide) rfl (by omega) (by decide)) ?_
      rw [show k.1 3 i = nI (ch i) from (hCH i (by omega)).1]
      refine t_call (op := o_callS 34 99 1) (fe_X9_toNext 31) (g_callS rfl rfl rfl (Nat.le_of_ble_eq_true rfl)) ?_
      refine M_eq (c_isBlank (c := ch i) (by have := (hCH i (by omega)).2; omega)) ?_
      refine t_ite (op := o_if 37 43 (fun x => x = 0) (fun _ => inferInstance)) (fe_X9_toNext 34) g_if (fun c2 => ?_) (fun c2 => ?_)
      · replace c2 := b2i_z c2
        rw [rnE, if_neg c2] at hq
        exact hq
      · replace c2 := b2i_nn c2
        refine t_go (op := o_iinc 40 2 1) (fe_X9_toNext 37) (fun _ _ => rfl) ?_
        refine t_go (op := o_goto 20) (fe_X9_toNext 40) (fun _ _ => rfl) ?_
        rw [rnE, if_pos c2] at hq
        rw [nI_1]
        exact ih (i + 1) () (by omega) hq
theorem iL_1 {c : Nat} (h : iL c = true) : 97 ≤ c := by
  unfold iL at h
  rw [Bool.and_eq_true] at h
  exact Nat.le_of_ble_eq_true h.1
theorem iL_2 {c : Nat} (h : iL c = true) : c ≤ 122 := by
  unfold iL at h
  rw [Bool.and_eq_true] at h
  exact Nat.le_of_ble_eq_true h.2
theorem iD_1 {c : Nat} (h : iD c = true) : 48 ≤ c := by
  unfold iD at h
  rw [Bool.and_eq_true] at h
  exact Nat.le_of_ble_eq_true h.1
theorem iD_2 {c : Nat} (h : iD c = true) : c ≤ 57 := by
  unfold iD at h
  rw [Bool.and_eq_true] at h
  exact Nat.le_of_ble_eq_true h.2
set_option maxRecDepth 8000 in
theorem lc_lets {d : Nat} {k : AHP} {ch : Nat → Nat} {len : Nat} (hS : Std k) (hCH : CHr (k.1 3) ch len) (hlen : len ≤ 1000) {q : Nat} {Q : Option Value → AHP → Prop} : ∀ (j i : Nat) (_ : Unit), i + j = len → q ≤ i → (∀ e, q ≤ e → e = rnE iL ch j i → TT (d + 1) 97 123 [some (.ref 2), some (.int (nI len)), some (.int (nI e))] [] (sJ k 2 5 (lN (n32 (lts ch (e - q) q)))) Q) → TT (d + 1) 97 83 [some (.ref 2), some (.int (nI len)), some (.int (nI i))] [] (sJ k 2 5 (lN (n32 (lts ch (i - q) q)))) Q := by
  intro j
  induction j with
  | zero =>
    intro i _ hi hqi hq
    have hN : i = len := by omega
    refine t_go (op := o_iload 84 2) (fe_X9_toNext 83) (fun _ _ => rfl) ?_
    refine t_go (op := o_iload 85 1) (fe_X9_toNext 84) (fun _ _ => rfl) ?_
    refine t_ite (op := o_icmp 88 123 (fun x y => y ≤ x) (fun _ _ => inferInstance)) (fe_X9_toNext 85) g_icmp (fun c1 => ?_) (fun c1 => ?_)
    · exact hq i hqi rfl
    · exact absurd (by rw [hN]; exact Int32.le_refl _) c1
  | succ j ih =>
    intro i _ hi hqi hq
    have hi7 : i < len := by omega
    refine t_go (op := o_iload 84 2) (fe_X9_toNext 83) (fun _ _ => rfl) ?_
    refine t_go (op := o_iload 85 1) (fe_X9_toNext 84) (fun _ _ => rfl) ?_
    refine t_ite (op := o_icmp 88 123 (fun x y => y ≤ x) (fun _ _ => inferInstance)) (fe_X9_toNext 85) g_icmp (fun c1 => ?_) (fun c1 => ?_)
    · exact absurd c1 (nI_ge hi7 (by omega))
    · refine t_go (op := o_aload 89 0) (fe_X9_toNext 88) (fun _ _ => rfl) ?_
      refine t_go (op := o_getR 92 8 0) (fe_X9_toNext 89) (g_getR hS (show (lay 2).1 = 8 by decide) (by decide) (fr_8_0 hS) (by decide)) ?_
      refine t_go (op := o_iload 93 2) (fe_X9_toNext 92) (fun _ _ => rfl) ?_
      refine t_go (op := o_iald 94) (fe_X9_toNext 93) (g_ialdN hS (show lay 3 = (20, 1000) by decide) rfl (by omega) (by decide)) ?_
      rw [show (sJ k 2 5 (lN (n32 (lts ch (i - q) q)))).1 3 i = nI (ch i) from (hCH i (by omega)).1]
      refine t_call (op := o_callS 97 100 1) (fe_X9_toNext 94) (g_callS rfl rfl rfl (Nat.le_of_ble_eq_true rfl)) ?_
      refine M_eq (c_isLetter (c := ch i) (by have := (hCH i (by omega)).2; omega)) ?_
      refine t_ite (op := o_if 100 123 (fun x => x = 0) (fun _ => inferInstance)) (fe_X9_toNext 97) g_if (fun c2 => ?_) (fun c2 => ?_)
      · replace c2 := b2i_z c2
        exact hq i hqi (by rw [rnE, if_neg c2])
      · replace c2 := b2i_nn c2
        refine t_go (op := o_aload 101 0) (fe_X9_toNext 100) (fun _ _ => rfl) ?_
        refine t_go (op := o_aload 102 0) (fe_X9_toNext 101) (fun _ _ => rfl) ?_
        refine t_go (op := o_getJ 105 8 5) (fe_X9_toNext 102) (g_getJ hS (show (lay 2).1 = 8 by decide) (by decide)) ?_
        rw [rdJ2]
        refine t_go (op := o_aload 106 0) (fe_X9_toNext 105) (fun _ _ => rfl) ?_
        refine t_go (op := o_getR 109 8 0) (fe_X9_toNext 106) (g_getR hS (show (lay 2).1 = 8 by decide) (by decide) (fr_8_0 hS) (by decide)) ?_
        refine t_go (op := o_iload 110 2) (fe_X9_toNext 109) (fun _ _ => rfl) ?_
        refine t_go (op := o_iald 111) (fe_X9_toNext 110) (g_ialdN hS (show lay 3 = (20, 1000) by decide) rfl (by omega) (by decide)) ?_
        rw [show (sJ k 2 5 (lN (n32 (lts ch (i - q) q)))).1 3 i = nI (ch i) from (hCH i (by omega)).1]
        refine t_call (op := o_callS 114 55 2) (fe_X9_toNext 111) (g_callS rfl rfl rfl (Nat.le_of_ble_eq_true rfl)) ?_
        refine M_eq (c_withLetter (a := n32 (lts ch (i - q) q)) (c := ch i) (iL_1 c2) (iL_2 c2)) ?_
        refine t_go (op := o_putJ 117 8 5) (fe_X9_toNext 114) (g_putJ hS (show (lay 2).1 = 8 by decide) (by decide)) ?_
        refine t_go (op := o_iinc 120 2 1) (fe_X9_toNext 117) (fun _ _ => rfl) ?_
        refine t_go (op := o_goto 83) (fe_X9_toNext 120) (fun _ _ => rfl) ?_
        rw [sJ_sJ, show n32 (lts ch (i - q) q) * 32 + (ch i - 96) = n32 (lts ch (i + 1 - q) q) from by rw [show i + 1 - q = (i - q) + 1 by omega, lts_snoc, n32_snoc, show q + (i - q) = i by omega]]
        rw [nI_1]
        refine ih (i + 1) () (by omega) (by omega) fun e h1 h2 => hq e h1 ?_
        rw [rnE, if_pos c2]
        exact h2
set_option maxRecDepth 8000 in
theorem lc_digs {d : Nat} {k : AHP} {ch : Nat → Nat} {len : Nat} (hS : Std k) (hCH : CHr (k.1 3) ch len) (hlen : len ≤ 1000) {q : Nat} {Q : Option Value → AHP → Prop} : ∀ (j i : Nat) (_ : Unit), i + j = len → q ≤ i → (∀ e, q ≤ e → e = rnE iD ch j i → TT (d + 1) 97 202 [some (.ref 2), some (.int (nI len)), some (.int (nI e))] [] (sI k 2 4 (nI (numN ch (e - q) q 0))) Q) → TT (d + 1) 97 158 [some (.ref 2), some (.int (nI len)), some (.int (nI i))] [] (sI k 2 4 (nI (numN ch (i - q) q 0))) Q := by
  intro j
  induction j with
  | zero =>
    intro i _ hi hqi hq
    have hN : i = len := by omega
    refine t_go (op := o_iload 159 2) (fe_X9_toNext 158) (fun _ _ => rfl) ?_
    refine t_go (op := o_iload 160 1) (fe_X9_toNext 159) (fun _ _ => rfl) ?_
    refine t_ite (op := o_icmp 163 202 (fun x y => y ≤ x) (fun _ _ => inferInstance)) (fe_X9_toNext 160) g_icmp (fun c1 => ?_) (fun c1 => ?_)
    · exact hq i hqi rfl
    · exact absurd (by rw [hN]; exact Int32.le_refl _) c1
  | succ j ih =>
    intro i _ hi hqi hq
    have hi7 : i < len := by omega
    refine t_go (op := o_iload 159 2) (fe_X9_toNext 158) (fun _ _ => rfl) ?_
    refine t_go (op := o_iload 160 1) (fe_X9_toNext 159) (fun _ _ => rfl) ?_
    refine t_ite (op := o_icmp 163 202 (fun x y => y ≤ x) (fun _ _ => inferInstance)) (fe_X9_toNext 160) g_icmp (fun c1 => ?_) (fun c1 => ?_)
    · exact absurd c1 (nI_ge hi7 (by omega))
    · refine t_go (op := o_aload 164 0) (fe_X9_toNext 163) (fun _ _ => rfl) ?_
      refine t_go (op := o_getR 167 8 0) (fe_X9_toNext 164) (g_getR hS (show (lay 2).1 = 8 by decide) (by decide) (fr_8_0 hS) (by decide)) ?_
      refine t_go (op := o_iload 168 2) (fe_X9_toNext 167) (fun _ _ => rfl) ?_
      refine t_go (op := o_iald 169) (fe_X9_toNext 168) (g_ialdN hS (show lay 3 = (20, 1000) by decide) rfl (by omega) (by decide)) ?_
      rw [show (sI k 2 4 (nI (numN ch (i - q) q 0))).1 3 i = nI (ch i) from (hCH i (by omega)).1]
      refine t_call (op := o_callS 172 101 1) (fe_X9_toNext 169) (g_callS rfl rfl rfl (Nat.le_of_ble_eq_true rfl)) ?_
      refine M_eq (c_isDigit (c := ch i) (by have := (hCH i (by omega)).2; omega)) ?_
      refine t_ite (op := o_if 175 202 (fun x => x = 0) (fun _ => inferInstance)) (fe_X9_toNext 172) g_if (fun c2 => ?_) (fun c2 => ?_)
      · replace c2 := b2i_z c2
        exact hq i hqi (by rw [rnE, if_neg c2])
      · replace c2 := b2i_nn c2
        refine t_go (op := o_aload 176 0) (fe_X9_toNext 175) (fun _ _ => rfl) ?_
        refine t_go (op := o_aload 177 0) (fe_X9_toNext 176) (fun _ _ => rfl) ?_
        refine t_go (op := o_getI 180 8 4) (fe_X9_toNext 177) (g_getI hS (show (lay 2).1 = 8 by decide) (by decide)) ?_
        rw [sI_eq]
        refine t_go (op := o_ci 182 10) (fe_X9_toNext 180) (fun _ _ => rfl) ?_
        refine t_go (op := o_i2 183 (fun x y => x * y)) (fe_X9_toNext 182) (fun _ _ => rfl) ?_
        refine t_go (op := o_aload 184 0) (fe_X9_toNext 183) (fun _ _ => rfl) ?_
        refine t_go (op := o_getR 187 8 0) (fe_X9_toNext 184) (g_getR hS (show (lay 2).1 = 8 by decide) (by decide) (fr_8_0 hS) (by decide)) ?_
        refine t_go (op := o_iload 188 2) (fe_X9_toNext 187) (fun _ _ => rfl) ?_
        refine t_go (op := o_iald 189) (fe_X9_toNext 188) (g_ialdN hS (show lay 3 = (20, 1000) by decide) rfl (by omega) (by decide)) ?_
        rw [show (sI k 2 4 (nI (numN ch (i - q) q 0))).1 3 i = nI (ch i) from (hCH i (by omega)).1]
        refine t_go (op := o_ci 191 48) (fe_X9_toNext 189) (fun _ _ => rfl) ?_
        refine t_go (op := o_i2 192 (fun x y => x - y)) (fe_X9_toNext 191) (fun _ _ => rfl) ?_
        refine t_go (op := o_i2 193 (fun x y => x + y)) (fe_X9_toNext 192) (fun _ _ => rfl) ?_
        refine t_go (op := o_putI 196 8 4) (fe_X9_toNext 193) (g_putI hS (show (lay 2).1 = 8 by decide) (by decide)) ?_
        refine t_go (op := o_iinc 199 2 1) (fe_X9_toNext 196) (fun _ _ => rfl) ?_
        refine t_go (op := o_goto 158) (fe_X9_toNext 199) (fun _ _ => rfl) ?_
        rw [show sI (sI k 2 4 (nI (numN ch (i - q) q 0))) 2 4 ((fun x y : Int32 => x + y) ((fun x y : Int32 => x * y) (nI (numN ch (i - q) q 0)) 10) ((fun x y : Int32 => x - y) (nI (ch i)) 48)) = sI k 2 4 (nI (numN ch (i + 1 - q) q 0)) from by
          rw [sI_sI]
          show sI k 2 4 (nI (numN ch (i - q) q 0) * 10 + (nI (ch i) - 48)) = _
          rw [show nI (ch i) - 48 = nI (ch i - 48) from nIs rfl rfl (iD_1 c2), show nI (numN ch (i - q) q 0) * 10 = nI (numN ch (i - q) q 0 * 10) from nIm rfl rfl, nI_add, show i + 1 - q = (i - q) + 1 by omega, numN_snoc, show q + (i - q) = i by omega, Nat.mul_comm 10]]
        rw [nI_1]
        refine ih (i + 1) () (by omega) (by omega) fun e h1 h2 => hq e h1 ?_
        rw [rnE, if_pos c2]
        exact h2
theorem max0 {p : Nat} (h : p < 2 ^ 31) : (if (0 : Int32) < nI p then nI p else 0) = nI p := by
  by_cases h0 : p = 0
  · subst h0; rfl
  · rw [if_pos (show (0 : Int32) < nI p from nI_lt (a := 0) (by omega) h)]
set_option maxRecDepth 8000 in
theorem c_next0 {d : Nat} {h : AHP} {ch : Nat → Nat} {len p q : Nat} (hS : Std h) (hCH : CHr (h.1 3) ch len) (hlen : len ≤ 1000) (hl : h.1 2 1 = nI len) (hb : h.1 2 7 = nI p) (hp : p ≤ len) (eq : rnE iB ch (len - p) p = q) (hq1 : q ≤ len) (h0 : q = len) : MM (d + 1) 97 [.ref 2] h (fun v h2 => v = none ∧ Tf h h2 ∧ TKp h2 (tokA ch len q)) := by
  refine ⟨Nat.le_of_ble_eq_true rfl, ?_⟩
  have et : tokA ch len q = (0, q, 0, [], q) := if_pos (by omega)
  refine t_go (op := o_aload 1 0) (fe_X9_toNext 0) (fun _ _ => rfl) ?_
  refine t_go (op := o_getI 4 8 1) (fe_X9_toNext 1) (g_getI hS (show (lay 2).1 = 8 by decide) (by decide)) ?_
  rw [hl]
  refine t_go (op := o_ci 7 1000) (fe_X9_toNext 4) (fun _ _ => rfl) ?_
  refine t_go (op := o_min 10) (fe_X9_toNext 7) (g_min (Nat.le_of_ble_eq_true rfl)) ?_
  rw [show (if (1000 : Int32) < nI len then (1000 : Int32) else nI len) = nI len from if_neg (nI_nlt (a := 1000) (by omega) (by omega))]
  refine t_go (op := o_istore 11 1) (fe_X9_toNext 10) (fun _ _ => rfl) ?_
  refine t_go (op := o_ci 12 0) (fe_X9_toNext 11) (fun _ _ => rfl) ?_
  refine t_go (op := o_aload 13 0) (fe_X9_toNext 12) (fun _ _ => rfl) ?_
  refine t_go (op := o_getI 16 8 7) (fe_X9_toNext 13) (g_getI hS (show (lay 2).1 = 8 by decide) (by decide)) ?_
  rw [hb]
  refine t_go (op := o_max 19) (fe_X9_toNext 16) (g_max (Nat.le_of_ble_eq_true rfl)) ?_
  rw [show (if (0 : Int32) < nI p then nI p else 0) = nI p from max0 (by omega)]
  refine t_go (op := o_istore 20 2) (fe_X9_toNext 19) (fun _ _ => rfl) ?_
  refine lc_blank hS hCH hlen (len - p) p () (by omega) ?_
  rw [eq]
  refine t_go (op := o_aload 44 0) (fe_X9_toNext 43) (fun _ _ => rfl) ?_
  refine t_go (op := o_iload 45 2) (fe_X9_toNext 44) (fun _ _ => rfl) ?_
  refine t_go (op := o_putI 48 8 3) (fe_X9_toNext 45) (g_putI hS (show (lay 2).1 = 8 by decide) (by decide)) ?_
  refine t_go (op := o_aload 49 0) (fe_X9_toNext 48) (fun _ _ => rfl) ?_
  refine t_go (op := o_ci 50 0) (fe_X9_toNext 49) (fun _ _ => rfl) ?_
  refine t_go (op := o_putI 53 8 4) (fe_X9_toNext 50) (g_putI hS (show (lay 2).1 = 8 by decide) (by decide)) ?_
  refine t_go (op := o_aload 54 0) (fe_X9_toNext 53) (fun _ _ => rfl) ?_
  refine t_go (op := o_cl 55 0) (fe_X9_toNext 54) (fun _ _ => rfl) ?_
  refine t_go (op := o_putJ 58 8 5) (fe_X9_toNext 55) (g_putJ hS (show (lay 2).1 = 8 by decide) (by decide)) ?_
  refine t_go (op := o_iload 59 2) (fe_X9_toNext 58) (fun _ _ => rfl) ?_
  refine t_go (op := o_iload 60 1) (fe_X9_toNext 59) (fun _ _ => rfl) ?_
  refine t_ite (op := o_icmp 63 71 (fun x y => x < y) (fun _ _ => inferInstance)) (fe_X9_toNext 60) g_icmp (fun c1 => ?_) (fun c1 => ?_)
  · exact absurd c1 (by rw [h0]; exact Int32.lt_irrefl)
  · refine t_go (op := o_aload 64 0) (fe_X9_toNext 63) (fun _ _ => rfl) ?_
    refine t_go (op := o_ci 65 0) (fe_X9_toNext 64) (fun _ _ => rfl) ?_
    refine t_go (op := o_putI 68 8 2) (fe_X9_toNext 65) (g_putI hS (show (lay 2).1 = 8 by decide) (by decide)) ?_
    refine t_go (op := o_goto 256) (fe_X9_toNext 68) (fun _ _ => rfl) ?_
    refine t_go (op := o_aload 257 0) (fe_X9_toNext 256) (fun _ _ => rfl) ?_
    refine t_go (op := o_iload 258 2) (fe_X9_toNext 257) (fun _ _ => rfl) ?_
    refine t_go (op := o_putI 261 8 7) (fe_X9_toNext 258) (g_putI hS (show (lay 2).1 = 8 by decide) (by decide)) ?_
    refine t_go (op := o_aload 262 0) (fe_X9_toNext 261) (fun _ _ => rfl) ?_
    refine t_go (op := o_aload 263 0) (fe_X9_toNext 262) (fun _ _ => rfl) ?_
    refine t_go (op := o_getI 266 8 2) (fe_X9_toNext 263) (g_getI hS (show (lay 2).1 = 8 by decide) (by decide)) ?_
    rw [show (sI (sI (sJ (sI (sI h 2 3 (nI q)) 2 4 0) 2 5 0) 2 2 0) 2 7 (nI q)).1 2 2 = 0 from by simp [sI, sJ, up2]]
    refine t_go (op := o_ci 267 2) (fe_X9_toNext 266) (fun _ _ => rfl) ?_
    refine t_ite (op := o_icmp 280 270 (fun x y => x = y) (fun _ _ => inferInstance)) (fe_X9_toNext 267) g_icmp (fun c2 => ?_) (fun c2 => ?_)
    · exact absurd c2 (by decide)
    · clear c2
      refine t_go (op := o_gets 283 200024) (fe_X9_toNext 280) (fun _ _ => rfl) ?_
      refine t_go (op := o_putR 286 8 6) (fe_X9_toNext 283) (g_putR hS (show (lay 2).1 = 8 by decide) (by decide) (by decide)) ?_
      skip
      refine t_ret (op := o_vret) (fe_X9_toNext 286) (fun _ _ => rfl) ?_
      rw [show tokA ch len q = _ from et]
      refine ⟨rfl, ⟨rfl, fun a i hai => ?_, fun a ha => ?_, fun a ha => ?_, ?_⟩, ?_, ?_, fun hq => ?_, fun hq => ?_, ?_, ?_⟩
      · simp only [sI, sJ, sR, up2]
        by_cases h1 : a = 2
        · subst h1
          have h2 : ¬ i = 6 := fun e => hai ⟨rfl, e⟩
          simp [h2]
        · simp [h1]
      · funext i; simp [sI, sJ, sR, up2, ha]
      · funext i; simp [sI, sJ, sR, up2, ha]
      · simp [sI, sJ, sR, up2]
      · simp [sI, sJ, sR, up2]; try rfl
      · simp [sI, sJ, sR, up2]
      · first | (rcases hq with hq | hq <;> cases hq; done) | simp [sI, sJ, sR, up2]
      · first | (cases hq; done) | simp [sI, sJ, sR, up2]
      · simp [sI, sJ, sR, up2]
      · simp [sI, sJ, sR, up2]
set_option maxRecDepth 8000 in
theorem c_next1 {d : Nat} {h : AHP} {ch : Nat → Nat} {len p q : Nat} (hS : Std h) (hCH : CHr (h.1 3) ch len) (hlen : len ≤ 1000) (hl : h.1 2 1 = nI len) (hb : h.1 2 7 = nI p) (hp : p ≤ len) (eq : rnE iB ch (len - p) p = q) (hq1 : q ≤ len) (h0 : q < len) (hL : iL (ch q) = true) {e : Nat} (ee : rnE iL ch (len - q) q = e) (h8 : e - q ≤ 8) : MM (d + 1) 97 [.ref 2] h (fun v h2 => v = none ∧ Tf h h2 ∧ TKp h2 (tokA ch len q)) := by
  refine ⟨Nat.le_of_ble_eq_true rfl, ?_⟩
  have et : tokA ch len q = (1, q, kw (lts ch (e - q) q), lts ch (e - q) q, e) := by
    unfold tokA
    rw [if_neg (by omega), if_pos hL, ee, if_pos h8]
  have he := rnE_le (P := iL) (ch := ch) (len - q) q
  rw [ee] at he
  have hqe : q < e := by
    rw [← ee, show len - q = (len - q - 1) + 1 by omega, rnE, if_pos hL]
    have := (rnE_le (P := iL) (ch := ch) (len - q - 1) (q + 1)).1
    omega
  have hw : okW (lts ch (e - q) q) := ⟨by rw [lts_len]; omega, by rw [lts_len]; exact h8, fun c hc => by
    obtain ⟨i, i1, i2, i3⟩ := lts_mem _ _ hc
    have h3 := rnE_in (P := iL) (ch := ch) (len - q) q i i1 (by rw [ee]; omega)
    have h4 := iL_1 h3
    have h5 := iL_2 h3
    omega⟩
  refine t_go (op := o_aload 1 0) (fe_X9_toNext 0) (fun _ _ => rfl) ?_
  refine t_go (op := o_getI 4 8 1) (fe_X9_toNext 1) (g_getI hS (show (lay 2).1 = 8 by decide) (by decide)) ?_
  rw [hl]
  refine t_go (op := o_ci 7 1000) (fe_X9_toNext 4) (fun _ _ => rfl) ?_
  refine t_go (op := o_min 10) (fe_X9_toNext 7) (g_min (Nat.le_of_ble_eq_true rfl)) ?_
  rw [show (if (1000 : Int32) < nI len then (1000 : Int32) else nI len) = nI len from if_neg (nI_nlt (a := 1000) (by omega) (by omega))]
  refine t_go (op := o_istore 11 1) (fe_X9_toNext 10) (fun _ _ => rfl) ?_
  refine t_go (op := o_ci 12 0) (fe_X9_toNext 11) (fun _ _ => rfl) ?_
  refine t_go (op := o_aload 13 0) (fe_X9_toNext 12) (fun _ _ => rfl) ?_
  refine t_go (op := o_getI 16 8 7) (fe_X9_toNext 13) (g_getI hS (show (lay 2).1 = 8 by decide) (by decide)) ?_
  rw [hb]
  refine t_go (op := o_max 19) (fe_X9_toNext 16) (g_max (Nat.le_of_ble_eq_true rfl)) ?_
  rw [show (if (0 : Int32) < nI p then nI p else 0) = nI p from max0 (by omega)]
  refine t_go (op := o_istore 20 2) (fe_X9_toNext 19) (fun _ _ => rfl) ?_
  refine lc_blank hS hCH hlen (len - p) p () (by omega) ?_
  rw [eq]
  refine t_go (op := o_aload 44 0) (fe_X9_toNext 43) (fun _ _ => rfl) ?_
  refine t_go (op := o_iload 45 2) (fe_X9_toNext 44) (fun _ _ => rfl) ?_
  refine t_go (op := o_putI 48 8 3) (fe_X9_toNext 45) (g_putI hS (show (lay 2).1 = 8 by decide) (by decide)) ?_
  refine t_go (op := o_aload 49 0) (fe_X9_toNext 48) (fun _ _ => rfl) ?_
  refine t_go (op := o_ci 50 0) (fe_X9_toNext 49) (fun _ _ => rfl) ?_
  refine t_go (op := o_putI 53 8 4) (fe_X9_toNext 50) (g_putI hS (show (lay 2).1 = 8 by decide) (by decide)) ?_
  refine t_go (op := o_aload 54 0) (fe_X9_toNext 53) (fun _ _ => rfl) ?_
  refine t_go (op := o_cl 55 0) (fe_X9_toNext 54) (fun _ _ => rfl) ?_
  refine t_go (op := o_putJ 58 8 5) (fe_X9_toNext 55) (g_putJ hS (show (lay 2).1 = 8 by decide) (by decide)) ?_
  refine t_go (op := o_iload 59 2) (fe_X9_toNext 58) (fun _ _ => rfl) ?_
  refine t_go (op := o_iload 60 1) (fe_X9_toNext 59) (fun _ _ => rfl) ?_
  refine t_ite (op := o_icmp 63 71 (fun x y => x < y) (fun _ _ => inferInstance)) (fe_X9_toNext 60) g_icmp (fun c1 => ?_) (fun c1 => ?_)
  · refine t_go (op := o_aload 72 0) (fe_X9_toNext 71) (fun _ _ => rfl) ?_
    refine t_go (op := o_getR 75 8 0) (fe_X9_toNext 72) (g_getR hS (show (lay 2).1 = 8 by decide) (by decide) (fr_8_0 hS) (by decide)) ?_
    refine t_go (op := o_iload 76 2) (fe_X9_toNext 75) (fun _ _ => rfl) ?_
    refine t_go (op := o_iald 77) (fe_X9_toNext 76) (g_ialdN hS (show lay 3 = (20, 1000) by decide) rfl (by omega) (by decide)) ?_
    rw [show (sJ (sI (sI h 2 3 (nI q)) 2 4 0) 2 5 0).1 3 q = nI (ch q) from (hCH q (by omega)).1]
    refine t_call (op := o_callS 80 100 1) (fe_X9_toNext 77) (g_callS rfl rfl rfl (Nat.le_of_ble_eq_true rfl)) ?_
    refine M_eq (c_isLetter (c := ch q) (by have := (hCH q (by omega)).2; omega)) ?_
    refine t_ite (op := o_if 83 146 (fun x => x = 0) (fun _ => inferInstance)) (fe_X9_toNext 80) g_if (fun c2 => ?_) (fun c2 => ?_)
    · exact absurd hL (b2i_z c2)
    · replace c2 := b2i_nn c2
      have hq2 : (sJ (sI (sI h 2 3 (nI q)) 2 4 0) 2 5 0) = sJ (sI (sI h 2 3 (nI q)) 2 4 0) 2 5 (lN (n32 (lts ch (q - q) q))) := by rw [Nat.sub_self]; rfl
      refine T_heap hq2.symm ?_
      refine lc_lets (k := sI (sI h 2 3 (nI q)) 2 4 0) hS hCH hlen (len - q) q () (by omega) (Nat.le_refl _) fun e2 he2 ee2 => ?_
      have e9 : e = e2 := (ee2.trans ee).symm
      subst e9
      refine t_go (op := o_aload 124 0) (fe_X9_toNext 123) (fun _ _ => rfl) ?_
      refine t_go (op := o_iload 125 2) (fe_X9_toNext 124) (fun _ _ => rfl) ?_
      refine t_go (op := o_aload 126 0) (fe_X9_toNext 125) (fun _ _ => rfl) ?_
      refine t_go (op := o_getI 129 8 3) (fe_X9_toNext 126) (g_getI hS (show (lay 2).1 = 8 by decide) (by decide)) ?_
      rw [show (sJ (sI (sI h 2 3 (nI q)) 2 4 0) 2 5 (lN (n32 (lts ch (e - q) q)))).1 2 3 = nI q from by simp [sI, sJ, up2]]
      refine t_go (op := o_i2 130 (fun x y => x - y)) (fe_X9_toNext 129) (fun _ _ => rfl) ?_
      refine t_go (op := o_ci 132 8) (fe_X9_toNext 130) (fun _ _ => rfl) ?_
      refine t_ite (op := o_icmp 135 139 (fun x y => x ≤ y) (fun _ _ => inferInstance)) (fe_X9_toNext 132) g_icmp (fun c3 => ?_) (fun c3 => ?_)
      · refine t_go (op := o_ci 140 2) (fe_X9_toNext 139) (fun _ _ => rfl) ?_
        refine t_go (op := o_putI 143 8 2) (fe_X9_toNext 140) (g_putI hS (show (lay 2).1 = 8 by decide) (by decide)) ?_
        refine t_go (op := o_goto 256) (fe_X9_toNext 143) (fun _ _ => rfl) ?_
        refine t_go (op := o_aload 257 0) (fe_X9_toNext 256) (fun _ _ => rfl) ?_
        refine t_go (op := o_iload 258 2) (fe_X9_toNext 257) (fun _ _ => rfl) ?_
        refine t_go (op := o_putI 261 8 7) (fe_X9_toNext 258) (g_putI hS (show (lay 2).1 = 8 by decide) (by decide)) ?_
        refine t_go (op := o_aload 262 0) (fe_X9_toNext 261) (fun _ _ => rfl) ?_
        refine t_go (op := o_aload 263 0) (fe_X9_toNext 262) (fun _ _ => rfl) ?_
        refine t_go (op := o_getI 266 8 2) (fe_X9_toNext 263) (g_getI hS (show (lay 2).1 = 8 by decide) (by decide)) ?_
        rw [show (sI (sI (sJ (sI (sI h 2 3 (nI q)) 2 4 0) 2 5 (lN (n32 (lts ch (e - q) q)))) 2 2 2) 2 7 (nI e)).1 2 2 = 2 from by simp [sI, sJ, up2]]
        refine t_go (op := o_ci 267 2) (fe_X9_toNext 266) (fun _ _ => rfl) ?_
        refine t_ite (op := o_icmp 280 270 (fun x y => x = y) (fun _ _ => inferInstance)) (fe_X9_toNext 267) g_icmp (fun c4 => ?_) (fun c4 => ?_)
        · clear c4
          refine t_go (op := o_aload 271 0) (fe_X9_toNext 270) (fun _ _ => rfl) ?_
          refine t_go (op := o_getJ 274 8 5) (fe_X9_toNext 271) (g_getJ hS (show (lay 2).1 = 8 by decide) (by decide)) ?_
          rw [show (sI (sI (sJ (sI (sI h 2 3 (nI q)) 2 4 0) 2 5 (lN (n32 (lts ch (e - q) q)))) 2 2 2) 2 7 (nI e)).2.1 2 5 = lN (n32 (lts ch (e - q) q)) from by simp [sI, sJ, up2]]
          refine t_call (op := o_callS 277 56 1) (fe_X9_toNext 274) (g_callS rfl rfl rfl (Nat.le_of_ble_eq_true rfl)) ?_
          refine M_eq (c_ofLetters hw) ?_
          refine t_go (op := o_goto 283) (fe_X9_toNext 277) (fun _ _ => rfl) ?_
          refine t_go (op := o_putR 286 8 6) (fe_X9_toNext 283) (g_putR hS (show (lay 2).1 = 8 by decide) (by decide) (by omega)) ?_
          skip
          refine t_ret (op := o_vret) (fe_X9_toNext 286) (fun _ _ => rfl) ?_
          rw [show tokA ch len q = _ from et]
          refine ⟨rfl, ⟨rfl, fun a i hai => ?_, fun a ha => ?_, fun a ha => ?_, ?_⟩, ?_, ?_, fun hq => ?_, fun hq => ?_, ?_, ?_⟩
          · simp only [sI, sJ, sR, up2]
            by_cases h1 : a = 2
            · subst h1
              have h2 : ¬ i = 6 := fun e => hai ⟨rfl, e⟩
              simp [h2]
            · simp [h1]
          · funext i; simp [sI, sJ, sR, up2, ha]
          · funext i; simp [sI, sJ, sR, up2, ha]
          · simp [sI, sJ, sR, up2]
          · simp [sI, sJ, sR, up2]; try rfl
          · simp [sI, sJ, sR, up2]
          · first | (rcases hq with hq | hq <;> cases hq; done) | simp [sI, sJ, sR, up2]
          · first | (cases hq; done) | simp [sI, sJ, sR, up2]
          · simp [sI, sJ, sR, up2]
          · simp [sI, sJ, sR, up2]
        · exact absurd (by decide) c4
      · exact absurd (by show nI e - nI q ≤ 8; rw [nIs (a := e) (b := q) rfl rfl (by omega)]; exact nI_le (b := 8) h8 (by omega)) c3
  · exact absurd (nI_lt (show q < len by omega) (by omega)) c1
set_option maxRecDepth 8000 in
theorem c_next1b {d : Nat} {h : AHP} {ch : Nat → Nat} {len p q : Nat} (hS : Std h) (hCH : CHr (h.1 3) ch len) (hlen : len ≤ 1000) (hl : h.1 2 1 = nI len) (hb : h.1 2 7 = nI p) (hp : p ≤ len) (eq : rnE iB ch (len - p) p = q) (hq1 : q ≤ len) (h0 : q < len) (hL : iL (ch q) = true) {e : Nat} (ee : rnE iL ch (len - q) q = e) (h8 : ¬ e - q ≤ 8) : MM (d + 1) 97 [.ref 2] h (fun v h2 => v = none ∧ Tf h h2 ∧ TKp h2 (tokA ch len q)) := by
  refine ⟨Nat.le_of_ble_eq_true rfl, ?_⟩
  have et : tokA ch len q = (4, q, 0, [], e) := by
    unfold tokA
    rw [if_neg (by omega), if_pos hL, ee, if_neg h8]
  have he := rnE_le (P := iL) (ch := ch) (len - q) q
  rw [ee] at he
  refine t_go (op := o_aload 1 0) (fe_X9_toNext 0) (fun _ _ => rfl) ?_
  refine t_go (op := o_getI 4 8 1) (fe_X9_toNext 1) (g_getI hS (show (lay 2).1 = 8 by decide) (by decide)) ?_
  rw [hl]
  refine t_go (op := o_ci 7 1000) (fe_X9_toNext 4) (fun _ _ => rfl) ?_
  refine t_go (op := o_min 10) (fe_X9_toNext 7) (g_min (Nat.le_of_ble_eq_true rfl)) ?_
  rw [show (if (1000 : Int32) < nI len then (1000 : Int32) else nI len) = nI len from if_neg (nI_nlt (a := 1000) (by omega) (by omega))]
  refine t_go (op := o_istore 11 1) (fe_X9_toNext 10) (fun _ _ => rfl) ?_
  refine t_go (op := o_ci 12 0) (fe_X9_toNext 11) (fun _ _ => rfl) ?_
  refine t_go (op := o_aload 13 0) (fe_X9_toNext 12) (fun _ _ => rfl) ?_
  refine t_go (op := o_getI 16 8 7) (fe_X9_toNext 13) (g_getI hS (show (lay 2).1 = 8 by decide) (by decide)) ?_
  rw [hb]
  refine t_go (op := o_max 19) (fe_X9_toNext 16) (g_max (Nat.le_of_ble_eq_true rfl)) ?_
  rw [show (if (0 : Int32) < nI p then nI p else 0) = nI p from max0 (by omega)]
  refine t_go (op := o_istore 20 2) (fe_X9_toNext 19) (fun _ _ => rfl) ?_
  refine lc_blank hS hCH hlen (len - p) p () (by omega) ?_
  rw [eq]
  refine t_go (op := o_aload 44 0) (fe_X9_toNext 43) (fun _ _ => rfl) ?_
  refine t_go (op := o_iload 45 2) (fe_X9_toNext 44) (fun _ _ => rfl) ?_
  refine t_go (op := o_putI 48 8 3) (fe_X9_toNext 45) (g_putI hS (show (lay 2).1 = 8 by decide) (by decide)) ?_
  refine t_go (op := o_aload 49 0) (fe_X9_toNext 48) (fun _ _ => rfl) ?_
  refine t_go (op := o_ci 50 0) (fe_X9_toNext 49) (fun _ _ => rfl) ?_
  refine t_go (op := o_putI 53 8 4) (fe_X9_toNext 50) (g_putI hS (show (lay 2).1 = 8 by decide) (by decide)) ?_
  refine t_go (op := o_aload 54 0) (fe_X9_toNext 53) (fun _ _ => rfl) ?_
  refine t_go (op := o_cl 55 0) (fe_X9_toNext 54) (fun _ _ => rfl) ?_
  refine t_go (op := o_putJ 58 8 5) (fe_X9_toNext 55) (g_putJ hS (show (lay 2).1 = 8 by decide) (by decide)) ?_
  refine t_go (op := o_iload 59 2) (fe_X9_toNext 58) (fun _ _ => rfl) ?_
  refine t_go (op := o_iload 60 1) (fe_X9_toNext 59) (fun _ _ => rfl) ?_
  refine t_ite (op := o_icmp 63 71 (fun x y => x < y) (fun _ _ => inferInstance)) (fe_X9_toNext 60) g_icmp (fun c1 => ?_) (fun c1 => ?_)
  · refine t_go (op := o_aload 72 0) (fe_X9_toNext 71) (fun _ _ => rfl) ?_
    refine t_go (op := o_getR 75 8 0) (fe_X9_toNext 72) (g_getR hS (show (lay 2).1 = 8 by decide) (by decide) (fr_8_0 hS) (by decide)) ?_
    refine t_go (op := o_iload 76 2) (fe_X9_toNext 75) (fun _ _ => rfl) ?_
    refine t_go (op := o_iald 77) (fe_X9_toNext 76) (g_ialdN hS (show lay 3 = (20, 1000) by decide) rfl (by omega) (by decide)) ?_
    rw [show (sJ (sI (sI h 2 3 (nI q)) 2 4 0) 2 5 0).1 3 q = nI (ch q) from (hCH q (by omega)).1]
    refine t_call (op := o_callS 80 100 1) (fe_X9_toNext 77) (g_callS rfl rfl rfl (Nat.le_of_ble_eq_true rfl)) ?_
    refine M_eq (c_isLetter (c := ch q) (by have := (hCH q (by omega)).2; omega)) ?_
    refine t_ite (op := o_if 83 146 (fun x => x = 0) (fun _ => inferInstance)) (fe_X9_toNext 80) g_if (fun c2 => ?_) (fun c2 => ?_)
    · exact absurd hL (b2i_z c2)
    · replace c2 := b2i_nn c2
      have hq2 : (sJ (sI (sI h 2 3 (nI q)) 2 4 0) 2 5 0) = sJ (sI (sI h 2 3 (nI q)) 2 4 0) 2 5 (lN (n32 (lts ch (q - q) q))) := by rw [Nat.sub_self]; rfl
      refine T_heap hq2.symm ?_
      refine lc_lets (k := sI (sI h 2 3 (nI q)) 2 4 0) hS hCH hlen (len - q) q () (by omega) (Nat.le_refl _) fun e2 he2 ee2 => ?_
      have e9 : e = e2 := (ee2.trans ee).symm
      subst e9
      refine t_go (op := o_aload 124 0) (fe_X9_toNext 123) (fun _ _ => rfl) ?_
      refine t_go (op := o_iload 125 2) (fe_X9_toNext 124) (fun _ _ => rfl) ?_
      refine t_go (op := o_aload 126 0) (fe_X9_toNext 125) (fun _ _ => rfl) ?_
      refine t_go (op := o_getI 129 8 3) (fe_X9_toNext 126) (g_getI hS (show (lay 2).1 = 8 by decide) (by decide)) ?_
      rw [show (sJ (sI (sI h 2 3 (nI q)) 2 4 0) 2 5 (lN (n32 (lts ch (e - q) q)))).1 2 3 = nI q from by simp [sI, sJ, up2]]
      refine t_go (op := o_i2 130 (fun x y => x - y)) (fe_X9_toNext 129) (fun _ _ => rfl) ?_
      refine t_go (op := o_ci 132 8) (fe_X9_toNext 130) (fun _ _ => rfl) ?_
      refine t_ite (op := o_icmp 135 139 (fun x y => x ≤ y) (fun _ _ => inferInstance)) (fe_X9_toNext 132) g_icmp (fun c3 => ?_) (fun c3 => ?_)
      · exact absurd (le_nI (a := e - q) (b := 8) (by omega) (by decide) (by rw [← nIs (a := e) (b := q) rfl rfl (by omega)]; exact c3)) h8
      · refine t_go (op := o_ci 136 1) (fe_X9_toNext 135) (fun _ _ => rfl) ?_
        refine t_go (op := o_goto 140) (fe_X9_toNext 136) (fun _ _ => rfl) ?_
        refine t_go (op := o_putI 143 8 2) (fe_X9_toNext 140) (g_putI hS (show (lay 2).1 = 8 by decide) (by decide)) ?_
        refine t_go (op := o_goto 256) (fe_X9_toNext 143) (fun _ _ => rfl) ?_
        refine t_go (op := o_aload 257 0) (fe_X9_toNext 256) (fun _ _ => rfl) ?_
        refine t_go (op := o_iload 258 2) (fe_X9_toNext 257) (fun _ _ => rfl) ?_
        refine t_go (op := o_putI 261 8 7) (fe_X9_toNext 258) (g_putI hS (show (lay 2).1 = 8 by decide) (by decide)) ?_
        refine t_go (op := o_aload 262 0) (fe_X9_toNext 261) (fun _ _ => rfl) ?_
        refine t_go (op := o_aload 263 0) (fe_X9_toNext 262) (fun _ _ => rfl) ?_
        refine t_go (op := o_getI 266 8 2) (fe_X9_toNext 263) (g_getI hS (show (lay 2).1 = 8 by decide) (by decide)) ?_
        rw [show (sI (sI (sJ (sI (sI h 2 3 (nI q)) 2 4 0) 2 5 (lN (n32 (lts ch (e - q) q)))) 2 2 1) 2 7 (nI e)).1 2 2 = 1 from by simp [sI, sJ, up2]]
        refine t_go (op := o_ci 267 2) (fe_X9_toNext 266) (fun _ _ => rfl) ?_
        refine t_ite (op := o_icmp 280 270 (fun x y => x = y) (fun _ _ => inferInstance)) (fe_X9_toNext 267) g_icmp (fun c4 => ?_) (fun c4 => ?_)
        · exact absurd c4 (by decide)
        · clear c4
          refine t_go (op := o_gets 283 200024) (fe_X9_toNext 280) (fun _ _ => rfl) ?_
          refine t_go (op := o_putR 286 8 6) (fe_X9_toNext 283) (g_putR hS (show (lay 2).1 = 8 by decide) (by decide) (by decide)) ?_
          skip
          refine t_ret (op := o_vret) (fe_X9_toNext 286) (fun _ _ => rfl) ?_
          rw [show tokA ch len q = _ from et]
          refine ⟨rfl, ⟨rfl, fun a i hai => ?_, fun a ha => ?_, fun a ha => ?_, ?_⟩, ?_, ?_, fun hq => ?_, fun hq => ?_, ?_, ?_⟩
          · simp only [sI, sJ, sR, up2]
            by_cases h1 : a = 2
            · subst h1
              have h2 : ¬ i = 6 := fun e => hai ⟨rfl, e⟩
              simp [h2]
            · simp [h1]
          · funext i; simp [sI, sJ, sR, up2, ha]
          · funext i; simp [sI, sJ, sR, up2, ha]
          · simp [sI, sJ, sR, up2]
          · simp [sI, sJ, sR, up2]; try rfl
          · simp [sI, sJ, sR, up2]
          · first | (rcases hq with hq | hq <;> cases hq; done) | simp [sI, sJ, sR, up2]
          · first | (cases hq; done) | simp [sI, sJ, sR, up2]
          · simp [sI, sJ, sR, up2]
          · simp [sI, sJ, sR, up2]
  · exact absurd (nI_lt (show q < len by omega) (by omega)) c1
