/-! ===== the reference: words ===== -/
theorem nIa {x y : Int32} {a b : Nat} (h1 : x = nI a) (h2 : y = nI b) : x + y = nI (a + b) := by rw [h1, h2, nI_add]
theorem nIl (n : Nat) : (OfNat.ofNat n : Int32) = nI n := rfl
theorem nIm {x y : Int32} {a b : Nat} (h1 : x = nI a) (h2 : y = nI b) : x * y = nI (a * b) := by rw [h1, h2]; exact (Int32.ofNat_mul a b).symm
theorem nIs {x y : Int32} {a b : Nat} (h1 : x = nI a) (h2 : y = nI b) (h : b ≤ a) : x - y = nI (a - b) := by
  rw [h1, h2]
  have e : nI a = nI (a - b) + nI b := by rw [nI_add]; congr 1; omega
  rw [e, Int32.add_sub_cancel]
theorem nId {x : Int32} {a : Nat} (h1 : x = nI a) (h : 1 ≤ a) : x + (-1) = nI (a - 1) := by
  rw [← Int32.sub_eq_add_neg]
  exact nIs h1 rfl h
theorem M_eq {d k : Nat} {as : List Value} {h h' : AHP} {x : Option Value} {P : Option Value → AHP → Prop} (hm : MM d k as h (fun v h2 => v = x ∧ h2 = h')) (kk : P x h') : MM d k as h P := M_mono (fun v h2 q => by rw [q.1, q.2]; exact kk) hm
theorem b2i_z {p : Prop} (h : b2i p = 0) : ¬ p := b2i_ne.mp h
theorem b2i_nn {p : Prop} (h : ¬ b2i p = 0) : p := Classical.not_not.mp fun q => h (b2i_f q)
theorem b2i_eq {p : Prop} {x : Int32} (h1 : p → x = 1) (h2 : ¬ p → x = 0) : x = b2i p := by
  by_cases hp : p
  · rw [b2i_t hp, h1 hp]
  · rw [b2i_f hp, h2 hp]
section STN
variable {h : AHP} {a n m t : Nat} {ls : ALS} {st : List Value} {i x : Int32} {y : Int64}
theorem inb_N (e : i = nI t) (ht : t < m) (hm : m < 2 ^ 31) : inb i m := by rw [e]; exact inb_n ht hm
theorem cl_N (e : i = nI t) (ht : t < m) (hm : m < 2 ^ 31) : i.toNatClampNeg = t := by rw [e]; exact nI_clamp (by omega)
theorem g_ialdN (hS : Std h) (hl : lay a = (20, m)) (e : i = nI t) (ht : t < m) (hm : m < 2 ^ 31) : ∀ C G, o_iald n C G ls (.int i :: .ref a :: st) h = G n ls (.int (h.1 a t) :: st) h := fun C G => by rw [g_iald hS hl (inb_N e ht hm), cl_N e ht hm]
theorem g_zaldN (hS : Std h) (hl : lay a = (22, m)) (e : i = nI t) (ht : t < m) (hm : m < 2 ^ 31) : ∀ C G, o_zald n C G ls (.int i :: .ref a :: st) h = G n ls (.int (h.1 a t) :: st) h := fun C G => by rw [g_zald hS hl (inb_N e ht hm), cl_N e ht hm]
theorem g_laldN (hS : Std h) (hl : lay a = (21, m)) (e : i = nI t) (ht : t < m) (hm : m < 2 ^ 31) : ∀ C G, o_lald n C G ls (.int i :: .ref a :: st) h = G n ls (.long (h.2.1 a t) :: st) h := fun C G => by rw [g_lald hS hl (inb_N e ht hm), cl_N e ht hm]
theorem g_iastN (hS : Std h) (hl : lay a = (20, m)) (e : i = nI t) (ht : t < m) (hm : m < 2 ^ 31) : ∀ C G, o_iast n C G ls (.int x :: .int i :: .ref a :: st) h = G n ls st (sI h a t x) := fun C G => by rw [g_iast hS hl (inb_N e ht hm), cl_N e ht hm]
theorem g_zastN (hS : Std h) (hl : lay a = (22, m)) (e : i = nI t) (ht : t < m) (hm : m < 2 ^ 31) (hx : x = 0 ∨ x = 1) : ∀ C G, o_zast n C G ls (.int x :: .int i :: .ref a :: st) h = G n ls st (sI h a t x) := fun C G => by rw [g_zast hS hl (inb_N e ht hm) hx, cl_N e ht hm]
theorem g_lastN (hS : Std h) (hl : lay a = (21, m)) (e : i = nI t) (ht : t < m) (hm : m < 2 ^ 31) : ∀ C G, o_last n C G ls (.long y :: .int i :: .ref a :: st) h = G n ls st (sJ h a t y) := fun C G => by rw [g_last hS hl (inb_N e ht hm), cl_N e ht hm]
end STN
theorem it_app {α : Type} {f : Nat → α → α} : ∀ (a b i : Nat) (s : α), it f (a + b) i s = it f b (i + a) (it f a i s) := by
  intro a
  induction a with
  | zero => intro b i s; rw [Nat.zero_add]; rfl
  | succ a ih =>
    intro b i s
    rw [show a + 1 + b = a + b + 1 by omega, it_step, it_step, ih b (i + 1), show i + 1 + a = i + (a + 1) by omega]
theorem it_id {α : Type} {f : Nat → α → α} : ∀ (j i : Nat) (s : α), (∀ t s, i ≤ t → t < i + j → f t s = s) → it f j i s = s := by
  intro j
  induction j with
  | zero => intro i s _; rfl
  | succ j ih =>
    intro i s h
    rw [it_step, h i s (by omega) (by omega)]
    exact ih (i + 1) s fun t s h1 h2 => h t s (by omega) (by omega)
theorem it_more {α : Type} {f : Nat → α → α} {m : Nat} {s : α} (hm : m ≤ 7) (h : ∀ t s, m ≤ t → t < 7 → f t s = s) : it f 7 0 s = it f m 0 s := by
  rw [show 7 = m + (7 - m) by omega, it_app, it_id _ _ _ fun t s h1 h2 => h t s (by omega) (by omega)]
theorem it_ext {α : Type} {f g : Nat → α → α} : ∀ (j i : Nat) (s : α), (∀ t s, i ≤ t → t < i + j → f t s = g t s) → it f j i s = it g j i s := by
  intro j
  induction j with
  | zero => intro i s _; rfl
  | succ j ih =>
    intro i s h
    rw [it_step, it_step, h i s (by omega) (by omega)]
    exact ih (i + 1) _ fun t s h1 h2 => h t s (by omega) (by omega)
/-! ===== fires that can be ===== -/
def FV (m : Nat) (F : FS) : Prop :=
  (∀ e, e < 7 → (F.1 e = -1 ∧ F.2.1 e = 0 ∧ F.2.2.1 e = 0) ∨ (e < m ∧ ∃ c x y : Nat, c < 12 ∧ x ≤ 20 ∧ 1 ≤ y ∧ y ≤ 20 ∧ F.1 e = nI c ∧ F.2.1 e = nI x ∧ F.2.2.1 e = nI y))
  ∧ (∀ c, c < 12 → (F.2.2.2.1 c = -1 ∧ ∀ e, e < 7 → ¬ F.1 e = nI c) ∨ ∃ e, e < 7 ∧ F.2.2.2.1 c = nI e ∧ F.1 e = nI c)
  ∧ (∀ a b, a < 7 → b < 7 → F.1 a = F.1 b → F.1 a = -1 ∨ a = b)
  ∧ (F.2.2.2.2.2 = 0 ∨ F.2.2.2.2.2 = 1)
def HT (T : Nat) (F : FS) : Prop := ∃ t, t ≤ T ∧ F.2.2.2.2.1 = nI t
/-- a fire as a stretch of the reference's row -/
def RB (s : Nat → Int32) (b : Nat) (F : FS) : Prop := (∀ e, e < 7 → s (b + 2 + e) = F.1 e ∧ s (b + 9 + e) = F.2.1 e ∧ s (b + 16 + e) = F.2.2.1 e) ∧ s b = F.2.2.2.2.1 ∧ s (b + 1) = F.2.2.2.2.2
theorem nI_m1 {c : Nat} (h : c < 2 ^ 31) : ¬ nI c = -1 := fun e => by
  have h1 := nI_pos (n := c) h
  rw [e] at h1
  exact h1 (by decide)
theorem FV_has {m : Nat} {F : FS} {e : Nat} (hV : FV m F) (he : e < 7) : hasF F (nI e) ↔ ¬ F.1 e < 0 := by
  unfold hasF
  rw [nI_clamp (by omega)]
  rcases hV.1 e he with ⟨h1, _⟩ | ⟨_, c, x, y, hc, _, _, _, h1, _⟩
  · rw [h1]
    constructor
    · rintro ⟨_, _, q, _⟩; exact absurd (by decide) q
    · intro q; exact absurd (by decide) q
  · rw [h1]
    exact ⟨fun q => q.2.2.1, fun q => ⟨nI_pos (by omega), nI_ge (b := 7) he (by decide), q, nI_ge (b := 12) hc (by decide)⟩⟩
theorem FV_no {m : Nat} {F : FS} {e : Nat} (hV : FV m F) (he : e < 7) (hm : m ≤ e) : ¬ hasF F (nI e) := by
  rw [FV_has hV he]
  rcases hV.1 e he with ⟨h1, _⟩ | ⟨h1, _⟩
  · rw [h1]; intro q; exact q (by decide)
  · omega
theorem FV_in {m : Nat} {F : FS} {e : Nat} (hV : FV m F) (he : e < 7) (hh : hasF F (nI e)) : e < m ∧ ∃ c x y : Nat, c < 12 ∧ x ≤ 20 ∧ 1 ≤ y ∧ y ≤ 20 ∧ F.1 e = nI c ∧ F.2.1 e = nI x ∧ F.2.2.1 e = nI y := by
  rcases hV.1 e he with ⟨h1, _⟩ | h1
  · rw [FV_has hV he, h1] at hh; exact absurd (by decide) hh
  · exact h1
theorem FV_out {m : Nat} {F : FS} {e : Nat} (hV : FV m F) (he : e < 7) (hh : ¬ hasF F (nI e)) : F.1 e = -1 ∧ F.2.1 e = 0 ∧ F.2.2.1 e = 0 := by
  rcases hV.1 e he with h1 | ⟨_, c, x, y, hc, _, _, _, h1, _⟩
  · exact h1
  · rw [FV_has hV he, h1] at hh; exact absurd (nI_pos (by omega)) hh
def glP (F : FS) (K : Nat → Int32) (C : Int32) (e : Nat) : Prop := hasF F (nI e) ∧ ¬ F.2.1 (nI e).toNatClampNeg < C ∧ ¬ K (nI e).toNatClampNeg = 3

theorem r_embers {d : Nat} {k : AHP} (hS : Std k) {m : Nat} (hE : k.1 189 0 = nI m) : MM d 200 [.ref 183] k (fun v h2 => v = some (.int (nI m)) ∧ h2 = k) := by
  refine ⟨Nat.le_of_ble_eq_true rfl, ?_⟩
  refine t_go (op := o_aload 1 0) (fe_X12_embers 0) (fun _ _ => rfl) ?_
  refine t_go (op := o_getR 4 11 10) (fe_X12_embers 1) (g_getR hS (show (lay 183).1 = 11 by decide) (by decide) (fr_11_10 hS) (by decide)) ?_
  refine t_go (op := o_ci 5 0) (fe_X12_embers 4) (fun _ _ => rfl) ?_
  refine t_go (op := o_iald 6) (fe_X12_embers 5) (g_ialdN hS (show lay 189 = (20, 100) by decide) (nIl 0) (by omega) (by decide)) ?_
  refine t_ret (op := o_iret) (fe_X12_embers 6) (fun _ _ => rfl) ?_
  exact ⟨congrArg (fun x => some (Value.int x)) hE, rfl⟩
theorem r_emberOf {d : Nat} {k : AHP} (hS : Std k) {e w : Nat} (hb : 4 + 4 * e + w < 100) : MM d 201 [.ref 183, .int (nI e), .int (nI w)] k (fun v h2 => v = some (.int (k.1 189 (4 + 4 * e + w))) ∧ h2 = k) := by
  refine ⟨Nat.le_of_ble_eq_true rfl, ?_⟩
  refine t_go (op := o_aload 1 0) (fe_X12_emberOf 0) (fun _ _ => rfl) ?_
  refine t_go (op := o_getR 4 11 10) (fe_X12_emberOf 1) (g_getR hS (show (lay 183).1 = 11 by decide) (by decide) (fr_11_10 hS) (by decide)) ?_
  refine t_go (op := o_ci 5 4) (fe_X12_emberOf 4) (fun _ _ => rfl) ?_
  refine t_go (op := o_ci 6 4) (fe_X12_emberOf 5) (fun _ _ => rfl) ?_
  refine t_go (op := o_iload 7 1) (fe_X12_emberOf 6) (fun _ _ => rfl) ?_
  refine t_go (op := o_i2 8 (fun x y => x * y)) (fe_X12_emberOf 7) (fun _ _ => rfl) ?_
  refine t_go (op := o_i2 9 (fun x y => x + y)) (fe_X12_emberOf 8) (fun _ _ => rfl) ?_
  refine t_go (op := o_iload 10 2) (fe_X12_emberOf 9) (fun _ _ => rfl) ?_
  refine t_go (op := o_i2 11 (fun x y => x + y)) (fe_X12_emberOf 10) (fun _ _ => rfl) ?_
  refine t_go (op := o_iald 12) (fe_X12_emberOf 11) (g_ialdN hS (show lay 189 = (20, 100) by decide) (nIa (nIa (nIl 4) (nIm (nIl 4) rfl)) rfl) (by omega) (by decide)) ?_
  refine t_ret (op := o_iret) (fe_X12_emberOf 12) (fun _ _ => rfl) ?_
  exact ⟨rfl, rfl⟩
theorem r_isEmber {d : Nat} {k : AHP} (hS : Std k) {m : Nat} (hE : k.1 189 0 = nI m) {x : Int32} : MM (d + 1) 202 [.ref 183, .int x] k (fun v h2 => v = some (.int (b2i (¬ x < 0 ∧ x < nI m))) ∧ h2 = k) := by
  refine ⟨Nat.le_of_ble_eq_true rfl, ?_⟩
  refine t_go (op := o_iload 1 1) (fe_X12_isEmber 0) (fun _ _ => rfl) ?_
  refine t_ite (op := o_if 4 16 (fun x => x < 0) (fun _ => inferInstance)) (fe_X12_isEmber 1) g_if (fun c1 => ?_) (fun c1 => ?_)
  · refine t_go (op := o_ci 17 0) (fe_X12_isEmber 16) (fun _ _ => rfl) ?_
    refine t_ret (op := o_zret) (fe_X12_isEmber 17) (g_zret (Or.inl rfl)) ?_
    exact ⟨by rw [b2i_f fun q => q.1 c1], rfl⟩
  · refine t_go (op := o_iload 5 1) (fe_X12_isEmber 4) (fun _ _ => rfl) ?_
    refine t_go (op := o_aload 6 0) (fe_X12_isEmber 5) (fun _ _ => rfl) ?_
    refine t_call (op := o_callV 9 200 1 11) (fe_X12_isEmber 6) (g_callV hS (show (lay 183).1 = 11 by decide) (by decide) rfl rfl rfl (Nat.le_of_ble_eq_true rfl)) ?_
    refine M_eq (r_embers hS hE) ?_
    refine t_ite (op := o_icmp 12 16 (fun x y => y ≤ x) (fun _ _ => inferInstance)) (fe_X12_isEmber 9) g_icmp (fun c2 => ?_) (fun c2 => ?_)
    · refine t_go (op := o_ci 17 0) (fe_X12_isEmber 16) (fun _ _ => rfl) ?_
      refine t_ret (op := o_zret) (fe_X12_isEmber 17) (g_zret (Or.inl rfl)) ?_
      exact ⟨by rw [b2i_f fun q => absurd q.2 (Int32.not_lt.mpr c2)], rfl⟩
    · refine t_go (op := o_ci 13 1) (fe_X12_isEmber 12) (fun _ _ => rfl) ?_
      refine t_go (op := o_goto 17) (fe_X12_isEmber 13) (fun _ _ => rfl) ?_
      refine t_ret (op := o_zret) (fe_X12_isEmber 17) (g_zret (Or.inr rfl)) ?_
      exact ⟨by rw [b2i_t ⟨c1, Int32.not_le.mp c2⟩], rfl⟩
theorem r_isThere {d : Nat} {k : AHP} (hS : Std k) {m b e : Nat} {F : FS} (hV : FV m F) (hB : RB (k.1 197) b F) (hb : b + 23 ≤ 966) (he : e < 7) : MM d 203 [.ref 183, .int (nI b), .int (nI e)] k (fun v h2 => v = some (.int (b2i (hasF F (nI e)))) ∧ h2 = k) := by
  refine ⟨Nat.le_of_ble_eq_true rfl, ?_⟩
  refine t_go (op := o_aload 1 0) (fe_X12_isThere 0) (fun _ _ => rfl) ?_
  refine t_go (op := o_getR 4 11 22) (fe_X12_isThere 1) (g_getR hS (show (lay 183).1 = 11 by decide) (by decide) (fr_11_22 hS) (by decide)) ?_
  refine t_go (op := o_iload 5 1) (fe_X12_isThere 4) (fun _ _ => rfl) ?_
  refine t_go (op := o_ci 6 2) (fe_X12_isThere 5) (fun _ _ => rfl) ?_
  refine t_go (op := o_i2 7 (fun x y => x + y)) (fe_X12_isThere 6) (fun _ _ => rfl) ?_
  refine t_go (op := o_iload 8 2) (fe_X12_isThere 7) (fun _ _ => rfl) ?_
  refine t_go (op := o_i2 9 (fun x y => x + y)) (fe_X12_isThere 8) (fun _ _ => rfl) ?_
  refine t_go (op := o_iald 10) (fe_X12_isThere 9) (g_ialdN hS (show lay 197 = (20, 966) by decide) (nIa (nIa rfl (nIl 2)) rfl) (by omega) (by decide)) ?_
  rw [(hB.1 e he).1]
  refine t_ite (op := o_if 13 17 (fun x => x < 0) (fun _ => inferInstance)) (fe_X12_isThere 10) g_if (fun c1 => ?_) (fun c1 => ?_)
  · refine t_go (op := o_ci 18 0) (fe_X12_isThere 17) (fun _ _ => rfl) ?_
    refine t_ret (op := o_zret) (fe_X12_isThere 18) (g_zret (Or.inl rfl)) ?_
    exact ⟨by rw [b2i_f fun q => (FV_has hV he).mp q c1], rfl⟩
  · refine t_go (op := o_ci 14 1) (fe_X12_isThere 13) (fun _ _ => rfl) ?_
    refine t_go (op := o_goto 18) (fe_X12_isThere 14) (fun _ _ => rfl) ?_
    refine t_ret (op := o_zret) (fe_X12_isThere 18) (g_zret (Or.inr rfl)) ?_
    exact ⟨by rw [b2i_t ((FV_has hV he).mpr c1)], rfl⟩
theorem r_isAlight {d : Nat} {k : AHP} (hS : Std k) {m b e : Nat} {F : FS} {K : Nat → Int32} {C : Int32} (hV : FV m F) (hB : RB (k.1 197) b F) (hb : b + 23 ≤ 966) (he : e < m) (hm : m ≤ 7) (hK : k.1 189 (4 + 4 * e) = K e) (hC : k.1 189 2 = C) : MM (d + 1) 204 [.ref 183, .int (nI b), .int (nI e)] k (fun v h2 => v = some (.int (b2i (glP F K C e))) ∧ h2 = k) := by
  refine ⟨Nat.le_of_ble_eq_true rfl, ?_⟩
  have hcl := nI_clamp (n := e) (by omega)
  refine t_go (op := o_aload 1 0) (fe_X12_isAlight 0) (fun _ _ => rfl) ?_
  refine t_go (op := o_iload 2 1) (fe_X12_isAlight 1) (fun _ _ => rfl) ?_
  refine t_go (op := o_iload 3 2) (fe_X12_isAlight 2) (fun _ _ => rfl) ?_
  refine t_call (op := o_callV 6 203 3 11) (fe_X12_isAlight 3) (g_callV hS (show (lay 183).1 = 11 by decide) (by decide) rfl rfl rfl (Nat.le_of_ble_eq_true rfl)) ?_
  refine M_eq (r_isThere hS hV hB hb (e := e) (by omega)) ?_
  refine t_ite (op := o_if 9 43 (fun x => x = 0) (fun _ => inferInstance)) (fe_X12_isAlight 6) g_if (fun c1 => ?_) (fun c1 => ?_)
  · replace c1 := b2i_z c1
    refine t_go (op := o_ci 44 0) (fe_X12_isAlight 43) (fun _ _ => rfl) ?_
    refine t_ret (op := o_zret) (fe_X12_isAlight 44) (g_zret (Or.inl rfl)) ?_
    exact ⟨by rw [b2i_f fun q => c1 q.1], rfl⟩
  · replace c1 := b2i_nn c1
    refine t_go (op := o_aload 10 0) (fe_X12_isAlight 9) (fun _ _ => rfl) ?_
    refine t_go (op := o_iload 11 2) (fe_X12_isAlight 10) (fun _ _ => rfl) ?_
    refine t_go (op := o_ci 12 0) (fe_X12_isAlight 11) (fun _ _ => rfl) ?_
    refine t_call (op := o_callV 15 201 3 11) (fe_X12_isAlight 12) (g_callV hS (show (lay 183).1 = 11 by decide) (by decide) rfl rfl rfl (Nat.le_of_ble_eq_true rfl)) ?_
    refine M_eq (r_emberOf hS (e := e) (w := 0) (by omega)) ?_
    refine t_go (op := o_ci 16 3) (fe_X12_isAlight 15) (fun _ _ => rfl) ?_
    rw [show 4 + 4 * e + 0 = 4 + 4 * e from rfl, hK]
    refine t_ite (op := o_icmp 19 43 (fun x y => x = y) (fun _ _ => inferInstance)) (fe_X12_isAlight 16) g_icmp (fun c2 => ?_) (fun c2 => ?_)
    · refine t_go (op := o_ci 44 0) (fe_X12_isAlight 43) (fun _ _ => rfl) ?_
      refine t_ret (op := o_zret) (fe_X12_isAlight 44) (g_zret (Or.inl rfl)) ?_
      exact ⟨by rw [b2i_f fun q => q.2.2 (by rw [hcl]; exact c2)], rfl⟩
    · refine t_go (op := o_aload 20 0) (fe_X12_isAlight 19) (fun _ _ => rfl) ?_
      refine t_go (op := o_getR 23 11 22) (fe_X12_isAlight 20) (g_getR hS (show (lay 183).1 = 11 by decide) (by decide) (fr_11_22 hS) (by decide)) ?_
      refine t_go (op := o_iload 24 1) (fe_X12_isAlight 23) (fun _ _ => rfl) ?_
      refine t_go (op := o_ci 26 9) (fe_X12_isAlight 24) (fun _ _ => rfl) ?_
      refine t_go (op := o_i2 27 (fun x y => x + y)) (fe_X12_isAlight 26) (fun _ _ => rfl) ?_
      refine t_go (op := o_iload 28 2) (fe_X12_isAlight 27) (fun _ _ => rfl) ?_
      refine t_go (op := o_i2 29 (fun x y => x + y)) (fe_X12_isAlight 28) (fun _ _ => rfl) ?_
      refine t_go (op := o_iald 30) (fe_X12_isAlight 29) (g_ialdN hS (show lay 197 = (20, 966) by decide) (nIa (nIa rfl (nIl 9)) rfl) (by omega) (by decide)) ?_
      rw [(hB.1 e (by omega)).2.1]
      refine t_go (op := o_aload 31 0) (fe_X12_isAlight 30) (fun _ _ => rfl) ?_
      refine t_go (op := o_getR 34 11 10) (fe_X12_isAlight 31) (g_getR hS (show (lay 183).1 = 11 by decide) (by decide) (fr_11_10 hS) (by decide)) ?_
      refine t_go (op := o_ci 35 2) (fe_X12_isAlight 34) (fun _ _ => rfl) ?_
      refine t_go (op := o_iald 36) (fe_X12_isAlight 35) (g_ialdN hS (show lay 189 = (20, 100) by decide) (nIl 2) (by omega) (by decide)) ?_
      rw [hC]
      refine t_ite (op := o_icmp 39 43 (fun x y => x < y) (fun _ _ => inferInstance)) (fe_X12_isAlight 36) g_icmp (fun c3 => ?_) (fun c3 => ?_)
      · refine t_go (op := o_ci 44 0) (fe_X12_isAlight 43) (fun _ _ => rfl) ?_
        refine t_ret (op := o_zret) (fe_X12_isAlight 44) (g_zret (Or.inl rfl)) ?_
        exact ⟨by rw [b2i_f fun q => q.2.1 (by rw [hcl]; exact c3)], rfl⟩
      · refine t_go (op := o_ci 40 1) (fe_X12_isAlight 39) (fun _ _ => rfl) ?_
        refine t_go (op := o_goto 44) (fe_X12_isAlight 40) (fun _ _ => rfl) ?_
        refine t_ret (op := o_zret) (fe_X12_isAlight 44) (g_zret (Or.inr rfl)) ?_
        exact ⟨by rw [b2i_t ⟨c1, by rw [hcl]; exact c3, by rw [hcl]; exact c2⟩], rfl⟩
theorem l_alightNow {d : Nat} {k : AHP} (hS : Std k) {m b : Nat} {F : FS} {K : Nat → Int32} {C : Int32} (hV : FV m F) (hB : RB (k.1 197) b F) (hb : b + 23 ≤ 966) (hm : m ≤ 7) (hE : k.1 189 0 = nI m) (hK : ∀ e, e < m → k.1 189 (4 + 4 * e) = K e) (hC : k.1 189 2 = C) {Q : Option Value → AHP → Prop} : ∀ (j i : Nat) (S : Int32), i + j = m → Q (some (.int (it (litS F K C) j i S))) k → TT (d + 2) 205 4 [some (.ref 183), some (.int (nI b)), some (.int S), some (.int (nI i))] [] k Q := by
  intro j
  induction j with
  | zero =>
    intro i S hi  hq
    have hN : i = m := by omega
    refine t_go (op := o_iload 5 3) (fe_X12_alightNow 4) (fun _ _ => rfl) ?_
    refine t_go (op := o_aload 6 0) (fe_X12_alightNow 5) (fun _ _ => rfl) ?_
    refine t_call (op := o_callV 9 200 1 11) (fe_X12_alightNow 6) (g_callV hS (show (lay 183).1 = 11 by decide) (by decide) rfl rfl rfl (Nat.le_of_ble_eq_true rfl)) ?_
    refine M_eq (r_embers hS hE) ?_
    refine t_ite (op := o_icmp 12 37 (fun x y => y ≤ x) (fun _ _ => inferInstance)) (fe_X12_alightNow 9) g_icmp (fun c1 => ?_) (fun c1 => ?_)
    · refine t_go (op := o_iload 38 2) (fe_X12_alightNow 37) (fun _ _ => rfl) ?_
      refine t_ret (op := o_iret) (fe_X12_alightNow 38) (fun _ _ => rfl) ?_
      exact hq
    · exact absurd (by rw [hN]; exact Int32.le_refl _) c1
  | succ j ih =>
    intro i S hi  hq
    have hi7 : i < m := by omega
    refine t_go (op := o_iload 5 3) (fe_X12_alightNow 4) (fun _ _ => rfl) ?_
    refine t_go (op := o_aload 6 0) (fe_X12_alightNow 5) (fun _ _ => rfl) ?_
    refine t_call (op := o_callV 9 200 1 11) (fe_X12_alightNow 6) (g_callV hS (show (lay 183).1 = 11 by decide) (by decide) rfl rfl rfl (Nat.le_of_ble_eq_true rfl)) ?_
    refine M_eq (r_embers hS hE) ?_
    refine t_ite (op := o_icmp 12 37 (fun x y => y ≤ x) (fun _ _ => inferInstance)) (fe_X12_alightNow 9) g_icmp (fun c1 => ?_) (fun c1 => ?_)
    · exact absurd c1 (nI_ge hi7 (by omega))
    · refine t_go (op := o_iload 13 2) (fe_X12_alightNow 12) (fun _ _ => rfl) ?_
      refine t_go (op := o_aload 14 0) (fe_X12_alightNow 13) (fun _ _ => rfl) ?_
      refine t_go (op := o_iload 15 1) (fe_X12_alightNow 14) (fun _ _ => rfl) ?_
      refine t_go (op := o_iload 16 3) (fe_X12_alightNow 15) (fun _ _ => rfl) ?_
      refine t_call (op := o_callV 19 204 3 11) (fe_X12_alightNow 16) (g_callV hS (show (lay 183).1 = 11 by decide) (by decide) rfl rfl rfl (Nat.le_of_ble_eq_true rfl)) ?_
      refine M_eq (r_isAlight hS hV hB hb (e := i) (by omega) hm (hK _ (by omega)) hC) ?_
      refine t_ite (op := o_if 22 28 (fun x => x = 0) (fun _ => inferInstance)) (fe_X12_alightNow 19) g_if (fun c2 => ?_) (fun c2 => ?_)
      · replace c2 := b2i_z c2
        refine t_go (op := o_ci 29 0) (fe_X12_alightNow 28) (fun _ _ => rfl) ?_
        refine t_go (op := o_i2 30 (fun x y => x ||| y)) (fe_X12_alightNow 29) (fun _ _ => rfl) ?_
        refine t_go (op := o_istore 31 2) (fe_X12_alightNow 30) (fun _ _ => rfl) ?_
        refine t_go (op := o_iinc 34 3 1) (fe_X12_alightNow 31) (fun _ _ => rfl) ?_
        refine t_go (op := o_goto 4) (fe_X12_alightNow 34) (fun _ _ => rfl) ?_
        have eS := (show litS F K C i S = _ from (if_neg c2))
        rw [it_step, eS] at hq
        rw [← Int32.or_zero (a := S)] at hq
        rw [nI_1]
        exact ih (i + 1) _ (by omega) hq
      · replace c2 := b2i_nn c2
        refine t_go (op := o_ci 23 1) (fe_X12_alightNow 22) (fun _ _ => rfl) ?_
        refine t_go (op := o_iload 24 3) (fe_X12_alightNow 23) (fun _ _ => rfl) ?_
        refine t_go (op := o_i2 25 (fun x y => x <<< (y &&& 31))) (fe_X12_alightNow 24) (fun _ _ => rfl) ?_
        refine t_go (op := o_goto 29) (fe_X12_alightNow 25) (fun _ _ => rfl) ?_
        refine t_go (op := o_i2 30 (fun x y => x ||| y)) (fe_X12_alightNow 29) (fun _ _ => rfl) ?_
        refine t_go (op := o_istore 31 2) (fe_X12_alightNow 30) (fun _ _ => rfl) ?_
        refine t_go (op := o_iinc 34 3 1) (fe_X12_alightNow 31) (fun _ _ => rfl) ?_
        refine t_go (op := o_goto 4) (fe_X12_alightNow 34) (fun _ _ => rfl) ?_
        have eS := (show litS F K C i S = _ from (if_pos c2))
        rw [it_step, eS] at hq
        rw [nI_1]
        exact ih (i + 1) _ (by omega) hq
theorem glP_no {m e : Nat} {F : FS} {K : Nat → Int32} {C : Int32} (hV : FV m F) (he : e < 7) (hm : m ≤ e) : ¬ glP F K C e := fun q => FV_no hV he hm q.1
theorem litB_m {m : Nat} {F : FS} {K : Nat → Int32} {C : Int32} (hV : FV m F) (hm : m ≤ 7) : litB F K C = it (litS F K C) m 0 0 := it_more hm fun t s h1 h2 => if_neg (glP_no hV h2 h1)
theorem r_alightNow {d : Nat} {k : AHP} (hS : Std k) {m b : Nat} {F : FS} {K : Nat → Int32} {C : Int32} (hV : FV m F) (hB : RB (k.1 197) b F) (hb : b + 23 ≤ 966) (hm : m ≤ 7) (hE : k.1 189 0 = nI m) (hK : ∀ e, e < m → k.1 189 (4 + 4 * e) = K e) (hC : k.1 189 2 = C) : MM (d + 2) 205 [.ref 183, .int (nI b)] k (fun v h2 => v = some (.int (litB F K C)) ∧ h2 = k) := by
  refine ⟨Nat.le_of_ble_eq_true rfl, ?_⟩
  refine t_go (op := o_ci 1 0) (fe_X12_alightNow 0) (fun _ _ => rfl) ?_
  refine t_go (op := o_istore 2 2) (fe_X12_alightNow 1) (fun _ _ => rfl) ?_
  refine t_go (op := o_ci 3 0) (fe_X12_alightNow 2) (fun _ _ => rfl) ?_
  refine t_go (op := o_istore 4 3) (fe_X12_alightNow 3) (fun _ _ => rfl) ?_
  exact l_alightNow hS hV hB hb hm hE hK hC m 0 0 (by omega) ⟨by rw [litB_m hV hm], rfl⟩
def lieS (F : FS) (c : Nat) (e : Nat) (s : Int32) : Int32 := if F.1 e = nI c then nI e else s
theorem lie_at {F : FS} {c : Nat} : ∀ (j i : Nat) (s : Int32) (e : Nat), i + j ≤ 7 → (∀ a b, a < 7 → b < 7 → F.1 a = F.1 b → F.1 a = -1 ∨ a = b) → c < 12 → i ≤ e → e < i + j → F.1 e = nI c → it (lieS F c) j i s = nI e := by
  intro j
  induction j with
  | zero => intro i s e _ _ _ h1 h2 _; omega
  | succ j ih =>
    intro i s e h7 hd hc h1 h2 he
    rw [it_step]
    by_cases hie : i = e
    · subst hie
      rw [lieS, if_pos he]
      refine it_id _ _ _ fun t s h3 h4 => if_neg fun q => ?_
      rcases hd t i (by omega) (by omega) (q.trans he.symm) with h5 | h5
      · rw [q] at h5; exact nI_m1 (by omega) h5
      · omega
    · exact ih (i + 1) _ e (by omega) hd hc (by omega) (by omega) he
theorem FV_lies {m c : Nat} {F : FS} (hV : FV m F) (hm : m ≤ 7) (hc : c < 12) : it (lieS F c) m 0 (-1) = F.2.2.2.1 c := by
  rcases hV.2.1 c hc with ⟨h1, h2⟩ | ⟨e, he, h1, h2⟩
  · rw [h1]
    exact it_id _ _ _ fun t s h3 h4 => if_neg (h2 t (by omega))
  · rw [h1]
    refine lie_at m 0 (-1) e (by omega) hV.2.2.1 hc (by omega) ?_ h2
    rcases hV.1 e he with ⟨h3, _⟩ | ⟨h3, _⟩
    · rw [h2] at h3; exact absurd h3 (nI_m1 (by omega))
    · omega
theorem l_lyingIn {d : Nat} {k : AHP} (hS : Std k) {m b : Nat} {F : FS} (hV : FV m F) (hB : RB (k.1 197) b F) (hb : b + 23 ≤ 966) (hm : m ≤ 7) (hE : k.1 189 0 = nI m) {c : Nat} {Q : Option Value → AHP → Prop} : ∀ (j i : Nat) (S : Int32), i + j = m → Q (some (.int (it (lieS F c) j i S))) k → TT (d + 1) 206 5 [some (.ref 183), some (.int (nI b)), some (.int (nI c)), some (.int S), some (.int (nI i))] [] k Q := by
  intro j
  induction j with
  | zero =>
    intro i S hi  hq
    have hN : i = m := by omega
    refine t_go (op := o_iload 7 4) (fe_X12_lyingIn 5) (fun _ _ => rfl) ?_
    refine t_go (op := o_aload 8 0) (fe_X12_lyingIn 7) (fun _ _ => rfl) ?_
    refine t_call (op := o_callV 11 200 1 11) (fe_X12_lyingIn 8) (g_callV hS (show (lay 183).1 = 11 by decide) (by decide) rfl rfl rfl (Nat.le_of_ble_eq_true rfl)) ?_
    refine M_eq (r_embers hS hE) ?_
    refine t_ite (op := o_icmp 14 42 (fun x y => y ≤ x) (fun _ _ => inferInstance)) (fe_X12_lyingIn 11) g_icmp (fun c1 => ?_) (fun c1 => ?_)
    · refine t_go (op := o_iload 43 3) (fe_X12_lyingIn 42) (fun _ _ => rfl) ?_
      refine t_ret (op := o_iret) (fe_X12_lyingIn 43) (fun _ _ => rfl) ?_
      exact hq
    · exact absurd (by rw [hN]; exact Int32.le_refl _) c1
  | succ j ih =>
    intro i S hi  hq
    have hi7 : i < m := by omega
    refine t_go (op := o_iload 7 4) (fe_X12_lyingIn 5) (fun _ _ => rfl) ?_
    refine t_go (op := o_aload 8 0) (fe_X12_lyingIn 7) (fun _ _ => rfl) ?_
    refine t_call (op := o_callV 11 200 1 11) (fe_X12_lyingIn 8) (g_callV hS (show (lay 183).1 = 11 by decide) (by decide) rfl rfl rfl (Nat.le_of_ble_eq_true rfl)) ?_
    refine M_eq (r_embers hS hE) ?_
    refine t_ite (op := o_icmp 14 42 (fun x y => y ≤ x) (fun _ _ => inferInstance)) (fe_X12_lyingIn 11) g_icmp (fun c1 => ?_) (fun c1 => ?_)
    · exact absurd c1 (nI_ge hi7 (by omega))
    · refine t_go (op := o_aload 15 0) (fe_X12_lyingIn 14) (fun _ _ => rfl) ?_
      refine t_go (op := o_getR 18 11 22) (fe_X12_lyingIn 15) (g_getR hS (show (lay 183).1 = 11 by decide) (by decide) (fr_11_22 hS) (by decide)) ?_
      refine t_go (op := o_iload 19 1) (fe_X12_lyingIn 18) (fun _ _ => rfl) ?_
      refine t_go (op := o_ci 20 2) (fe_X12_lyingIn 19) (fun _ _ => rfl) ?_
      refine t_go (op := o_i2 21 (fun x y => x + y)) (fe_X12_lyingIn 20) (fun _ _ => rfl) ?_
      refine t_go (op := o_iload 23 4) (fe_X12_lyingIn 21) (fun _ _ => rfl) ?_
      refine t_go (op := o_i2 24 (fun x y => x + y)) (fe_X12_lyingIn 23) (fun _ _ => rfl) ?_
      refine t_go (op := o_iald 25) (fe_X12_lyingIn 24) (g_ialdN hS (show lay 197 = (20, 966) by decide) (nIa (nIa rfl (nIl 2)) rfl) (by omega) (by decide)) ?_
      rw [(hB.1 i (by omega)).1]
      refine t_go (op := o_iload 26 2) (fe_X12_lyingIn 25) (fun _ _ => rfl) ?_
      refine t_ite (op := o_icmp 34 29 (fun x y => x = y) (fun _ _ => inferInstance)) (fe_X12_lyingIn 26) g_icmp (fun c2 => ?_) (fun c2 => ?_)
      · refine t_go (op := o_iload 31 4) (fe_X12_lyingIn 29) (fun _ _ => rfl) ?_
        refine t_go (op := o_goto 35) (fe_X12_lyingIn 31) (fun _ _ => rfl) ?_
        refine t_go (op := o_istore 36 3) (fe_X12_lyingIn 35) (fun _ _ => rfl) ?_
        refine t_go (op := o_iinc 39 4 1) (fe_X12_lyingIn 36) (fun _ _ => rfl) ?_
        refine t_go (op := o_goto 5) (fe_X12_lyingIn 39) (fun _ _ => rfl) ?_
        have eS := (show lieS F c i S = _ from (if_pos c2))
        rw [it_step, eS] at hq
        rw [nI_1]
        exact ih (i + 1) _ (by omega) hq
      · refine t_go (op := o_iload 35 3) (fe_X12_lyingIn 34) (fun _ _ => rfl) ?_
        refine t_go (op := o_istore 36 3) (fe_X12_lyingIn 35) (fun _ _ => rfl) ?_
        refine t_go (op := o_iinc 39 4 1) (fe_X12_lyingIn 36) (fun _ _ => rfl) ?_
        refine t_go (op := o_goto 5) (fe_X12_lyingIn 39) (fun _ _ => rfl) ?_
        have eS := (show lieS F c i S = _ from (if_neg c2))
        rw [it_step, eS] at hq
        rw [nI_1]
        exact ih (i + 1) _ (by omega) hq
theorem r_lyingIn {d : Nat} {k : AHP} (hS : Std k) {m b : Nat} {F : FS} (hV : FV m F) (hB : RB (k.1 197) b F) (hb : b + 23 ≤ 966) (hm : m ≤ 7) (hE : k.1 189 0 = nI m) {c : Nat} (hc : c < 12) : MM (d + 1) 206 [.ref 183, .int (nI b), .int (nI c)] k (fun v h2 => v = some (.int (F.2.2.2.1 c)) ∧ h2 = k) := by
  refine ⟨Nat.le_of_ble_eq_true rfl, ?_⟩
  refine t_go (op := o_ci 1 (-1)) (fe_X12_lyingIn 0) (fun _ _ => rfl) ?_
  refine t_go (op := o_istore 2 3) (fe_X12_lyingIn 1) (fun _ _ => rfl) ?_
  refine t_go (op := o_ci 3 0) (fe_X12_lyingIn 2) (fun _ _ => rfl) ?_
  refine t_go (op := o_istore 5 4) (fe_X12_lyingIn 3) (fun _ _ => rfl) ?_
  exact l_lyingIn hS hV hB hb hm hE m 0 (-1) (by omega) ⟨by rw [FV_lies hV hm hc], rfl⟩
