/-! ===== the class: undo, marks, tell, what lies ===== -/
theorem va_same {a b : Nat → Int32} {n : Nat} (h1 : ∀ i, n ≤ i → a i = 0) (h2 : ∀ i, n ≤ i → b i = 0) : va_cpy a b 0 0 n = a := by
  funext i
  unfold va_cpy
  by_cases h : i < n
  · simp [h]
  · simp [h, h1 i (by omega), h2 i (by omega)]
theorem fs_rows {h k : AHP} {f : Nat} (e : ∀ a, f ≤ a → a < f + 5 → k.1 a = h.1 a) : fs k f = fs h f := by
  unfold fs
  rw [e (f + 1) (by omega) (by omega), e (f + 2) (by omega) (by omega), e (f + 3) (by omega) (by omega), e (f + 4) (by omega) (by omega), e f (by omega) (by omega)]
theorem fs_14 {k : AHP} {f i : Nat} {v : Int32} (h : f + 5 ≤ 14 ∨ 14 < f) : fs (sI k 14 i v) f = fs k f := by
  unfold fs
  rw [sI_ne (by omega), sI_ne (by omega), sI_ne (by omega), sI_ne (by omega), sI_ne (by omega)]
def UD (h h2 : AHP) (N u : Nat) : Prop := h2.2 = h.2 ∧ (∀ a, ¬ (5 ≤ a ∧ a ≤ 9) → a ≠ 14 → h2.1 a = h.1 a) ∧ fs h2 5 = fs h (19 + 5 * ((N - 1) % 16)) ∧ h2.1 14 4 = nI (N - 1) ∧ h2.1 14 5 = nI (u - 1)
theorem c_back {d : Nat} {h : AHP} {N u : Nat} (hS : Std h) (hz : NZ h) (hN : h.1 14 4 = nI N) (hN2 : N < 2000) (hN1 : 1 ≤ N) (hu : h.1 14 5 = nI u) (h16 : u ≤ 16) (h1 : 1 ≤ u) : MM (d + 1) 64 [.ref 14, .ref 5] h (fun v h2 => v = some (.int 1) ∧ UD h h2 N u) := by
  have hj : (N - 1) % 16 < 16 := Nat.mod_lt _ (by decide)
  obtain ⟨hNF, _⟩ := NZ_F hS hz (f := 5) (by decide)
  obtain ⟨hNK, hzK⟩ := NZ_F hS hz (f := 19 + 5 * ((N - 1) % 16)) (ly_kept hj)
  have e1 : h.1 14 4 - 1 = nI (N - 1) := by rw [hN]; exact nIs rfl rfl hN1
  refine M_mono ?_ (m_bringBack hS hj (by rw [e1, and_15 (by omega)]) (by rw [hu]; exact nI_lt (a := 0) h1 (by omega)) hzK)
  rintro _ _ ⟨rfl, rfl⟩
  unfold backH
  refine ⟨rfl, rfl, fun a h2 h3 => ?_, ?_, ?_, ?_⟩
  · dsimp only
    rw [setF_row (by omega), sI_ne h3, sI_ne h3]
  · dsimp only
    rw [fs_setF, fs_14 (by omega), fs_14 (by omega), fs_14 (by omega), fs_14 (by omega), bec_eq hNF hNK]
  · dsimp only
    rw [setF_at (by omega), sI_nr (by decide), sI_eq, e1]
  · dsimp only
    rw [setF_at (by omega), sI_eq, hu]
    exact nIs rfl rfl h1
theorem NZ_20 {h : AHP} {a n : Nat} (hS : Std h) (hz : NZ h) (hl : lay a = (20, n)) (ha : a ≤ 201) : ∀ i, n ≤ i → h.1 a i = 0 := by
  have := hz.1 a (by rw [hl]) (Nat.le_trans ha hS.1)
  rw [hl] at this
  exact this
theorem tbec_eq {h : AHP} {t s : Nat} (hS : Std h) (hz : NZ h) (ht : (lay t).1 = 9) (hs : (lay s).1 = 9) (hd : t + 4 ≤ s ∨ s + 4 ≤ t) : (tbec h t s).2 = h.2 ∧ (∀ a, ¬ (t ≤ a ∧ a ≤ t + 3) → (tbec h t s).1 a = h.1 a) ∧ (tbec h t s).1 (t + 1) = h.1 (s + 1) ∧ (tbec h t s).1 (t + 2) = h.1 (s + 2) ∧ (tbec h t s).1 (t + 3) = h.1 (s + 3) ∧ (tbec h t s).1 t 3 = h.1 s 3 := by
  have ht2 : t + 3 ≤ 201 := lay_of (P := fun t => t + 3 ≤ 201) (fun _ => inferInstance) (by decide) (by decide +kernel) ht
  have hs2 : s + 3 ≤ 201 := lay_of (P := fun t => t + 3 ≤ 201) (fun _ => inferInstance) (by decide) (by decide +kernel) hs
  have z : ∀ j, 1 ≤ j → j ≤ 3 → (∀ i, 6 ≤ i → h.1 (t + j) i = 0) ∧ (∀ i, 6 ≤ i → h.1 (s + j) i = 0) := fun j h1 h2 => by
    have : j = 1 ∨ j = 2 ∨ j = 3 := by omega
    rcases this with q | q | q
    · subst q; exact ⟨NZ_20 hS hz (ly_9_1 ht) (by omega), NZ_20 hS hz (ly_9_1 hs) (by omega)⟩
    · subst q; exact ⟨NZ_20 hS hz (ly_9_2 ht) (by omega), NZ_20 hS hz (ly_9_2 hs) (by omega)⟩
    · subst q; exact ⟨NZ_20 hS hz (ly_9_3 ht) (by omega), NZ_20 hS hz (ly_9_3 hs) (by omega)⟩
  unfold tbec
  dsimp only
  rw [rowI_ne (b := s + 2) (a := t + 1) (by omega), rowI_ne (b := t + 2) (a := t + 1) (by omega), va_same (z 1 (by omega) (by omega)).2 (z 1 (by omega) (by omega)).1, va_same (z 2 (by omega) (by omega)).2 (z 2 (by omega) (by omega)).1]
  rw [rowI_ne (b := s + 3) (a := t + 2) (by omega), rowI_ne (b := t + 3) (a := t + 2) (by omega), rowI_ne (b := s + 3) (a := t + 1) (by omega), rowI_ne (b := t + 3) (a := t + 1) (by omega), va_same (z 3 (by omega) (by omega)).2 (z 3 (by omega) (by omega)).1]
  rw [rowI_ne (b := s) (a := t + 3) (by omega), rowI_ne (b := s) (a := t + 2) (by omega), rowI_ne (b := s) (a := t + 1) (by omega)]
  refine ⟨rfl, fun a ha => ?_, ?_, ?_, ?_, sI_eq⟩
  · rw [sI_ne (by omega), rowI_ne (by omega), rowI_ne (by omega), rowI_ne (by omega)]
  · rw [sI_ne (by omega), rowI_ne (by omega), rowI_ne (by omega), rowI_at]
  · rw [sI_ne (by omega), rowI_ne (by omega), rowI_at]
  · rw [sI_ne (by omega), rowI_at]
theorem fire_fire {a f : Nat} (ha : (lay a).1 = 1) (hf : (lay f).1 = 1) : a = f ∨ a + 5 ≤ f ∨ f + 5 ≤ a := by
  have h1 : ∀ a, a < 202 → (lay a).1 = 1 → ∀ f, f < 202 → (lay f).1 = 1 → a = f ∨ a + 5 ≤ f ∨ f + 5 ≤ a := by decide +kernel
  exact h1 a (by have := (lay_lt ha (by decide)).2; exact Nat.lt_succ_of_le this) ha f (by have := (lay_lt hf (by decide)).2; exact Nat.lt_succ_of_le this) hf
theorem NZ_setF {h : AHP} {f : Nat} {F : FS} (hS : Std h) (hz : NZ h) (hf : (lay f).1 = 1) (hN : NF F) (hb : F.2.2.2.2.2 = 0 ∨ F.2.2.2.2.2 = 1) : NZ (setF h f F) := by
  refine ⟨fun a ha hn i hi => ?_, fun a ha hn => ?_⟩
  · by_cases h1 : a = f + 1
    · subst h1; rw [rd_1]; rw [ly_1_1 hf] at hi; exact (hN.1 i hi).1
    · by_cases h2 : a = f + 2
      · subst h2; rw [rd_2]; rw [ly_1_2 hf] at hi; exact (hN.1 i hi).2.1
      · by_cases h3 : a = f + 3
        · subst h3; rw [rd_3]; rw [ly_1_3 hf] at hi; exact (hN.1 i hi).2.2
        · by_cases h4 : a = f + 4
          · subst h4; rw [rd_4]; rw [ly_1_4 hf] at hi; exact hN.2 i hi
          · have h5 : a ≠ f := fun e => by rw [e, hf] at ha; cases ha
            rw [setF_at (by omega)]
            exact hz.1 a ha hn i hi
  · by_cases h1 : a = f
    · subst h1; rw [rd_b]; exact hb
    · have hd := fire_fire ha hf
      rw [setF_at (by omega)]
      exact hz.2 a ha hn
def MD (h h2 : AHP) (q : Nat) : Prop := h2.2 = h.2 ∧ (∀ a, ¬ (99 + 9 * q ≤ a ∧ a ≤ 107 + 9 * q) → a ≠ 18 → h2.1 a = h.1 a) ∧ (∀ j, j ≠ q → h2.1 18 j = h.1 18 j) ∧ h2.1 18 q = 1 ∧ fs h2 (99 + 9 * q) = fs h 5 ∧ h2.1 (104 + 9 * q) 3 = h.1 10 3 ∧ h2.1 (105 + 9 * q) = h.1 11 ∧ h2.1 (106 + 9 * q) = h.1 12 ∧ h2.1 (107 + 9 * q) = h.1 13
theorem c_lay {d : Nat} {h : AHP} {q : Nat} (hS : Std h) (hz : NZ h) (hq : q < 4) : MM (d + 1) 65 [.ref 14, .int (nI q), .ref 5, .ref 10] h (fun v h2 => v = some (.int 1) ∧ MD h h2 q) := by
  obtain ⟨hNF, hzz⟩ := NZ_F hS hz (f := 5) (by decide)
  obtain ⟨hNK, _⟩ := NZ_F hS hz (f := 99 + 9 * q) (ly_mf hq)
  refine M_mono ?_ (m_mark hS hq hzz)
  rintro _ _ ⟨rfl, rfl⟩
  unfold markH
  dsimp only
  rw [bec_eq hNK hNF]
  have hz1 : NZ (setF h (99 + 9 * q) (fs h 5)) := NZ_setF hS hz (ly_mf hq) hNF hzz
  obtain ⟨t1, t2, t3, t4, t5, t6⟩ := tbec_eq (h := setF h (99 + 9 * q) (fs h 5)) (t := 104 + 9 * q) (s := 10) hS hz1 (ly_mt hq) (by decide) (by omega)
  refine ⟨rfl, t1, fun a h1 h2 => ?_, fun j hj => ?_, sI_eq, ?_, ?_, ?_, ?_, ?_⟩
  · rw [sI_ne h2, t2 a (by omega), setF_row (by omega)]
  · rw [sI_nr hj, t2 18 (by omega), setF_row (by omega)]
  · have e : fs (sI (tbec (setF h (99 + 9 * q) (fs h 5)) (104 + 9 * q) 10) 18 q 1) (99 + 9 * q) = fs (setF h (99 + 9 * q) (fs h 5)) (99 + 9 * q) := fs_rows fun a h1 h2 => by rw [sI_ne (by omega), t2 a (by omega)]
    rw [e, fs_setF]
  · rw [sI_ne (by omega), t6, setF_at (by omega)]
  · rw [sI_ne (by omega), show 105 + 9 * q = 104 + 9 * q + 1 by omega, t3, setF_row (by omega)]
  · rw [sI_ne (by omega), show 106 + 9 * q = 104 + 9 * q + 2 by omega, t4, setF_row (by omega)]
  · rw [sI_ne (by omega), show 107 + 9 * q = 104 + 9 * q + 3 by omega, t5, setF_row (by omega)]
def GD (h h2 : AHP) (q : Nat) : Prop := h2.2 = h.2 ∧ (∀ a, ¬ (5 ≤ a ∧ a ≤ 13) → a ≠ 14 → h2.1 a = h.1 a) ∧ fs h2 5 = fs h (99 + 9 * q) ∧ h2.1 10 3 = h.1 (104 + 9 * q) 3 ∧ h2.1 11 = h.1 (105 + 9 * q) ∧ h2.1 12 = h.1 (106 + 9 * q) ∧ h2.1 13 = h.1 (107 + 9 * q) ∧ h2.1 14 4 = h.1 14 4 ∧ h2.1 14 5 = 0
theorem c_go {d : Nat} {h : AHP} {q : Nat} (hS : Std h) (hz : NZ h) (hq : q < 4) (hl : ¬ h.1 18 q = 0) : MM (d + 1) 66 [.ref 14, .int (nI q), .ref 5, .ref 10] h (fun v h2 => v = some (.int 1) ∧ GD h h2 q) := by
  obtain ⟨hNF, _⟩ := NZ_F hS hz (f := 5) (by decide)
  obtain ⟨hNK, hzK⟩ := NZ_F hS hz (f := 99 + 9 * q) (ly_mf hq)
  refine M_mono ?_ (m_goBack hS hq hl hzK)
  rintro _ _ ⟨rfl, rfl⟩
  unfold goH
  dsimp only
  rw [bec_eq hNF hNK]
  have hz1 : NZ (setF h 5 (fs h (99 + 9 * q))) := NZ_setF hS hz (by decide) hNK hzK
  obtain ⟨t1, t2, t3, t4, t5, t6⟩ := tbec_eq (h := setF h 5 (fs h (99 + 9 * q))) (t := 10) (s := 104 + 9 * q) hS hz1 (by decide) (ly_mt hq) (by omega)
  refine ⟨rfl, t1, fun a h1 h2 => ?_, ?_, ?_, ?_, ?_, ?_, ?_, sI_eq⟩
  · rw [sI_ne h2, t2 a (by omega), setF_row (by omega)]
  · rw [fs_14 (by omega)]
    have e : fs (tbec (setF h 5 (fs h (99 + 9 * q))) 10 (104 + 9 * q)) 5 = fs (setF h 5 (fs h (99 + 9 * q))) 5 := fs_rows fun a h1 h2 => t2 a (by omega)
    rw [e, fs_setF]
  · rw [sI_ne (by omega), t6, setF_at (by omega)]
  · rw [sI_ne (by omega), t3, setF_row (by omega), show 104 + 9 * q + 1 = 105 + 9 * q by omega]
  · rw [sI_ne (by omega), t4, setF_row (by omega), show 104 + 9 * q + 2 = 106 + 9 * q by omega]
  · rw [sI_ne (by omega), t5, setF_row (by omega), show 104 + 9 * q + 3 = 107 + 9 * q by omega]
  · rw [sI_nr (by decide), t2 14 (by omega), setF_at (by omega)]
theorem c_undo {d : Nat} {h : AHP} (hS : Std h) (hz : NZ h) {N u : Nat} (hN : h.1 14 4 = nI N) (hN2 : N < 2000) (hN1 : 1 ≤ N) (hu : h.1 14 5 = nI u) (h16 : u ≤ 16) (h1 : 1 ≤ u) : MM (d + 2) 119 [.ref 1] h (fun v h2 => v = some (.int 1) ∧ UD h h2 N u) := by
  refine ⟨Nat.le_of_ble_eq_true rfl, ?_⟩
  refine t_go (op := o_aload 1 0) (fe_X11_undo 0) (fun _ _ => rfl) ?_
  refine t_go (op := o_getR 4 10 4) (fe_X11_undo 1) (g_getR hS (show (lay 1).1 = 10 by decide) (by decide) (fr_10_4 hS) (by decide)) ?_
  refine t_go (op := o_aload 5 0) (fe_X11_undo 4) (fun _ _ => rfl) ?_
  refine t_go (op := o_getR 8 10 2) (fe_X11_undo 5) (g_getR hS (show (lay 1).1 = 10 by decide) (by decide) (fr_10_2 hS) (by decide)) ?_
  refine t_call (op := o_callV 11 64 2 5) (fe_X11_undo 8) (g_callV hS (by decide) (by decide) rfl rfl rfl (Nat.le_of_ble_eq_true rfl)) ?_
  refine M_mono ?_ (c_back hS hz hN hN2 hN1 hu h16 h1)
  rintro _ h2 ⟨rfl, hU⟩
  refine t_ret (op := o_zret) (fe_X11_undo 11) (g_zret (Or.inr rfl)) ?_
  exact ⟨rfl, hU⟩
theorem c_undoF {d : Nat} {h : AHP} (hS : Std h) (hz : NZ h) (hu : h.1 14 5 = 0) : MM (d + 2) 119 [.ref 1] h (fun v h2 => v = some (.int 0) ∧ h2 = h) := by
  refine ⟨Nat.le_of_ble_eq_true rfl, ?_⟩
  refine t_go (op := o_aload 1 0) (fe_X11_undo 0) (fun _ _ => rfl) ?_
  refine t_go (op := o_getR 4 10 4) (fe_X11_undo 1) (g_getR hS (show (lay 1).1 = 10 by decide) (by decide) (fr_10_4 hS) (by decide)) ?_
  refine t_go (op := o_aload 5 0) (fe_X11_undo 4) (fun _ _ => rfl) ?_
  refine t_go (op := o_getR 8 10 2) (fe_X11_undo 5) (g_getR hS (show (lay 1).1 = 10 by decide) (by decide) (fr_10_2 hS) (by decide)) ?_
  refine t_call (op := o_callV 11 64 2 5) (fe_X11_undo 8) (g_callV hS (by decide) (by decide) rfl rfl rfl (Nat.le_of_ble_eq_true rfl)) ?_
  refine M_eq (m_bringNone hS (by rw [hu]; decide)) ?_
  refine t_ret (op := o_zret) (fe_X11_undo 11) (g_zret (Or.inl rfl)) ?_
  exact ⟨rfl, rfl⟩
theorem c_markL {d : Nat} {h : AHP} (hS : Std h) (hz : NZ h) {q : Nat} (hq : q < 4) : MM (d + 2) 147 [.ref 1, .int (nI q), .int (0)] h (fun v h2 => v = some (.int 1) ∧ MD h h2 q) := by
  refine ⟨Nat.le_of_ble_eq_true rfl, ?_⟩
  refine t_go (op := o_iload 1 2) (fe_X11_mark 0) (fun _ _ => rfl) ?_
  refine t_ite (op := o_if 4 23 (fun x => x = 0) (fun _ => inferInstance)) (fe_X11_mark 1) g_if (fun c1 => ?_) (fun c1 => ?_)
  · clear c1
    refine t_go (op := o_aload 24 0) (fe_X11_mark 23) (fun _ _ => rfl) ?_
    refine t_go (op := o_getR 27 10 4) (fe_X11_mark 24) (g_getR hS (show (lay 1).1 = 10 by decide) (by decide) (fr_10_4 hS) (by decide)) ?_
    refine t_go (op := o_iload 28 1) (fe_X11_mark 27) (fun _ _ => rfl) ?_
    refine t_go (op := o_aload 29 0) (fe_X11_mark 28) (fun _ _ => rfl) ?_
    refine t_go (op := o_getR 32 10 2) (fe_X11_mark 29) (g_getR hS (show (lay 1).1 = 10 by decide) (by decide) (fr_10_2 hS) (by decide)) ?_
    refine t_go (op := o_aload 33 0) (fe_X11_mark 32) (fun _ _ => rfl) ?_
    refine t_go (op := o_getR 36 10 3) (fe_X11_mark 33) (g_getR hS (show (lay 1).1 = 10 by decide) (by decide) (fr_10_3 hS) (by decide)) ?_
    refine t_call (op := o_callV 39 65 4 5) (fe_X11_mark 36) (g_callV hS (by decide) (by decide) rfl rfl rfl (Nat.le_of_ble_eq_true rfl)) ?_
    refine M_mono ?_ (c_lay hS hz hq)
    rintro _ h2 ⟨rfl, hU⟩
    refine t_ret (op := o_zret) (fe_X11_mark 39) (g_zret (Or.inr rfl)) ?_
    exact ⟨rfl, hU⟩
  · exact absurd (by decide) c1
theorem c_markB {d : Nat} {h : AHP} (hS : Std h) (hz : NZ h) {q : Nat} (hq : q < 4) (hl : ¬ h.1 18 q = 0) : MM (d + 2) 147 [.ref 1, .int (nI q), .int (1)] h (fun v h2 => v = some (.int 1) ∧ GD h h2 q) := by
  refine ⟨Nat.le_of_ble_eq_true rfl, ?_⟩
  refine t_go (op := o_iload 1 2) (fe_X11_mark 0) (fun _ _ => rfl) ?_
  refine t_ite (op := o_if 4 23 (fun x => x = 0) (fun _ => inferInstance)) (fe_X11_mark 1) g_if (fun c1 => ?_) (fun c1 => ?_)
  · exact absurd c1 (by decide)
  · clear c1
    refine t_go (op := o_aload 5 0) (fe_X11_mark 4) (fun _ _ => rfl) ?_
    refine t_go (op := o_getR 8 10 4) (fe_X11_mark 5) (g_getR hS (show (lay 1).1 = 10 by decide) (by decide) (fr_10_4 hS) (by decide)) ?_
    refine t_go (op := o_iload 9 1) (fe_X11_mark 8) (fun _ _ => rfl) ?_
    refine t_go (op := o_aload 10 0) (fe_X11_mark 9) (fun _ _ => rfl) ?_
    refine t_go (op := o_getR 13 10 2) (fe_X11_mark 10) (g_getR hS (show (lay 1).1 = 10 by decide) (by decide) (fr_10_2 hS) (by decide)) ?_
    refine t_go (op := o_aload 14 0) (fe_X11_mark 13) (fun _ _ => rfl) ?_
    refine t_go (op := o_getR 17 10 3) (fe_X11_mark 14) (g_getR hS (show (lay 1).1 = 10 by decide) (by decide) (fr_10_3 hS) (by decide)) ?_
    refine t_call (op := o_callV 20 66 4 5) (fe_X11_mark 17) (g_callV hS (by decide) (by decide) rfl rfl rfl (Nat.le_of_ble_eq_true rfl)) ?_
    refine M_mono ?_ (c_go hS hz hq hl)
    rintro _ h2 ⟨rfl, hU⟩
    refine t_go (op := o_goto 39) (fe_X11_mark 20) (fun _ _ => rfl) ?_
    refine t_ret (op := o_zret) (fe_X11_mark 39) (g_zret (Or.inr rfl)) ?_
    exact ⟨rfl, hU⟩
theorem c_markN {d : Nat} {h : AHP} (hS : Std h) (hz : NZ h) {q : Nat} (hq : q < 4) (hl : h.1 18 q = 0) : MM (d + 2) 147 [.ref 1, .int (nI q), .int (1)] h (fun v h2 => v = some (.int 0) ∧ h2 = h) := by
  refine ⟨Nat.le_of_ble_eq_true rfl, ?_⟩
  refine t_go (op := o_iload 1 2) (fe_X11_mark 0) (fun _ _ => rfl) ?_
  refine t_ite (op := o_if 4 23 (fun x => x = 0) (fun _ => inferInstance)) (fe_X11_mark 1) g_if (fun c1 => ?_) (fun c1 => ?_)
  · exact absurd c1 (by decide)
  · clear c1
    refine t_go (op := o_aload 5 0) (fe_X11_mark 4) (fun _ _ => rfl) ?_
    refine t_go (op := o_getR 8 10 4) (fe_X11_mark 5) (g_getR hS (show (lay 1).1 = 10 by decide) (by decide) (fr_10_4 hS) (by decide)) ?_
    refine t_go (op := o_iload 9 1) (fe_X11_mark 8) (fun _ _ => rfl) ?_
    refine t_go (op := o_aload 10 0) (fe_X11_mark 9) (fun _ _ => rfl) ?_
    refine t_go (op := o_getR 13 10 2) (fe_X11_mark 10) (g_getR hS (show (lay 1).1 = 10 by decide) (by decide) (fr_10_2 hS) (by decide)) ?_
    refine t_go (op := o_aload 14 0) (fe_X11_mark 13) (fun _ _ => rfl) ?_
    refine t_go (op := o_getR 17 10 3) (fe_X11_mark 14) (g_getR hS (show (lay 1).1 = 10 by decide) (by decide) (fr_10_3 hS) (by decide)) ?_
    refine t_call (op := o_callV 20 66 4 5) (fe_X11_mark 17) (g_callV hS (by decide) (by decide) rfl rfl rfl (Nat.le_of_ble_eq_true rfl)) ?_
    refine M_eq (m_goUnlaid hS hq hl) ?_
    refine t_go (op := o_goto 39) (fe_X11_mark 20) (fun _ _ => rfl) ?_
    refine t_ret (op := o_zret) (fe_X11_mark 39) (g_zret (Or.inl rfl)) ?_
    exact ⟨rfl, rfl⟩
theorem lt3 {x : Int32} (h : 3 < x) : 4 ≤ x := by
  have h1 := Int32.lt_iff_toInt_lt.mp h
  have e3 : (3 : Int32).toInt = 3 := rfl
  have e4 : (4 : Int32).toInt = 4 := rfl
  exact Int32.le_iff_toInt_le.mpr (by omega)
theorem c_markF {d : Nat} {h : AHP} (hS : Std h) (hz : NZ h) {x y : Int32} (hn : ¬ (¬ x < 0 ∧ ¬ 3 < x)) : MM (d + 2) 147 [.ref 1, .int x, .int y] h (fun v h2 => v = some (.int 0) ∧ h2 = h) := by
  refine ⟨Nat.le_of_ble_eq_true rfl, ?_⟩
  refine t_go (op := o_iload 1 2) (fe_X11_mark 0) (fun _ _ => rfl) ?_
  refine t_ite (op := o_if 4 23 (fun x => x = 0) (fun _ => inferInstance)) (fe_X11_mark 1) g_if (fun c1 => ?_) (fun c1 => ?_)
  · refine t_go (op := o_aload 24 0) (fe_X11_mark 23) (fun _ _ => rfl) ?_
    refine t_go (op := o_getR 27 10 4) (fe_X11_mark 24) (g_getR hS (show (lay 1).1 = 10 by decide) (by decide) (fr_10_4 hS) (by decide)) ?_
    refine t_go (op := o_iload 28 1) (fe_X11_mark 27) (fun _ _ => rfl) ?_
    refine t_go (op := o_aload 29 0) (fe_X11_mark 28) (fun _ _ => rfl) ?_
    refine t_go (op := o_getR 32 10 2) (fe_X11_mark 29) (g_getR hS (show (lay 1).1 = 10 by decide) (by decide) (fr_10_2 hS) (by decide)) ?_
    refine t_go (op := o_aload 33 0) (fe_X11_mark 32) (fun _ _ => rfl) ?_
    refine t_go (op := o_getR 36 10 3) (fe_X11_mark 33) (g_getR hS (show (lay 1).1 = 10 by decide) (by decide) (fr_10_3 hS) (by decide)) ?_
    refine t_call (op := o_callV 39 65 4 5) (fe_X11_mark 36) (g_callV hS (by decide) (by decide) rfl rfl rfl (Nat.le_of_ble_eq_true rfl)) ?_
    refine M_eq (m_markNone hS (Classical.byContradiction fun q => hn ⟨fun z => q (Or.inl z), fun z => q (Or.inr (Int32.not_lt.mpr (lt3 z)))⟩)) ?_
    refine t_ret (op := o_zret) (fe_X11_mark 39) (g_zret (Or.inl rfl)) ?_
    exact ⟨rfl, rfl⟩
  · refine t_go (op := o_aload 5 0) (fe_X11_mark 4) (fun _ _ => rfl) ?_
    refine t_go (op := o_getR 8 10 4) (fe_X11_mark 5) (g_getR hS (show (lay 1).1 = 10 by decide) (by decide) (fr_10_4 hS) (by decide)) ?_
    refine t_go (op := o_iload 9 1) (fe_X11_mark 8) (fun _ _ => rfl) ?_
    refine t_go (op := o_aload 10 0) (fe_X11_mark 9) (fun _ _ => rfl) ?_
    refine t_go (op := o_getR 13 10 2) (fe_X11_mark 10) (g_getR hS (show (lay 1).1 = 10 by decide) (by decide) (fr_10_2 hS) (by decide)) ?_
    refine t_go (op := o_aload 14 0) (fe_X11_mark 13) (fun _ _ => rfl) ?_
    refine t_go (op := o_getR 17 10 3) (fe_X11_mark 14) (g_getR hS (show (lay 1).1 = 10 by decide) (by decide) (fr_10_3 hS) (by decide)) ?_
    refine t_call (op := o_callV 20 66 4 5) (fe_X11_mark 17) (g_callV hS (by decide) (by decide) rfl rfl rfl (Nat.le_of_ble_eq_true rfl)) ?_
    refine M_eq (m_goNone hS (Classical.byContradiction fun q => hn ⟨fun z => q (Or.inl z), fun z => q (Or.inr (lt3 z))⟩)) ?_
    refine t_go (op := o_goto 39) (fe_X11_mark 20) (fun _ _ => rfl) ?_
    refine t_ret (op := o_zret) (fe_X11_mark 39) (g_zret (Or.inl rfl)) ?_
    exact ⟨rfl, rfl⟩
theorem c_tell0 {d : Nat} {h : AHP} {g n m : Nat} (hS : Std h) (hg : (lay g).1 = 3) (hg7 : h.2.2.1 1 7 = g) (hL : LawOK h g n) (hM : h.1 g 4 = nI m) (hm : m ≤ 7) (hz : NZ h) {e q tn : Nat} (he : e < m) (hq : q ≤ 12) (h6 : tn < 6) (hl : h.1 10 3 = nI tn) : MM (d + 2) 131 [.ref 1, .int (nI e), .int (nI q), .int (0)] h (fun v h2 => v = some (.int (1)) ∧ h2 = told1 h (nI e) (nI q) (0)) := by
  refine ⟨Nat.le_of_ble_eq_true rfl, ?_⟩
  obtain ⟨hN2, hzz⟩ := NZ_F hS hz (f := 5) (by decide)
  have hN := (NZ_F hS hz (f := 136) (by decide)).1
  have hR := (NZ_F hS hz (f := 143) (by decide)).1
  have hgp : 0 < g := (lay_lt hg (by decide)).1
  have hF : fs h 5 = fs h 5 := rfl
  refine t_go (op := o_aload 1 0) (fe_X11_tell 0) (fun _ _ => rfl) ?_
  refine t_go (op := o_iload 2 1) (fe_X11_tell 1) (fun _ _ => rfl) ?_
  refine t_call (op := o_callV 5 150 2 10) (fe_X11_tell 2) (g_callV hS (show (lay 1).1 = 10 by decide) (by decide) rfl rfl rfl (Nat.le_of_ble_eq_true rfl)) ?_
  refine M_eq (c_isEmber hS hg hg7 hL hM hm hz) ?_
  refine t_ite (op := o_if 8 18 (fun x => x = 0) (fun _ => inferInstance)) (fe_X11_tell 5) g_if (fun c1 => ?_) (fun c1 => ?_)
  · exact absurd (isE he hm) (b2i_z c1)
  · replace c1 := b2i_nn c1
    refine t_go (op := o_iload 9 2) (fe_X11_tell 8) (fun _ _ => rfl) ?_
    refine t_ite (op := o_if 12 18 (fun x => x < 0) (fun _ => inferInstance)) (fe_X11_tell 9) g_if (fun c2 => ?_) (fun c2 => ?_)
    · exact absurd c2 (nI_pos (by omega))
    · clear c2
      refine t_go (op := o_iload 13 2) (fe_X11_tell 12) (fun _ _ => rfl) ?_
      refine t_go (op := o_ci 15 12) (fe_X11_tell 13) (fun _ _ => rfl) ?_
      refine t_ite (op := o_icmp 18 20 (fun x y => x ≤ y) (fun _ _ => inferInstance)) (fe_X11_tell 15) g_icmp (fun c3 => ?_) (fun c3 => ?_)
      · refine t_go (op := o_aload 21 0) (fe_X11_tell 20) (fun _ _ => rfl) ?_
        refine t_go (op := o_getR 24 10 3) (fe_X11_tell 21) (g_getR hS (show (lay 1).1 = 10 by decide) (by decide) (fr_10_3 hS) (by decide)) ?_
        refine t_go (op := o_iload 25 1) (fe_X11_tell 24) (fun _ _ => rfl) ?_
        refine t_go (op := o_iload 26 2) (fe_X11_tell 25) (fun _ _ => rfl) ?_
        refine t_go (op := o_iload 27 3) (fe_X11_tell 26) (fun _ _ => rfl) ?_
        refine t_call (op := o_callV 30 104 4 9) (fe_X11_tell 27) (g_callV hS (by decide) (by decide) rfl rfl rfl (Nat.le_of_ble_eq_true rfl)) ?_
        refine M_mono ?_ (m_toldAdd hS h6 hl (by decide))
        rintro _ _ ⟨rfl, rfl⟩
        refine t_ret (op := o_zret) (fe_X11_tell 30) (g_zret (Or.inr rfl)) ?_
        exact ⟨rfl, rfl⟩
      · exact absurd (show nI q ≤ 12 from nI_le (b := 12) hq (by omega)) c3
theorem c_tell1 {d : Nat} {h : AHP} {g n m : Nat} (hS : Std h) (hg : (lay g).1 = 3) (hg7 : h.2.2.1 1 7 = g) (hL : LawOK h g n) (hM : h.1 g 4 = nI m) (hm : m ≤ 7) (hz : NZ h) {e q tn : Nat} (he : e < m) (hq : q ≤ 12) (h6 : tn < 6) (hl : h.1 10 3 = nI tn) : MM (d + 2) 131 [.ref 1, .int (nI e), .int (nI q), .int (1)] h (fun v h2 => v = some (.int (1)) ∧ h2 = told1 h (nI e) (nI q) (1)) := by
  refine ⟨Nat.le_of_ble_eq_true rfl, ?_⟩
  obtain ⟨hN2, hzz⟩ := NZ_F hS hz (f := 5) (by decide)
  have hN := (NZ_F hS hz (f := 136) (by decide)).1
  have hR := (NZ_F hS hz (f := 143) (by decide)).1
  have hgp : 0 < g := (lay_lt hg (by decide)).1
  have hF : fs h 5 = fs h 5 := rfl
  refine t_go (op := o_aload 1 0) (fe_X11_tell 0) (fun _ _ => rfl) ?_
  refine t_go (op := o_iload 2 1) (fe_X11_tell 1) (fun _ _ => rfl) ?_
  refine t_call (op := o_callV 5 150 2 10) (fe_X11_tell 2) (g_callV hS (show (lay 1).1 = 10 by decide) (by decide) rfl rfl rfl (Nat.le_of_ble_eq_true rfl)) ?_
  refine M_eq (c_isEmber hS hg hg7 hL hM hm hz) ?_
  refine t_ite (op := o_if 8 18 (fun x => x = 0) (fun _ => inferInstance)) (fe_X11_tell 5) g_if (fun c1 => ?_) (fun c1 => ?_)
  · exact absurd (isE he hm) (b2i_z c1)
  · replace c1 := b2i_nn c1
    refine t_go (op := o_iload 9 2) (fe_X11_tell 8) (fun _ _ => rfl) ?_
    refine t_ite (op := o_if 12 18 (fun x => x < 0) (fun _ => inferInstance)) (fe_X11_tell 9) g_if (fun c2 => ?_) (fun c2 => ?_)
    · exact absurd c2 (nI_pos (by omega))
    · clear c2
      refine t_go (op := o_iload 13 2) (fe_X11_tell 12) (fun _ _ => rfl) ?_
      refine t_go (op := o_ci 15 12) (fe_X11_tell 13) (fun _ _ => rfl) ?_
      refine t_ite (op := o_icmp 18 20 (fun x y => x ≤ y) (fun _ _ => inferInstance)) (fe_X11_tell 15) g_icmp (fun c3 => ?_) (fun c3 => ?_)
      · refine t_go (op := o_aload 21 0) (fe_X11_tell 20) (fun _ _ => rfl) ?_
        refine t_go (op := o_getR 24 10 3) (fe_X11_tell 21) (g_getR hS (show (lay 1).1 = 10 by decide) (by decide) (fr_10_3 hS) (by decide)) ?_
        refine t_go (op := o_iload 25 1) (fe_X11_tell 24) (fun _ _ => rfl) ?_
        refine t_go (op := o_iload 26 2) (fe_X11_tell 25) (fun _ _ => rfl) ?_
        refine t_go (op := o_iload 27 3) (fe_X11_tell 26) (fun _ _ => rfl) ?_
        refine t_call (op := o_callV 30 104 4 9) (fe_X11_tell 27) (g_callV hS (by decide) (by decide) rfl rfl rfl (Nat.le_of_ble_eq_true rfl)) ?_
        refine M_mono ?_ (m_toldAdd hS h6 hl (by decide))
        rintro _ _ ⟨rfl, rfl⟩
        refine t_ret (op := o_zret) (fe_X11_tell 30) (g_zret (Or.inr rfl)) ?_
        exact ⟨rfl, rfl⟩
      · exact absurd (show nI q ≤ 12 from nI_le (b := 12) hq (by omega)) c3
theorem c_tellF {d : Nat} {h : AHP} {g n m : Nat} (hS : Std h) (hg : (lay g).1 = 3) (hg7 : h.2.2.1 1 7 = g) (hL : LawOK h g n) (hM : h.1 g 4 = nI m) (hm : m ≤ 7) (hz : NZ h) {x y z : Int32} (hn : ¬ ((¬ x < 0 ∧ x < nI m) ∧ ¬ y < 0 ∧ ¬ 12 < y)) : MM (d + 2) 131 [.ref 1, .int x, .int y, .int z] h (fun v h2 => v = some (.int (0)) ∧ h2 = h) := by
  refine ⟨Nat.le_of_ble_eq_true rfl, ?_⟩
  obtain ⟨hN2, hzz⟩ := NZ_F hS hz (f := 5) (by decide)
  have hN := (NZ_F hS hz (f := 136) (by decide)).1
  have hR := (NZ_F hS hz (f := 143) (by decide)).1
  have hgp : 0 < g := (lay_lt hg (by decide)).1
  have hF : fs h 5 = fs h 5 := rfl
  refine t_go (op := o_aload 1 0) (fe_X11_tell 0) (fun _ _ => rfl) ?_
  refine t_go (op := o_iload 2 1) (fe_X11_tell 1) (fun _ _ => rfl) ?_
  refine t_call (op := o_callV 5 150 2 10) (fe_X11_tell 2) (g_callV hS (show (lay 1).1 = 10 by decide) (by decide) rfl rfl rfl (Nat.le_of_ble_eq_true rfl)) ?_
  refine M_eq (c_isEmber hS hg hg7 hL hM hm hz) ?_
  refine t_ite (op := o_if 8 18 (fun x => x = 0) (fun _ => inferInstance)) (fe_X11_tell 5) g_if (fun c1 => ?_) (fun c1 => ?_)
  · replace c1 := b2i_z c1
    refine t_go (op := o_ci 19 0) (fe_X11_tell 18) (fun _ _ => rfl) ?_
    refine t_ret (op := o_zret) (fe_X11_tell 19) (g_zret (Or.inl rfl)) ?_
    exact ⟨rfl, rfl⟩
  · replace c1 := b2i_nn c1
    refine t_go (op := o_iload 9 2) (fe_X11_tell 8) (fun _ _ => rfl) ?_
    refine t_ite (op := o_if 12 18 (fun x => x < 0) (fun _ => inferInstance)) (fe_X11_tell 9) g_if (fun c2 => ?_) (fun c2 => ?_)
    · refine t_go (op := o_ci 19 0) (fe_X11_tell 18) (fun _ _ => rfl) ?_
      refine t_ret (op := o_zret) (fe_X11_tell 19) (g_zret (Or.inl rfl)) ?_
      exact ⟨rfl, rfl⟩
    · refine t_go (op := o_iload 13 2) (fe_X11_tell 12) (fun _ _ => rfl) ?_
      refine t_go (op := o_ci 15 12) (fe_X11_tell 13) (fun _ _ => rfl) ?_
      refine t_ite (op := o_icmp 18 20 (fun x y => x ≤ y) (fun _ _ => inferInstance)) (fe_X11_tell 15) g_icmp (fun c3 => ?_) (fun c3 => ?_)
      · exact absurd ⟨c1, c2, Int32.not_lt.mpr c3⟩ hn
      · refine t_go (op := o_ci 19 0) (fe_X11_tell 18) (fun _ _ => rfl) ?_
        refine t_ret (op := o_zret) (fe_X11_tell 19) (g_zret (Or.inl rfl)) ?_
        exact ⟨rfl, rfl⟩
theorem c_tellS {d : Nat} {h : AHP} {g n m : Nat} (hS : Std h) (hg : (lay g).1 = 3) (hg7 : h.2.2.1 1 7 = g) (hL : LawOK h g n) (hM : h.1 g 4 = nI m) (hm : m ≤ 7) (hz : NZ h) {x y z : Int32} (hl : h.1 10 3 = 6) : MM (d + 2) 131 [.ref 1, .int x, .int y, .int z] h (fun v h2 => v = some (.int (0)) ∧ h2 = h) := by
  refine ⟨Nat.le_of_ble_eq_true rfl, ?_⟩
  obtain ⟨hN2, hzz⟩ := NZ_F hS hz (f := 5) (by decide)
  have hN := (NZ_F hS hz (f := 136) (by decide)).1
  have hR := (NZ_F hS hz (f := 143) (by decide)).1
  have hgp : 0 < g := (lay_lt hg (by decide)).1
  have hF : fs h 5 = fs h 5 := rfl
  refine t_go (op := o_aload 1 0) (fe_X11_tell 0) (fun _ _ => rfl) ?_
  refine t_go (op := o_iload 2 1) (fe_X11_tell 1) (fun _ _ => rfl) ?_
  refine t_call (op := o_callV 5 150 2 10) (fe_X11_tell 2) (g_callV hS (show (lay 1).1 = 10 by decide) (by decide) rfl rfl rfl (Nat.le_of_ble_eq_true rfl)) ?_
  refine M_eq (c_isEmber hS hg hg7 hL hM hm hz) ?_
  refine t_ite (op := o_if 8 18 (fun x => x = 0) (fun _ => inferInstance)) (fe_X11_tell 5) g_if (fun c1 => ?_) (fun c1 => ?_)
  · replace c1 := b2i_z c1
    refine t_go (op := o_ci 19 0) (fe_X11_tell 18) (fun _ _ => rfl) ?_
    refine t_ret (op := o_zret) (fe_X11_tell 19) (g_zret (Or.inl rfl)) ?_
    exact ⟨rfl, rfl⟩
  · replace c1 := b2i_nn c1
    refine t_go (op := o_iload 9 2) (fe_X11_tell 8) (fun _ _ => rfl) ?_
    refine t_ite (op := o_if 12 18 (fun x => x < 0) (fun _ => inferInstance)) (fe_X11_tell 9) g_if (fun c2 => ?_) (fun c2 => ?_)
    · refine t_go (op := o_ci 19 0) (fe_X11_tell 18) (fun _ _ => rfl) ?_
      refine t_ret (op := o_zret) (fe_X11_tell 19) (g_zret (Or.inl rfl)) ?_
      exact ⟨rfl, rfl⟩
    · refine t_go (op := o_iload 13 2) (fe_X11_tell 12) (fun _ _ => rfl) ?_
      refine t_go (op := o_ci 15 12) (fe_X11_tell 13) (fun _ _ => rfl) ?_
      refine t_ite (op := o_icmp 18 20 (fun x y => x ≤ y) (fun _ _ => inferInstance)) (fe_X11_tell 15) g_icmp (fun c3 => ?_) (fun c3 => ?_)
      · refine t_go (op := o_aload 21 0) (fe_X11_tell 20) (fun _ _ => rfl) ?_
        refine t_go (op := o_getR 24 10 3) (fe_X11_tell 21) (g_getR hS (show (lay 1).1 = 10 by decide) (by decide) (fr_10_3 hS) (by decide)) ?_
        refine t_go (op := o_iload 25 1) (fe_X11_tell 24) (fun _ _ => rfl) ?_
        refine t_go (op := o_iload 26 2) (fe_X11_tell 25) (fun _ _ => rfl) ?_
        refine t_go (op := o_iload 27 3) (fe_X11_tell 26) (fun _ _ => rfl) ?_
        refine t_call (op := o_callV 30 104 4 9) (fe_X11_tell 27) (g_callV hS (by decide) (by decide) rfl rfl rfl (Nat.le_of_ble_eq_true rfl)) ?_
        refine M_eq (m_toldFull hS hl) ?_
        refine t_ret (op := o_zret) (fe_X11_tell 30) (g_zret (Or.inl rfl)) ?_
        exact ⟨rfl, rfl⟩
      · refine t_go (op := o_ci 19 0) (fe_X11_tell 18) (fun _ _ => rfl) ?_
        refine t_ret (op := o_zret) (fe_X11_tell 19) (g_zret (Or.inl rfl)) ?_
        exact ⟨rfl, rfl⟩
theorem c_ember0 {d : Nat} {h : AHP} {g n m : Nat} (hS : Std h) (hg : (lay g).1 = 3) (hg7 : h.2.2.1 1 7 = g) (hL : LawOK h g n) (hM : h.1 g 4 = nI m) (hm : m ≤ 7) (hz : NZ h) {e : Nat} (he : e < m) : MM (d + 3) 112 [.ref 1, .int (nI e), .int (0)] h (fun v h2 => v = some (.int (h.1 (g + 2) e)) ∧ h2 = h) := by
  refine ⟨Nat.le_of_ble_eq_true rfl, ?_⟩
  obtain ⟨hN2, hzz⟩ := NZ_F hS hz (f := 5) (by decide)
  have hN := (NZ_F hS hz (f := 136) (by decide)).1
  have hR := (NZ_F hS hz (f := 143) (by decide)).1
  have hgp : 0 < g := (lay_lt hg (by decide)).1
  have hF : fs h 5 = fs h 5 := rfl
  refine t_go (op := o_aload 1 0) (fe_X11_ember 0) (fun _ _ => rfl) ?_
  refine t_go (op := o_iload 2 1) (fe_X11_ember 1) (fun _ _ => rfl) ?_
  refine t_call (op := o_callV 5 150 2 10) (fe_X11_ember 2) (g_callV hS (show (lay 1).1 = 10 by decide) (by decide) rfl rfl rfl (Nat.le_of_ble_eq_true rfl)) ?_
  refine M_eq (c_isEmber hS hg hg7 hL hM hm hz) ?_
  refine t_ite (op := o_if 11 8 (fun x => x = 0) (fun _ => inferInstance)) (fe_X11_ember 5) g_if (fun c1 => ?_) (fun c1 => ?_)
  · exact absurd (isE he hm) (b2i_z c1)
  · replace c1 := b2i_nn c1
    refine t_go (op := o_iload 12 2) (fe_X11_ember 11) (fun _ _ => rfl) ?_
    refine t_go (op := o_sw (swT 0 [48, 58, 68, 78, 88] 104)) (fe_X11_ember 12) (fun _ _ => rfl) ?_
    rw [show swT 0 [48, 58, 68, 78, 88] 104 (0 : Int32) = 48 by decide +kernel]
    refine t_go (op := o_aload 49 0) (fe_X11_ember 48) (fun _ _ => rfl) ?_
    refine t_go (op := o_getR 52 10 7) (fe_X11_ember 49) (g_getR hS (show (lay 1).1 = 10 by decide) (by decide) hg7 hgp) ?_
    refine t_go (op := o_getR 55 3 1) (fe_X11_ember 52) (g_getR hS hg (by decide) (fr_3_1 hS hg) (Nat.succ_pos _)) ?_
    refine t_go (op := o_iload 56 1) (fe_X11_ember 55) (fun _ _ => rfl) ?_
    refine t_go (op := o_iald 57) (fe_X11_ember 56) (g_ialdN hS (ly_3_2 hg) rfl (by omega) (by decide)) ?_
    refine t_ret (op := o_iret) (fe_X11_ember 57) (fun _ _ => rfl) ?_
    exact ⟨rfl, rfl⟩
theorem c_ember1 {d : Nat} {h : AHP} {g n m : Nat} (hS : Std h) (hg : (lay g).1 = 3) (hg7 : h.2.2.1 1 7 = g) (hL : LawOK h g n) (hM : h.1 g 4 = nI m) (hm : m ≤ 7) (hz : NZ h) {e : Nat} (he : e < m) : MM (d + 3) 112 [.ref 1, .int (nI e), .int (1)] h (fun v h2 => v = some (.int ((fs h 5).1 e)) ∧ h2 = h) := by
  refine ⟨Nat.le_of_ble_eq_true rfl, ?_⟩
  obtain ⟨hN2, hzz⟩ := NZ_F hS hz (f := 5) (by decide)
  have hN := (NZ_F hS hz (f := 136) (by decide)).1
  have hR := (NZ_F hS hz (f := 143) (by decide)).1
  have hgp : 0 < g := (lay_lt hg (by decide)).1
  have hF : fs h 5 = fs h 5 := rfl
  refine t_go (op := o_aload 1 0) (fe_X11_ember 0) (fun _ _ => rfl) ?_
  refine t_go (op := o_iload 2 1) (fe_X11_ember 1) (fun _ _ => rfl) ?_
  refine t_call (op := o_callV 5 150 2 10) (fe_X11_ember 2) (g_callV hS (show (lay 1).1 = 10 by decide) (by decide) rfl rfl rfl (Nat.le_of_ble_eq_true rfl)) ?_
  refine M_eq (c_isEmber hS hg hg7 hL hM hm hz) ?_
  refine t_ite (op := o_if 11 8 (fun x => x = 0) (fun _ => inferInstance)) (fe_X11_ember 5) g_if (fun c1 => ?_) (fun c1 => ?_)
  · exact absurd (isE he hm) (b2i_z c1)
  · replace c1 := b2i_nn c1
    refine t_go (op := o_iload 12 2) (fe_X11_ember 11) (fun _ _ => rfl) ?_
    refine t_go (op := o_sw (swT 0 [48, 58, 68, 78, 88] 104)) (fe_X11_ember 12) (fun _ _ => rfl) ?_
    rw [show swT 0 [48, 58, 68, 78, 88] 104 (1 : Int32) = 58 by decide +kernel]
    refine t_go (op := o_aload 59 0) (fe_X11_ember 58) (fun _ _ => rfl) ?_
    refine t_go (op := o_getR 62 10 2) (fe_X11_ember 59) (g_getR hS (show (lay 1).1 = 10 by decide) (by decide) (fr_10_2 hS) (by decide)) ?_
    refine t_go (op := o_getR 65 1 0) (fe_X11_ember 62) (g_getR hS (by decide) (by decide) (fr_1_0 hS (by decide)) (Nat.succ_pos _)) ?_
    refine t_go (op := o_iload 66 1) (fe_X11_ember 65) (fun _ _ => rfl) ?_
    refine t_go (op := o_iald 67) (fe_X11_ember 66) (g_ialdN hS (ly_1_1 (by decide)) rfl (by omega) (by decide)) ?_
    refine t_ret (op := o_iret) (fe_X11_ember 67) (fun _ _ => rfl) ?_
    exact ⟨rfl, rfl⟩
theorem c_ember2 {d : Nat} {h : AHP} {g n m : Nat} (hS : Std h) (hg : (lay g).1 = 3) (hg7 : h.2.2.1 1 7 = g) (hL : LawOK h g n) (hM : h.1 g 4 = nI m) (hm : m ≤ 7) (hz : NZ h) {e : Nat} (he : e < m) : MM (d + 3) 112 [.ref 1, .int (nI e), .int (2)] h (fun v h2 => v = some (.int ((fs h 5).2.1 e)) ∧ h2 = h) := by
  refine ⟨Nat.le_of_ble_eq_true rfl, ?_⟩
  obtain ⟨hN2, hzz⟩ := NZ_F hS hz (f := 5) (by decide)
  have hN := (NZ_F hS hz (f := 136) (by decide)).1
  have hR := (NZ_F hS hz (f := 143) (by decide)).1
  have hgp : 0 < g := (lay_lt hg (by decide)).1
  have hF : fs h 5 = fs h 5 := rfl
  refine t_go (op := o_aload 1 0) (fe_X11_ember 0) (fun _ _ => rfl) ?_
  refine t_go (op := o_iload 2 1) (fe_X11_ember 1) (fun _ _ => rfl) ?_
  refine t_call (op := o_callV 5 150 2 10) (fe_X11_ember 2) (g_callV hS (show (lay 1).1 = 10 by decide) (by decide) rfl rfl rfl (Nat.le_of_ble_eq_true rfl)) ?_
  refine M_eq (c_isEmber hS hg hg7 hL hM hm hz) ?_
  refine t_ite (op := o_if 11 8 (fun x => x = 0) (fun _ => inferInstance)) (fe_X11_ember 5) g_if (fun c1 => ?_) (fun c1 => ?_)
  · exact absurd (isE he hm) (b2i_z c1)
  · replace c1 := b2i_nn c1
    refine t_go (op := o_iload 12 2) (fe_X11_ember 11) (fun _ _ => rfl) ?_
    refine t_go (op := o_sw (swT 0 [48, 58, 68, 78, 88] 104)) (fe_X11_ember 12) (fun _ _ => rfl) ?_
    rw [show swT 0 [48, 58, 68, 78, 88] 104 (2 : Int32) = 68 by decide +kernel]
    refine t_go (op := o_aload 69 0) (fe_X11_ember 68) (fun _ _ => rfl) ?_
    refine t_go (op := o_getR 72 10 2) (fe_X11_ember 69) (g_getR hS (show (lay 1).1 = 10 by decide) (by decide) (fr_10_2 hS) (by decide)) ?_
    refine t_go (op := o_getR 75 1 1) (fe_X11_ember 72) (g_getR hS (by decide) (by decide) (fr_1_1 hS (by decide)) (Nat.succ_pos _)) ?_
    refine t_go (op := o_iload 76 1) (fe_X11_ember 75) (fun _ _ => rfl) ?_
    refine t_go (op := o_iald 77) (fe_X11_ember 76) (g_ialdN hS (ly_1_2 (by decide)) rfl (by omega) (by decide)) ?_
    refine t_ret (op := o_iret) (fe_X11_ember 77) (fun _ _ => rfl) ?_
    exact ⟨rfl, rfl⟩
theorem c_ember3 {d : Nat} {h : AHP} {g n m : Nat} (hS : Std h) (hg : (lay g).1 = 3) (hg7 : h.2.2.1 1 7 = g) (hL : LawOK h g n) (hM : h.1 g 4 = nI m) (hm : m ≤ 7) (hz : NZ h) {e : Nat} (he : e < m) : MM (d + 3) 112 [.ref 1, .int (nI e), .int (3)] h (fun v h2 => v = some (.int ((fs h 5).2.2.1 e)) ∧ h2 = h) := by
  refine ⟨Nat.le_of_ble_eq_true rfl, ?_⟩
  obtain ⟨hN2, hzz⟩ := NZ_F hS hz (f := 5) (by decide)
  have hN := (NZ_F hS hz (f := 136) (by decide)).1
  have hR := (NZ_F hS hz (f := 143) (by decide)).1
  have hgp : 0 < g := (lay_lt hg (by decide)).1
  have hF : fs h 5 = fs h 5 := rfl
  refine t_go (op := o_aload 1 0) (fe_X11_ember 0) (fun _ _ => rfl) ?_
  refine t_go (op := o_iload 2 1) (fe_X11_ember 1) (fun _ _ => rfl) ?_
  refine t_call (op := o_callV 5 150 2 10) (fe_X11_ember 2) (g_callV hS (show (lay 1).1 = 10 by decide) (by decide) rfl rfl rfl (Nat.le_of_ble_eq_true rfl)) ?_
  refine M_eq (c_isEmber hS hg hg7 hL hM hm hz) ?_
  refine t_ite (op := o_if 11 8 (fun x => x = 0) (fun _ => inferInstance)) (fe_X11_ember 5) g_if (fun c1 => ?_) (fun c1 => ?_)
  · exact absurd (isE he hm) (b2i_z c1)
  · replace c1 := b2i_nn c1
    refine t_go (op := o_iload 12 2) (fe_X11_ember 11) (fun _ _ => rfl) ?_
    refine t_go (op := o_sw (swT 0 [48, 58, 68, 78, 88] 104)) (fe_X11_ember 12) (fun _ _ => rfl) ?_
    rw [show swT 0 [48, 58, 68, 78, 88] 104 (3 : Int32) = 78 by decide +kernel]
    refine t_go (op := o_aload 79 0) (fe_X11_ember 78) (fun _ _ => rfl) ?_
    refine t_go (op := o_getR 82 10 2) (fe_X11_ember 79) (g_getR hS (show (lay 1).1 = 10 by decide) (by decide) (fr_10_2 hS) (by decide)) ?_
    refine t_go (op := o_getR 85 1 2) (fe_X11_ember 82) (g_getR hS (by decide) (by decide) (fr_1_2 hS (by decide)) (Nat.succ_pos _)) ?_
    refine t_go (op := o_iload 86 1) (fe_X11_ember 85) (fun _ _ => rfl) ?_
    refine t_go (op := o_iald 87) (fe_X11_ember 86) (g_ialdN hS (ly_1_3 (by decide)) rfl (by omega) (by decide)) ?_
    refine t_ret (op := o_iret) (fe_X11_ember 87) (fun _ _ => rfl) ?_
    exact ⟨rfl, rfl⟩
theorem c_ember4 {d : Nat} {h : AHP} {g n m : Nat} (hS : Std h) (hg : (lay g).1 = 3) (hg7 : h.2.2.1 1 7 = g) (hL : LawOK h g n) (hM : h.1 g 4 = nI m) (hm : m ≤ 7) (hz : NZ h) {e : Nat} (he : e < m) : MM (d + 3) 112 [.ref 1, .int (nI e), .int (4)] h (fun v h2 => v = some (.int (b2i (glP (fs h 5) (h.1 (g + 2)) (h.1 g 5) e))) ∧ h2 = h) := by
  refine ⟨Nat.le_of_ble_eq_true rfl, ?_⟩
  obtain ⟨hN2, hzz⟩ := NZ_F hS hz (f := 5) (by decide)
  have hN := (NZ_F hS hz (f := 136) (by decide)).1
  have hR := (NZ_F hS hz (f := 143) (by decide)).1
  have hgp : 0 < g := (lay_lt hg (by decide)).1
  have hF : fs h 5 = fs h 5 := rfl
  refine t_go (op := o_aload 1 0) (fe_X11_ember 0) (fun _ _ => rfl) ?_
  refine t_go (op := o_iload 2 1) (fe_X11_ember 1) (fun _ _ => rfl) ?_
  refine t_call (op := o_callV 5 150 2 10) (fe_X11_ember 2) (g_callV hS (show (lay 1).1 = 10 by decide) (by decide) rfl rfl rfl (Nat.le_of_ble_eq_true rfl)) ?_
  refine M_eq (c_isEmber hS hg hg7 hL hM hm hz) ?_
  refine t_ite (op := o_if 11 8 (fun x => x = 0) (fun _ => inferInstance)) (fe_X11_ember 5) g_if (fun c1 => ?_) (fun c1 => ?_)
  · exact absurd (isE he hm) (b2i_z c1)
  · replace c1 := b2i_nn c1
    refine t_go (op := o_iload 12 2) (fe_X11_ember 11) (fun _ _ => rfl) ?_
    refine t_go (op := o_sw (swT 0 [48, 58, 68, 78, 88] 104)) (fe_X11_ember 12) (fun _ _ => rfl) ?_
    rw [show swT 0 [48, 58, 68, 78, 88] 104 (4 : Int32) = 88 by decide +kernel]
    refine t_go (op := o_aload 89 0) (fe_X11_ember 88) (fun _ _ => rfl) ?_
    refine t_go (op := o_getR 92 10 2) (fe_X11_ember 89) (g_getR hS (show (lay 1).1 = 10 by decide) (by decide) (fr_10_2 hS) (by decide)) ?_
    refine t_go (op := o_aload 93 0) (fe_X11_ember 92) (fun _ _ => rfl) ?_
    refine t_go (op := o_getR 96 10 7) (fe_X11_ember 93) (g_getR hS (show (lay 1).1 = 10 by decide) (by decide) hg7 hgp) ?_
    refine t_call (op := o_callV 99 18 2 1) (fe_X11_ember 96) (g_callV hS (by decide) (by decide) rfl rfl rfl (Nat.le_of_ble_eq_true rfl)) ?_
    refine M_eq (a_litBits hS hg X.rf (by decide) hF) ?_
    refine t_go (op := o_iload 100 1) (fe_X11_ember 99) (fun _ _ => rfl) ?_
    refine t_go (op := o_i2 101 (fun x y => x >>> (y &&& 31))) (fe_X11_ember 100) (fun _ _ => rfl) ?_
    refine t_go (op := o_ci 102 1) (fe_X11_ember 101) (fun _ _ => rfl) ?_
    refine t_go (op := o_i2 103 (fun x y => x &&& y)) (fe_X11_ember 102) (fun _ _ => rfl) ?_
    refine t_ret (op := o_iret) (fe_X11_ember 103) (fun _ _ => rfl) ?_
    exact ⟨congrArg (fun z => some (Value.int z)) (lit_b2i (by omega)), rfl⟩
theorem c_emberF {d : Nat} {h : AHP} {g n m : Nat} (hS : Std h) (hg : (lay g).1 = 3) (hg7 : h.2.2.1 1 7 = g) (hL : LawOK h g n) (hM : h.1 g 4 = nI m) (hm : m ≤ 7) (hz : NZ h) {x : Int32} (hn : ¬ (¬ x < 0 ∧ x < nI m)) {y : Int32} : MM (d + 3) 112 [.ref 1, .int x, .int y] h (fun v h2 => v = some (.int (-2)) ∧ h2 = h) := by
  refine ⟨Nat.le_of_ble_eq_true rfl, ?_⟩
  obtain ⟨hN2, hzz⟩ := NZ_F hS hz (f := 5) (by decide)
  have hN := (NZ_F hS hz (f := 136) (by decide)).1
  have hR := (NZ_F hS hz (f := 143) (by decide)).1
  have hgp : 0 < g := (lay_lt hg (by decide)).1
  have hF : fs h 5 = fs h 5 := rfl
  refine t_go (op := o_aload 1 0) (fe_X11_ember 0) (fun _ _ => rfl) ?_
  refine t_go (op := o_iload 2 1) (fe_X11_ember 1) (fun _ _ => rfl) ?_
  refine t_call (op := o_callV 5 150 2 10) (fe_X11_ember 2) (g_callV hS (show (lay 1).1 = 10 by decide) (by decide) rfl rfl rfl (Nat.le_of_ble_eq_true rfl)) ?_
  refine M_eq (c_isEmber hS hg hg7 hL hM hm hz) ?_
  refine t_ite (op := o_if 11 8 (fun x => x = 0) (fun _ => inferInstance)) (fe_X11_ember 5) g_if (fun c1 => ?_) (fun c1 => ?_)
  · replace c1 := b2i_z c1
    refine t_go (op := o_ci 10 (-2)) (fe_X11_ember 8) (fun _ _ => rfl) ?_
    refine t_ret (op := o_iret) (fe_X11_ember 10) (fun _ _ => rfl) ?_
    exact ⟨rfl, rfl⟩
  · exact absurd (b2i_nn c1) hn
theorem c_emberG {d : Nat} {h : AHP} {g n m : Nat} (hS : Std h) (hg : (lay g).1 = 3) (hg7 : h.2.2.1 1 7 = g) (hL : LawOK h g n) (hM : h.1 g 4 = nI m) (hm : m ≤ 7) (hz : NZ h) {e : Nat} (he : e < m) {y : Int32} (hn : y.toInt < 0 ∨ 5 ≤ y.toInt) : MM (d + 3) 112 [.ref 1, .int (nI e), .int y] h (fun v h2 => v = some (.int (-2)) ∧ h2 = h) := by
  refine ⟨Nat.le_of_ble_eq_true rfl, ?_⟩
  obtain ⟨hN2, hzz⟩ := NZ_F hS hz (f := 5) (by decide)
  have hN := (NZ_F hS hz (f := 136) (by decide)).1
  have hR := (NZ_F hS hz (f := 143) (by decide)).1
  have hgp : 0 < g := (lay_lt hg (by decide)).1
  have hF : fs h 5 = fs h 5 := rfl
  refine t_go (op := o_aload 1 0) (fe_X11_ember 0) (fun _ _ => rfl) ?_
  refine t_go (op := o_iload 2 1) (fe_X11_ember 1) (fun _ _ => rfl) ?_
  refine t_call (op := o_callV 5 150 2 10) (fe_X11_ember 2) (g_callV hS (show (lay 1).1 = 10 by decide) (by decide) rfl rfl rfl (Nat.le_of_ble_eq_true rfl)) ?_
  refine M_eq (c_isEmber hS hg hg7 hL hM hm hz) ?_
  refine t_ite (op := o_if 11 8 (fun x => x = 0) (fun _ => inferInstance)) (fe_X11_ember 5) g_if (fun c1 => ?_) (fun c1 => ?_)
  · exact absurd (isE he hm) (b2i_z c1)
  · replace c1 := b2i_nn c1
    refine t_go (op := o_iload 12 2) (fe_X11_ember 11) (fun _ _ => rfl) ?_
    refine t_go (op := o_sw (swT 0 [48, 58, 68, 78, 88] 104)) (fe_X11_ember 12) (fun _ _ => rfl) ?_
    refine t_swT (fun c2 => ?_) (fun jj hj c2 => ?_)
    · refine t_go (op := o_ci 106 (-2)) (fe_X11_ember 104) (fun _ _ => rfl) ?_
      refine t_ret (op := o_iret) (fe_X11_ember 106) (fun _ _ => rfl) ?_
      exact ⟨rfl, rfl⟩
    · exfalso
      have : jj < 5 := hj
      omega
theorem c_cell {d : Nat} {h : AHP} {g n m : Nat} (hS : Std h) (hg : (lay g).1 = 3) (hg7 : h.2.2.1 1 7 = g) (hL : LawOK h g n) (hM : h.1 g 4 = nI m) (hm : m ≤ 7) (hz : NZ h) {c : Nat} (hc : c < 12) : MM (d + 2) 113 [.ref 1, .int (nI c)] h (fun v h2 => v = some (.int ((fs h 5).2.2.2.1 c)) ∧ h2 = h) := by
  refine ⟨Nat.le_of_ble_eq_true rfl, ?_⟩
  obtain ⟨hN2, hzz⟩ := NZ_F hS hz (f := 5) (by decide)
  have hN := (NZ_F hS hz (f := 136) (by decide)).1
  have hR := (NZ_F hS hz (f := 143) (by decide)).1
  have hgp : 0 < g := (lay_lt hg (by decide)).1
  have hF : fs h 5 = fs h 5 := rfl
  refine t_go (op := o_iload 1 1) (fe_X11_cell 0) (fun _ _ => rfl) ?_
  refine t_call (op := o_callS 4 151 1) (fe_X11_cell 1) (g_callS rfl rfl rfl (Nat.le_of_ble_eq_true rfl)) ?_
  refine M_eq m_isCell ?_
  refine t_ite (op := o_if 7 19 (fun x => x = 0) (fun _ => inferInstance)) (fe_X11_cell 4) g_if (fun c1 => ?_) (fun c1 => ?_)
  · exact absurd (show ¬ nI c < 0 ∧ ¬ (12 : Int32) ≤ nI c from ⟨nI_pos (by omega), nI_ge (b := 12) hc (by decide)⟩) (b2i_z c1)
  · replace c1 := b2i_nn c1
    refine t_go (op := o_aload 8 0) (fe_X11_cell 7) (fun _ _ => rfl) ?_
    refine t_go (op := o_getR 11 10 2) (fe_X11_cell 8) (g_getR hS (show (lay 1).1 = 10 by decide) (by decide) (fr_10_2 hS) (by decide)) ?_
    refine t_go (op := o_getR 14 1 3) (fe_X11_cell 11) (g_getR hS (by decide) (by decide) (fr_1_3 hS (by decide)) (Nat.succ_pos _)) ?_
    refine t_go (op := o_iload 15 1) (fe_X11_cell 14) (fun _ _ => rfl) ?_
    refine t_go (op := o_iald 16) (fe_X11_cell 15) (g_ialdN hS (ly_1_4 (by decide)) rfl (by omega) (by decide)) ?_
    refine t_go (op := o_goto 20) (fe_X11_cell 16) (fun _ _ => rfl) ?_
    refine t_ret (op := o_iret) (fe_X11_cell 20) (fun _ _ => rfl) ?_
    exact ⟨rfl, rfl⟩
theorem c_cellF {d : Nat} {h : AHP} {g n m : Nat} (hS : Std h) (hg : (lay g).1 = 3) (hg7 : h.2.2.1 1 7 = g) (hL : LawOK h g n) (hM : h.1 g 4 = nI m) (hm : m ≤ 7) (hz : NZ h) {x : Int32} (hn : ¬ (¬ x < 0 ∧ ¬ 12 ≤ x)) : MM (d + 2) 113 [.ref 1, .int x] h (fun v h2 => v = some (.int (-1)) ∧ h2 = h) := by
  refine ⟨Nat.le_of_ble_eq_true rfl, ?_⟩
  obtain ⟨hN2, hzz⟩ := NZ_F hS hz (f := 5) (by decide)
  have hN := (NZ_F hS hz (f := 136) (by decide)).1
  have hR := (NZ_F hS hz (f := 143) (by decide)).1
  have hgp : 0 < g := (lay_lt hg (by decide)).1
  have hF : fs h 5 = fs h 5 := rfl
  refine t_go (op := o_iload 1 1) (fe_X11_cell 0) (fun _ _ => rfl) ?_
  refine t_call (op := o_callS 4 151 1) (fe_X11_cell 1) (g_callS rfl rfl rfl (Nat.le_of_ble_eq_true rfl)) ?_
  refine M_eq m_isCell ?_
  refine t_ite (op := o_if 7 19 (fun x => x = 0) (fun _ => inferInstance)) (fe_X11_cell 4) g_if (fun c1 => ?_) (fun c1 => ?_)
  · replace c1 := b2i_z c1
    refine t_go (op := o_ci 20 (-1)) (fe_X11_cell 19) (fun _ _ => rfl) ?_
    refine t_ret (op := o_iret) (fe_X11_cell 20) (fun _ _ => rfl) ?_
    exact ⟨rfl, rfl⟩
  · exact absurd (b2i_nn c1) hn
theorem c_count0 {d : Nat} {h : AHP} {g n m : Nat} (hS : Std h) (hg : (lay g).1 = 3) (hg7 : h.2.2.1 1 7 = g) (hL : LawOK h g n) (hM : h.1 g 4 = nI m) (hm : m ≤ 7) (hz : NZ h)  : MM (d + 3) 148 [.ref 1, .int (0)] h (fun v h2 => v = some (.int (nI m)) ∧ h2 = h) := by
  refine ⟨Nat.le_of_ble_eq_true rfl, ?_⟩
  obtain ⟨hN2, hzz⟩ := NZ_F hS hz (f := 5) (by decide)
  have hN := (NZ_F hS hz (f := 136) (by decide)).1
  have hR := (NZ_F hS hz (f := 143) (by decide)).1
  have hgp : 0 < g := (lay_lt hg (by decide)).1
  have hF : fs h 5 = fs h 5 := rfl
  refine t_go (op := o_iload 1 1) (fe_X11_count 0) (fun _ _ => rfl) ?_
  refine t_go (op := o_sw (swT 0 [64, 72, 80, 88, 103, 119, 127, 135, 147, 155, 163, 171] 179)) (fe_X11_count 1) (fun _ _ => rfl) ?_
  rw [show swT 0 [64, 72, 80, 88, 103, 119, 127, 135, 147, 155, 163, 171] 179 (0 : Int32) = 64 by decide +kernel]
  refine t_go (op := o_aload 65 0) (fe_X11_count 64) (fun _ _ => rfl) ?_
  refine t_go (op := o_getR 68 10 7) (fe_X11_count 65) (g_getR hS (show (lay 1).1 = 10 by decide) (by decide) hg7 hgp) ?_
  refine t_go (op := o_getI 71 3 4) (fe_X11_count 68) (g_getI hS hg (by decide)) ?_
  rw [hM]
  refine t_ret (op := o_iret) (fe_X11_count 71) (fun _ _ => rfl) ?_
  exact ⟨rfl, rfl⟩
theorem c_count1 {d : Nat} {h : AHP} {g n m : Nat} (hS : Std h) (hg : (lay g).1 = 3) (hg7 : h.2.2.1 1 7 = g) (hL : LawOK h g n) (hM : h.1 g 4 = nI m) (hm : m ≤ 7) (hz : NZ h)  : MM (d + 3) 148 [.ref 1, .int (1)] h (fun v h2 => v = some (.int (h.1 g 5)) ∧ h2 = h) := by
  refine ⟨Nat.le_of_ble_eq_true rfl, ?_⟩
  obtain ⟨hN2, hzz⟩ := NZ_F hS hz (f := 5) (by decide)
  have hN := (NZ_F hS hz (f := 136) (by decide)).1
  have hR := (NZ_F hS hz (f := 143) (by decide)).1
  have hgp : 0 < g := (lay_lt hg (by decide)).1
  have hF : fs h 5 = fs h 5 := rfl
  refine t_go (op := o_iload 1 1) (fe_X11_count 0) (fun _ _ => rfl) ?_
  refine t_go (op := o_sw (swT 0 [64, 72, 80, 88, 103, 119, 127, 135, 147, 155, 163, 171] 179)) (fe_X11_count 1) (fun _ _ => rfl) ?_
  rw [show swT 0 [64, 72, 80, 88, 103, 119, 127, 135, 147, 155, 163, 171] 179 (1 : Int32) = 72 by decide +kernel]
  refine t_go (op := o_aload 73 0) (fe_X11_count 72) (fun _ _ => rfl) ?_
  refine t_go (op := o_getR 76 10 7) (fe_X11_count 73) (g_getR hS (show (lay 1).1 = 10 by decide) (by decide) hg7 hgp) ?_
  refine t_go (op := o_getI 79 3 5) (fe_X11_count 76) (g_getI hS hg (by decide)) ?_
  refine t_ret (op := o_iret) (fe_X11_count 79) (fun _ _ => rfl) ?_
  exact ⟨rfl, rfl⟩
theorem c_count2 {d : Nat} {h : AHP} {g n m : Nat} (hS : Std h) (hg : (lay g).1 = 3) (hg7 : h.2.2.1 1 7 = g) (hL : LawOK h g n) (hM : h.1 g 4 = nI m) (hm : m ≤ 7) (hz : NZ h)  : MM (d + 3) 148 [.ref 1, .int (2)] h (fun v h2 => v = some (.int ((fs h 5).2.2.2.2.1)) ∧ h2 = h) := by
  refine ⟨Nat.le_of_ble_eq_true rfl, ?_⟩
  obtain ⟨hN2, hzz⟩ := NZ_F hS hz (f := 5) (by decide)
  have hN := (NZ_F hS hz (f := 136) (by decide)).1
  have hR := (NZ_F hS hz (f := 143) (by decide)).1
  have hgp : 0 < g := (lay_lt hg (by decide)).1
  have hF : fs h 5 = fs h 5 := rfl
  refine t_go (op := o_iload 1 1) (fe_X11_count 0) (fun _ _ => rfl) ?_
  refine t_go (op := o_sw (swT 0 [64, 72, 80, 88, 103, 119, 127, 135, 147, 155, 163, 171] 179)) (fe_X11_count 1) (fun _ _ => rfl) ?_
  rw [show swT 0 [64, 72, 80, 88, 103, 119, 127, 135, 147, 155, 163, 171] 179 (2 : Int32) = 80 by decide +kernel]
  refine t_go (op := o_aload 81 0) (fe_X11_count 80) (fun _ _ => rfl) ?_
  refine t_go (op := o_getR 84 10 2) (fe_X11_count 81) (g_getR hS (show (lay 1).1 = 10 by decide) (by decide) (fr_10_2 hS) (by decide)) ?_
  refine t_go (op := o_getI 87 1 4) (fe_X11_count 84) (g_getI hS (by decide) (by decide)) ?_
  refine t_ret (op := o_iret) (fe_X11_count 87) (fun _ _ => rfl) ?_
  exact ⟨rfl, rfl⟩
theorem c_count3 {d : Nat} {h : AHP} {g n m : Nat} (hS : Std h) (hg : (lay g).1 = 3) (hg7 : h.2.2.1 1 7 = g) (hL : LawOK h g n) (hM : h.1 g 4 = nI m) (hm : m ≤ 7) (hz : NZ h)  : MM (d + 3) 148 [.ref 1, .int (3)] h (fun v h2 => v = some (.int (drV h g (fs h 5).2.2.2.2.1)) ∧ h2 = h) := by
  refine ⟨Nat.le_of_ble_eq_true rfl, ?_⟩
  obtain ⟨hN2, hzz⟩ := NZ_F hS hz (f := 5) (by decide)
  have hN := (NZ_F hS hz (f := 136) (by decide)).1
  have hR := (NZ_F hS hz (f := 143) (by decide)).1
  have hgp : 0 < g := (lay_lt hg (by decide)).1
  have hF : fs h 5 = fs h 5 := rfl
  refine t_go (op := o_iload 1 1) (fe_X11_count 0) (fun _ _ => rfl) ?_
  refine t_go (op := o_sw (swT 0 [64, 72, 80, 88, 103, 119, 127, 135, 147, 155, 163, 171] 179)) (fe_X11_count 1) (fun _ _ => rfl) ?_
  rw [show swT 0 [64, 72, 80, 88, 103, 119, 127, 135, 147, 155, 163, 171] 179 (3 : Int32) = 88 by decide +kernel]
  refine t_go (op := o_aload 89 0) (fe_X11_count 88) (fun _ _ => rfl) ?_
  refine t_go (op := o_getR 92 10 7) (fe_X11_count 89) (g_getR hS (show (lay 1).1 = 10 by decide) (by decide) hg7 hgp) ?_
  refine t_go (op := o_aload 93 0) (fe_X11_count 92) (fun _ _ => rfl) ?_
  refine t_go (op := o_getR 96 10 2) (fe_X11_count 93) (g_getR hS (show (lay 1).1 = 10 by decide) (by decide) (fr_10_2 hS) (by decide)) ?_
  refine t_go (op := o_getI 99 1 4) (fe_X11_count 96) (g_getI hS (by decide) (by decide)) ?_
  refine t_call (op := o_callV 102 54 2 3) (fe_X11_count 99) (g_callV hS hg (by decide) rfl rfl rfl (Nat.le_of_ble_eq_true rfl)) ?_
  refine M_eq (m_draughtAt hS hg) ?_
  refine t_ret (op := o_iret) (fe_X11_count 102) (fun _ _ => rfl) ?_
  exact ⟨rfl, rfl⟩
theorem c_count4 {d : Nat} {h : AHP} {g n m : Nat} (hS : Std h) (hg : (lay g).1 = 3) (hg7 : h.2.2.1 1 7 = g) (hL : LawOK h g n) (hM : h.1 g 4 = nI m) (hm : m ≤ 7) (hz : NZ h)  : MM (d + 3) 148 [.ref 1, .int (4)] h (fun v h2 => v = some (.int ((fs h 5).2.2.2.2.2)) ∧ h2 = h) := by
  refine ⟨Nat.le_of_ble_eq_true rfl, ?_⟩
  obtain ⟨hN2, hzz⟩ := NZ_F hS hz (f := 5) (by decide)
  have hN := (NZ_F hS hz (f := 136) (by decide)).1
  have hR := (NZ_F hS hz (f := 143) (by decide)).1
  have hgp : 0 < g := (lay_lt hg (by decide)).1
  have hF : fs h 5 = fs h 5 := rfl
  refine t_go (op := o_iload 1 1) (fe_X11_count 0) (fun _ _ => rfl) ?_
  refine t_go (op := o_sw (swT 0 [64, 72, 80, 88, 103, 119, 127, 135, 147, 155, 163, 171] 179)) (fe_X11_count 1) (fun _ _ => rfl) ?_
  rw [show swT 0 [64, 72, 80, 88, 103, 119, 127, 135, 147, 155, 163, 171] 179 (4 : Int32) = 103 by decide +kernel]
  refine t_go (op := o_aload 104 0) (fe_X11_count 103) (fun _ _ => rfl) ?_
  refine t_go (op := o_getR 107 10 2) (fe_X11_count 104) (g_getR hS (show (lay 1).1 = 10 by decide) (by decide) (fr_10_2 hS) (by decide)) ?_
  refine t_go (op := o_getI 110 1 5) (fe_X11_count 107) (g_getI hS (by decide) (by decide)) ?_
  refine t_ite (op := o_if 113 117 (fun x => x = 0) (fun _ => inferInstance)) (fe_X11_count 110) g_if (fun c1 => ?_) (fun c1 => ?_)
  · refine t_go (op := o_ci 118 0) (fe_X11_count 117) (fun _ _ => rfl) ?_
    refine t_ret (op := o_iret) (fe_X11_count 118) (fun _ _ => rfl) ?_
    exact ⟨congrArg (fun z => some (Value.int z)) (show _ = h.1 5 5 from by rw [c1]), rfl⟩
  · refine t_go (op := o_ci 114 1) (fe_X11_count 113) (fun _ _ => rfl) ?_
    refine t_go (op := o_goto 118) (fe_X11_count 114) (fun _ _ => rfl) ?_
    refine t_ret (op := o_iret) (fe_X11_count 118) (fun _ _ => rfl) ?_
    exact ⟨congrArg (fun z => some (Value.int z)) (show _ = h.1 5 5 from by rw [hzz.resolve_left c1]), rfl⟩
theorem c_count5 {d : Nat} {h : AHP} {g n m : Nat} (hS : Std h) (hg : (lay g).1 = 3) (hg7 : h.2.2.1 1 7 = g) (hL : LawOK h g n) (hM : h.1 g 4 = nI m) (hm : m ≤ 7) (hz : NZ h)  : MM (d + 3) 148 [.ref 1, .int (5)] h (fun v h2 => v = some (.int (heatV (fs h 5))) ∧ h2 = h) := by
  refine ⟨Nat.le_of_ble_eq_true rfl, ?_⟩
  obtain ⟨hN2, hzz⟩ := NZ_F hS hz (f := 5) (by decide)
  have hN := (NZ_F hS hz (f := 136) (by decide)).1
  have hR := (NZ_F hS hz (f := 143) (by decide)).1
  have hgp : 0 < g := (lay_lt hg (by decide)).1
  have hF : fs h 5 = fs h 5 := rfl
  refine t_go (op := o_iload 1 1) (fe_X11_count 0) (fun _ _ => rfl) ?_
  refine t_go (op := o_sw (swT 0 [64, 72, 80, 88, 103, 119, 127, 135, 147, 155, 163, 171] 179)) (fe_X11_count 1) (fun _ _ => rfl) ?_
  rw [show swT 0 [64, 72, 80, 88, 103, 119, 127, 135, 147, 155, 163, 171] 179 (5 : Int32) = 119 by decide +kernel]
  refine t_go (op := o_aload 120 0) (fe_X11_count 119) (fun _ _ => rfl) ?_
  refine t_go (op := o_getR 123 10 2) (fe_X11_count 120) (g_getR hS (show (lay 1).1 = 10 by decide) (by decide) (fr_10_2 hS) (by decide)) ?_
  refine t_call (op := o_callV 126 21 1 1) (fe_X11_count 123) (g_callV hS (by decide) (by decide) rfl rfl rfl (Nat.le_of_ble_eq_true rfl)) ?_
  refine M_eq (a_heatOfAll hS (by decide) hF) ?_
  refine t_ret (op := o_iret) (fe_X11_count 126) (fun _ _ => rfl) ?_
  exact ⟨rfl, rfl⟩
theorem c_count6 {d : Nat} {h : AHP} {g n m : Nat} (hS : Std h) (hg : (lay g).1 = 3) (hg7 : h.2.2.1 1 7 = g) (hL : LawOK h g n) (hM : h.1 g 4 = nI m) (hm : m ≤ 7) (hz : NZ h)  : MM (d + 3) 148 [.ref 1, .int (6)] h (fun v h2 => v = some (.int (it (sumS (fs h 5).2.2.1) 7 0 0)) ∧ h2 = h) := by
  refine ⟨Nat.le_of_ble_eq_true rfl, ?_⟩
  obtain ⟨hN2, hzz⟩ := NZ_F hS hz (f := 5) (by decide)
  have hN := (NZ_F hS hz (f := 136) (by decide)).1
  have hR := (NZ_F hS hz (f := 143) (by decide)).1
  have hgp : 0 < g := (lay_lt hg (by decide)).1
  have hF : fs h 5 = fs h 5 := rfl
  refine t_go (op := o_iload 1 1) (fe_X11_count 0) (fun _ _ => rfl) ?_
  refine t_go (op := o_sw (swT 0 [64, 72, 80, 88, 103, 119, 127, 135, 147, 155, 163, 171] 179)) (fe_X11_count 1) (fun _ _ => rfl) ?_
  rw [show swT 0 [64, 72, 80, 88, 103, 119, 127, 135, 147, 155, 163, 171] 179 (6 : Int32) = 127 by decide +kernel]
  refine t_go (op := o_aload 128 0) (fe_X11_count 127) (fun _ _ => rfl) ?_
  refine t_go (op := o_getR 131 10 2) (fe_X11_count 128) (g_getR hS (show (lay 1).1 = 10 by decide) (by decide) (fr_10_2 hS) (by decide)) ?_
  refine t_call (op := o_callV 134 22 1 1) (fe_X11_count 131) (g_callV hS (by decide) (by decide) rfl rfl rfl (Nat.le_of_ble_eq_true rfl)) ?_
  refine M_eq (a_fuelOfAll hS (by decide) hF) ?_
  refine t_ret (op := o_iret) (fe_X11_count 134) (fun _ _ => rfl) ?_
  exact ⟨rfl, rfl⟩
theorem c_count7 {d : Nat} {h : AHP} {g n m : Nat} (hS : Std h) (hg : (lay g).1 = 3) (hg7 : h.2.2.1 1 7 = g) (hL : LawOK h g n) (hM : h.1 g 4 = nI m) (hm : m ≤ 7) (hz : NZ h)  : MM (d + 3) 148 [.ref 1, .int (7)] h (fun v h2 => v = some (.int (it (ashS (fs h 5) (nI m)) 7 0 0)) ∧ h2 = h) := by
  refine ⟨Nat.le_of_ble_eq_true rfl, ?_⟩
  obtain ⟨hN2, hzz⟩ := NZ_F hS hz (f := 5) (by decide)
  have hN := (NZ_F hS hz (f := 136) (by decide)).1
  have hR := (NZ_F hS hz (f := 143) (by decide)).1
  have hgp : 0 < g := (lay_lt hg (by decide)).1
  have hF : fs h 5 = fs h 5 := rfl
  refine t_go (op := o_iload 1 1) (fe_X11_count 0) (fun _ _ => rfl) ?_
  refine t_go (op := o_sw (swT 0 [64, 72, 80, 88, 103, 119, 127, 135, 147, 155, 163, 171] 179)) (fe_X11_count 1) (fun _ _ => rfl) ?_
  rw [show swT 0 [64, 72, 80, 88, 103, 119, 127, 135, 147, 155, 163, 171] 179 (7 : Int32) = 135 by decide +kernel]
  refine t_go (op := o_aload 136 0) (fe_X11_count 135) (fun _ _ => rfl) ?_
  refine t_go (op := o_getR 139 10 2) (fe_X11_count 136) (g_getR hS (show (lay 1).1 = 10 by decide) (by decide) (fr_10_2 hS) (by decide)) ?_
  refine t_go (op := o_aload 140 0) (fe_X11_count 139) (fun _ _ => rfl) ?_
  refine t_go (op := o_getR 143 10 7) (fe_X11_count 140) (g_getR hS (show (lay 1).1 = 10 by decide) (by decide) hg7 hgp) ?_
  refine t_call (op := o_callV 146 19 2 1) (fe_X11_count 143) (g_callV hS (by decide) (by decide) rfl rfl rfl (Nat.le_of_ble_eq_true rfl)) ?_
  refine M_eq (a_ashBits hS (by decide) hg hF) ?_
  refine t_ret (op := o_iret) (fe_X11_count 146) (fun _ _ => rfl) ?_
  exact ⟨by rw [hM], rfl⟩
theorem c_count8 {d : Nat} {h : AHP} {g n m : Nat} (hS : Std h) (hg : (lay g).1 = 3) (hg7 : h.2.2.1 1 7 = g) (hL : LawOK h g n) (hM : h.1 g 4 = nI m) (hm : m ≤ 7) (hz : NZ h) {ev : Nat} (hv : (lay ev).1 = 0) (hv9 : h.2.2.1 1 9 = ev) : MM (d + 3) 148 [.ref 1, .int (8)] h (fun v h2 => v = some (.int (h.1 ev 3)) ∧ h2 = h) := by
  refine ⟨Nat.le_of_ble_eq_true rfl, ?_⟩
  obtain ⟨hN2, hzz⟩ := NZ_F hS hz (f := 5) (by decide)
  have hN := (NZ_F hS hz (f := 136) (by decide)).1
  have hR := (NZ_F hS hz (f := 143) (by decide)).1
  have hgp : 0 < g := (lay_lt hg (by decide)).1
  have hF : fs h 5 = fs h 5 := rfl
  have hvp : 0 < ev := (lay_lt hv (by decide)).1
  refine t_go (op := o_iload 1 1) (fe_X11_count 0) (fun _ _ => rfl) ?_
  refine t_go (op := o_sw (swT 0 [64, 72, 80, 88, 103, 119, 127, 135, 147, 155, 163, 171] 179)) (fe_X11_count 1) (fun _ _ => rfl) ?_
  rw [show swT 0 [64, 72, 80, 88, 103, 119, 127, 135, 147, 155, 163, 171] 179 (8 : Int32) = 147 by decide +kernel]
  refine t_go (op := o_aload 148 0) (fe_X11_count 147) (fun _ _ => rfl) ?_
  refine t_go (op := o_getR 151 10 9) (fe_X11_count 148) (g_getR hS (show (lay 1).1 = 10 by decide) (by decide) hv9 hvp) ?_
  refine t_go (op := o_getI 154 0 3) (fe_X11_count 151) (g_getI hS hv (by decide)) ?_
  refine t_ret (op := o_iret) (fe_X11_count 154) (fun _ _ => rfl) ?_
  exact ⟨rfl, rfl⟩
theorem c_count9 {d : Nat} {h : AHP} {g n m : Nat} (hS : Std h) (hg : (lay g).1 = 3) (hg7 : h.2.2.1 1 7 = g) (hL : LawOK h g n) (hM : h.1 g 4 = nI m) (hm : m ≤ 7) (hz : NZ h)  : MM (d + 3) 148 [.ref 1, .int (9)] h (fun v h2 => v = some (.int (h.1 10 3)) ∧ h2 = h) := by
  refine ⟨Nat.le_of_ble_eq_true rfl, ?_⟩
  obtain ⟨hN2, hzz⟩ := NZ_F hS hz (f := 5) (by decide)
  have hN := (NZ_F hS hz (f := 136) (by decide)).1
  have hR := (NZ_F hS hz (f := 143) (by decide)).1
  have hgp : 0 < g := (lay_lt hg (by decide)).1
  have hF : fs h 5 = fs h 5 := rfl
  refine t_go (op := o_iload 1 1) (fe_X11_count 0) (fun _ _ => rfl) ?_
  refine t_go (op := o_sw (swT 0 [64, 72, 80, 88, 103, 119, 127, 135, 147, 155, 163, 171] 179)) (fe_X11_count 1) (fun _ _ => rfl) ?_
  rw [show swT 0 [64, 72, 80, 88, 103, 119, 127, 135, 147, 155, 163, 171] 179 (9 : Int32) = 155 by decide +kernel]
  refine t_go (op := o_aload 156 0) (fe_X11_count 155) (fun _ _ => rfl) ?_
  refine t_go (op := o_getR 159 10 3) (fe_X11_count 156) (g_getR hS (show (lay 1).1 = 10 by decide) (by decide) (fr_10_3 hS) (by decide)) ?_
  refine t_go (op := o_getI 162 9 3) (fe_X11_count 159) (g_getI hS (by decide) (by decide)) ?_
  refine t_ret (op := o_iret) (fe_X11_count 162) (fun _ _ => rfl) ?_
  exact ⟨rfl, rfl⟩
theorem c_count10 {d : Nat} {h : AHP} {g n m : Nat} (hS : Std h) (hg : (lay g).1 = 3) (hg7 : h.2.2.1 1 7 = g) (hL : LawOK h g n) (hM : h.1 g 4 = nI m) (hm : m ≤ 7) (hz : NZ h)  : MM (d + 3) 148 [.ref 1, .int (10)] h (fun v h2 => v = some (.int (h.1 14 5)) ∧ h2 = h) := by
  refine ⟨Nat.le_of_ble_eq_true rfl, ?_⟩
  obtain ⟨hN2, hzz⟩ := NZ_F hS hz (f := 5) (by decide)
  have hN := (NZ_F hS hz (f := 136) (by decide)).1
  have hR := (NZ_F hS hz (f := 143) (by decide)).1
  have hgp : 0 < g := (lay_lt hg (by decide)).1
  have hF : fs h 5 = fs h 5 := rfl
  refine t_go (op := o_iload 1 1) (fe_X11_count 0) (fun _ _ => rfl) ?_
  refine t_go (op := o_sw (swT 0 [64, 72, 80, 88, 103, 119, 127, 135, 147, 155, 163, 171] 179)) (fe_X11_count 1) (fun _ _ => rfl) ?_
  rw [show swT 0 [64, 72, 80, 88, 103, 119, 127, 135, 147, 155, 163, 171] 179 (10 : Int32) = 163 by decide +kernel]
  refine t_go (op := o_aload 164 0) (fe_X11_count 163) (fun _ _ => rfl) ?_
  refine t_go (op := o_getR 167 10 4) (fe_X11_count 164) (g_getR hS (show (lay 1).1 = 10 by decide) (by decide) (fr_10_4 hS) (by decide)) ?_
  refine t_go (op := o_getI 170 5 5) (fe_X11_count 167) (g_getI hS (by decide) (by decide)) ?_
  refine t_ret (op := o_iret) (fe_X11_count 170) (fun _ _ => rfl) ?_
  exact ⟨rfl, rfl⟩
theorem c_count11 {d : Nat} {h : AHP} {g n m : Nat} (hS : Std h) (hg : (lay g).1 = 3) (hg7 : h.2.2.1 1 7 = g) (hL : LawOK h g n) (hM : h.1 g 4 = nI m) (hm : m ≤ 7) (hz : NZ h)  : MM (d + 3) 148 [.ref 1, .int (11)] h (fun v h2 => v = some (.int (h.1 2 1)) ∧ h2 = h) := by
  refine ⟨Nat.le_of_ble_eq_true rfl, ?_⟩
  obtain ⟨hN2, hzz⟩ := NZ_F hS hz (f := 5) (by decide)
  have hN := (NZ_F hS hz (f := 136) (by decide)).1
  have hR := (NZ_F hS hz (f := 143) (by decide)).1
  have hgp : 0 < g := (lay_lt hg (by decide)).1
  have hF : fs h 5 = fs h 5 := rfl
  refine t_go (op := o_iload 1 1) (fe_X11_count 0) (fun _ _ => rfl) ?_
  refine t_go (op := o_sw (swT 0 [64, 72, 80, 88, 103, 119, 127, 135, 147, 155, 163, 171] 179)) (fe_X11_count 1) (fun _ _ => rfl) ?_
  rw [show swT 0 [64, 72, 80, 88, 103, 119, 127, 135, 147, 155, 163, 171] 179 (11 : Int32) = 171 by decide +kernel]
  refine t_go (op := o_aload 172 0) (fe_X11_count 171) (fun _ _ => rfl) ?_
  refine t_go (op := o_getR 175 10 0) (fe_X11_count 172) (g_getR hS (show (lay 1).1 = 10 by decide) (by decide) (fr_10_0 hS) (by decide)) ?_
  refine t_go (op := o_getI 178 8 1) (fe_X11_count 175) (g_getI hS (by decide) (by decide)) ?_
  refine t_ret (op := o_iret) (fe_X11_count 178) (fun _ _ => rfl) ?_
  exact ⟨rfl, rfl⟩
theorem c_countF {d : Nat} {h : AHP} {x : Int32} (hn : x.toInt < 0 ∨ 12 ≤ x.toInt) : MM (d + 3) 148 [.ref 1, .int x] h (fun v h2 => v = some (.int (-1)) ∧ h2 = h) := by
  refine ⟨Nat.le_of_ble_eq_true rfl, ?_⟩
  refine t_go (op := o_iload 1 1) (fe_X11_count 0) (fun _ _ => rfl) ?_
  refine t_go (op := o_sw (swT 0 [64, 72, 80, 88, 103, 119, 127, 135, 147, 155, 163, 171] 179)) (fe_X11_count 1) (fun _ _ => rfl) ?_
  refine t_swT (fun c1 => ?_) (fun jj hj c1 => ?_)
  · refine t_go (op := o_ci 180 (-1)) (fe_X11_count 179) (fun _ _ => rfl) ?_
    refine t_ret (op := o_iret) (fe_X11_count 180) (fun _ _ => rfl) ?_
    exact ⟨rfl, rfl⟩
  · exfalso
    have : jj < 12 := hj
    omega
