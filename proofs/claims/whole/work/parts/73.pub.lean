/-! ===== the class: deeds ===== -/
/-- a deed: the fire ahead of it is kept -/
def DD (h h2 : AHP) (N u : Nat) (F2 : FS) : Prop := h2.2 = h.2 ∧ (∀ a, ¬ (5 ≤ a ∧ a ≤ 9) → a ≠ 14 → ¬ (19 + 5 * (N % 16) ≤ a ∧ a < 24 + 5 * (N % 16)) → ¬ scrA a → h2.1 a = h.1 a) ∧ fs h2 5 = F2 ∧ fs h2 (19 + 5 * (N % 16)) = fs h 5 ∧ h2.1 14 4 = nI (N + 1) ∧ h2.1 14 5 = nI (kpU u)
theorem DD.std {h h2 : AHP} {N u : Nat} {F2 : FS} (hD : DD h h2 N u F2) (hS : Std h) : Std h2 := by
  unfold Std at hS ⊢
  rw [hD.1]
  exact hS
theorem DD.set {h k k' : AHP} {N u : Nat} {F F2 : FS} (hD : DD h k N u F) (hs : Sc k k') : DD h (setF k' 5 F2) N u F2 := by
  refine ⟨hs.1.trans hD.1, fun a h1 h2 h3 h4 => ?_, fs_setF, ?_, ?_, ?_⟩
  · rw [setF_row (by omega), hs.2 a h4]; exact hD.2.1 a h1 h2 h3 h4
  · rw [fs_ne (by omega), show fs k' (19 + 5 * (N % 16)) = fs k (19 + 5 * (N % 16)) from ?_]
    · exact hD.2.2.2.1
    · have h16 : N % 16 < 16 := Nat.mod_lt _ (by decide)
      unfold fs
      rw [hs.2 _ (by omega), hs.2 _ (by omega), hs.2 _ (by omega), hs.2 _ (by omega), hs.2 _ (by omega)]
  · rw [setF_at (by omega), hs.2 14 (by omega)]; exact hD.2.2.2.2.1
  · rw [setF_at (by omega), hs.2 14 (by omega)]; exact hD.2.2.2.2.2
theorem and_15 {N : Nat} (hN : N < 2000) : nI N &&& 15 = nI (N % 16) := by
  have h1 : ∀ a, a < 16 → ∀ b, b < 128 → nI (16 * b + a) &&& 15 = nI a := by decide +kernel
  have h2 := h1 (N % 16) (Nat.mod_lt _ (by decide)) (N / 16) (by omega)
  rw [show 16 * (N / 16) + N % 16 = N by omega] at h2
  exact h2
theorem c_keep {d : Nat} {h : AHP} {N u : Nat} (hS : Std h) (hz : NZ h) (hN : h.1 14 4 = nI N) (hN2 : N < 2000) (hu : h.1 14 5 = nI u) (h16 : u ≤ 16) : MM (d + 1) 63 [.ref 14, .ref 5] h (fun v h2 => v = none ∧ DD h h2 N u (fs h 5)) := by
  have hj : N % 16 < 16 := Nat.mod_lt _ (by decide)
  obtain ⟨hNF, hzz⟩ := NZ_F hS hz (f := 5) (by decide)
  obtain ⟨hNK, _⟩ := NZ_F hS hz (f := 19 + 5 * (N % 16)) (ly_kept hj)
  refine M_mono ?_ (m_keep hS hj (by rw [hN, and_15 hN2]) hzz)
  rintro _ _ ⟨rfl, rfl⟩
  refine ⟨rfl, rfl, fun a h1 h2 h3 _ => ?_, ?_, ?_, ?_, ?_⟩
  · show (sI (sI (setF h _ _) 14 4 _) 14 5 _).1 a = _
    rw [sI_ne h2, sI_ne h2, setF_row (by omega)]
  · show fs (sI (sI (setF h _ _) 14 4 _) 14 5 _) 5 = _
    have e : ∀ k i v, fs (sI k 14 i v) 5 = fs k 5 := fun k i v => by unfold fs; rw [sI_ne (by decide), sI_ne (by decide), sI_ne (by decide), sI_ne (by decide), sI_ne (by decide)]
    rw [e, e, fs_ne (by omega)]
  · show fs (sI (sI (setF h _ _) 14 4 _) 14 5 _) _ = _
    have e : ∀ k i v, fs (sI k 14 i v) (19 + 5 * (N % 16)) = fs k (19 + 5 * (N % 16)) := fun k i v => by unfold fs; rw [sI_ne (by omega), sI_ne (by omega), sI_ne (by omega), sI_ne (by omega), sI_ne (by omega)]
    rw [e, e, fs_setF, bec_eq hNK hNF]
  · show (sI (sI (setF h _ _) 14 4 _) 14 5 _).1 14 4 = _
    rw [sI_nr (by decide), sI_eq, setF_at (by omega), hN, nI_1]
  · show (sI (sI (setF h _ _) 14 4 _) 14 5 _).1 14 5 = _
    rw [sI_eq, sI_nr (by decide), setF_at (by omega), hu, nI_1]
    unfold kpU
    by_cases h : u = 16
    · rw [if_pos h, if_neg (show ¬ nI (u + 1) < 16 from nI_nlt (b := 16) (by omega) (by omega))]; rfl
    · rw [if_neg h]
      by_cases h2 : u + 1 < 16
      · rw [if_pos (show nI (u + 1) < 16 from nI_lt (b := 16) h2 (by omega))]
      · rw [if_neg (show ¬ nI (u + 1) < 16 from nI_nlt (b := 16) (by omega) (by omega)), show u + 1 = 16 by omega]; rfl
theorem HB_dd {h k : AHP} {g n N u : Nat} {F : FS} {b : Int32} (hg : (lay g).1 = 3) (hD : DD h k N u F) : lawV k g n = lawV h g n ∧ k.1 (g + 2) = h.1 (g + 2) ∧ k.1 g 5 = h.1 g 5 ∧ (∀ t, drV k g t = drV h g t) ∧ (LawOK h g n → LawOK k g n) ∧ k.1 g 4 = h.1 g 4 := by
  have h16 : N % 16 < 16 := Nat.mod_lt _ (by decide)
  have e : ∀ a, (a = g ∨ a = g + 2 ∨ a = g + 8 ∨ a = g + 9 ∨ a = g + 12) → k.1 a = h.1 a := fun a ha => hD.2.1 a (by rcases grate_scr hg with q | q <;> subst q <;> omega) (by rcases grate_scr hg with q | q <;> subst q <;> omega) (by rcases grate_scr hg with q | q <;> subst q <;> omega) (by rcases grate_scr hg with q | q <;> subst q <;> omega)
  refine ⟨?_, e _ (by omega), by rw [e g (by omega)], fun t => ?_, fun hL => ?_, by rw [e g (by omega)]⟩
  · unfold lawV; rw [e (g + 9) (by omega)]
  · unfold drV; rw [e g (by omega), e (g + 12) (by omega)]
  · unfold LawOK at hL ⊢; rw [e (g + 8) (by omega), e (g + 9) (by omega)]; exact hL
theorem n_passA {d : Nat} {k : AHP} {f g n : Nat} {F : FS} {b : Int32} (hS : Std k) (hf : (lay f).1 = 1) (hg : (lay g).1 = 3) (hL : LawOK k g n) (hF : fs k f = F) : MM (d + 4) 17 [.ref f, .ref g, .int b] k (fun v h2 => v = some (.int (passF (lawV k g n) (k.1 (g + 2)) (k.1 g 5) (airV k g b F) F).2) ∧ ∃ k2, Sc k k2 ∧ h2 = setF k2 f (passF (lawV k g n) (k.1 (g + 2)) (k.1 g 5) (airV k g b F) F).1) := by
  have q := m_pass (d := d) (h := k) (f := f) (g := g) (F := F) (b := b) hS hf hg hL
  rw [← hF, setF_fs] at q
  rw [← hF]
  exact q
theorem c_hour {d : Nat} {h : AHP} {g n m : Nat} (hS : Std h) (hg : (lay g).1 = 3) (hg7 : h.2.2.1 1 7 = g) (hL : LawOK h g n) (hM : h.1 g 4 = nI m) (hm : m ≤ 7) (hz : NZ h) {N u : Nat} (hN4 : h.1 14 4 = nI N) (hN2k : N < 2000) (hu : h.1 14 5 = nI u) (h16 : u ≤ 16)  : MM (d + 6) 114 [.ref 1] h (fun v h2 => v = some (.int ((HB h g n 1 (fs h 5)).2)) ∧ DD h h2 N u (HF h g n (fs h 5))) := by
  refine ⟨Nat.le_of_ble_eq_true rfl, ?_⟩
  obtain ⟨hN2, hzz⟩ := NZ_F hS hz (f := 5) (by decide)
  have hN := (NZ_F hS hz (f := 136) (by decide)).1
  have hR := (NZ_F hS hz (f := 143) (by decide)).1
  have hgp : 0 < g := (lay_lt hg (by decide)).1
  have hF : fs h 5 = fs h 5 := rfl
  refine t_go (op := o_aload 1 0) (fe_X11_hour 0) (fun _ _ => rfl) ?_
  refine t_go (op := o_getR 4 10 4) (fe_X11_hour 1) (g_getR hS (show (lay 1).1 = 10 by decide) (by decide) (fr_10_4 hS) (by decide)) ?_
  refine t_go (op := o_aload 5 0) (fe_X11_hour 4) (fun _ _ => rfl) ?_
  refine t_go (op := o_getR 8 10 2) (fe_X11_hour 5) (g_getR hS (show (lay 1).1 = 10 by decide) (by decide) (fr_10_2 hS) (by decide)) ?_
  refine t_call (op := o_callV 11 63 2 5) (fe_X11_hour 8) (g_callV hS (by decide) (by decide) rfl rfl rfl (Nat.le_of_ble_eq_true rfl)) ?_
  refine M_mono ?_ (c_keep hS hz hN4 hN2k hu h16)
  rintro _ h2 ⟨rfl, hD⟩
  replace hS := hD.std hS
  have hF2 := hD.2.2.1
  have hg72 : h2.2.2.1 1 7 = g := by rw [hD.1]; exact hg7
  refine t_go (op := o_aload 12 0) (fe_X11_hour 11) (fun _ _ => rfl) ?_
  refine t_go (op := o_getR 15 10 2) (fe_X11_hour 12) (g_getR hS (show (lay 1).1 = 10 by decide) (by decide) (fr_10_2 hS) (by decide)) ?_
  refine t_go (op := o_aload 16 0) (fe_X11_hour 15) (fun _ _ => rfl) ?_
  refine t_go (op := o_getR 19 10 7) (fe_X11_hour 16) (g_getR hS (show (lay 1).1 = 10 by decide) (by decide) hg72 hgp) ?_
  refine t_go (op := o_ci 20 1) (fe_X11_hour 19) (fun _ _ => rfl) ?_
  refine t_call (op := o_callV 23 17 3 1) (fe_X11_hour 20) (g_callV hS (by decide) (by decide) rfl rfl rfl (Nat.le_of_ble_eq_true rfl)) ?_
  obtain ⟨q1, q2, q3, q4, q5, _⟩ := HB_dd (n := n) (b := 1) hg hD
  refine M_mono ?_ (n_passA hS (by decide) hg (q5 hL) hF2)
  rintro _ _ ⟨rfl, k3, hs3, rfl⟩
  rw [q1, q2, q3, show airV h2 g 1 (fs h 5) = airV h g 1 (fs h 5) from by unfold airV; rw [q4]]
  refine t_ret (op := o_iret) (fe_X11_hour 23) (fun _ _ => rfl) ?_
  exact ⟨rfl, hD.set hs3⟩
theorem c_poke {d : Nat} {h : AHP} {g n m : Nat} (hS : Std h) (hg : (lay g).1 = 3) (hg7 : h.2.2.1 1 7 = g) (hL : LawOK h g n) (hM : h.1 g 4 = nI m) (hm : m ≤ 7) (hz : NZ h) {N u : Nat} (hN4 : h.1 14 4 = nI N) (hN2k : N < 2000) (hu : h.1 14 5 = nI u) (h16 : u ≤ 16) {e : Nat} (he : e < 7) (hh : hasF (fs h 5) (nI e)) : MM (d + 5) 115 [.ref 1, .int (nI e)] h (fun v h2 => v = some (.int ((stokeF (fs h 5) (nI e)).1 e)) ∧ DD h h2 N u (stokeF (fs h 5) (nI e))) := by
  refine ⟨Nat.le_of_ble_eq_true rfl, ?_⟩
  obtain ⟨hN2, hzz⟩ := NZ_F hS hz (f := 5) (by decide)
  have hN := (NZ_F hS hz (f := 136) (by decide)).1
  have hR := (NZ_F hS hz (f := 143) (by decide)).1
  have hgp : 0 < g := (lay_lt hg (by decide)).1
  have hF : fs h 5 = fs h 5 := rfl
  refine t_go (op := o_aload 1 0) (fe_X11_poke 0) (fun _ _ => rfl) ?_
  refine t_go (op := o_getR 4 10 2) (fe_X11_poke 1) (g_getR hS (show (lay 1).1 = 10 by decide) (by decide) (fr_10_2 hS) (by decide)) ?_
  refine t_go (op := o_iload 5 1) (fe_X11_poke 4) (fun _ _ => rfl) ?_
  refine t_call (op := o_callV 8 8 2 1) (fe_X11_poke 5) (g_callV hS (by decide) (by decide) rfl rfl rfl (Nat.le_of_ble_eq_true rfl)) ?_
  refine M_eq (a_has hS (by decide) hF) ?_
  refine t_ite (op := o_if 13 11 (fun x => x = 0) (fun _ => inferInstance)) (fe_X11_poke 8) g_if (fun c1 => ?_) (fun c1 => ?_)
  · exact absurd hh (b2i_z c1)
  · replace c1 := b2i_nn c1
    refine t_go (op := o_aload 14 0) (fe_X11_poke 13) (fun _ _ => rfl) ?_
    refine t_go (op := o_getR 17 10 4) (fe_X11_poke 14) (g_getR hS (show (lay 1).1 = 10 by decide) (by decide) (fr_10_4 hS) (by decide)) ?_
    refine t_go (op := o_aload 18 0) (fe_X11_poke 17) (fun _ _ => rfl) ?_
    refine t_go (op := o_getR 21 10 2) (fe_X11_poke 18) (g_getR hS (show (lay 1).1 = 10 by decide) (by decide) (fr_10_2 hS) (by decide)) ?_
    refine t_call (op := o_callV 24 63 2 5) (fe_X11_poke 21) (g_callV hS (by decide) (by decide) rfl rfl rfl (Nat.le_of_ble_eq_true rfl)) ?_
    refine M_mono ?_ (c_keep hS hz hN4 hN2k hu h16)
    rintro _ h2 ⟨rfl, hD⟩
    replace hS := hD.std hS
    have hF2 := hD.2.2.1
    have hg72 : h2.2.2.1 1 7 = g := by rw [hD.1]; exact hg7
    refine t_go (op := o_aload 25 0) (fe_X11_poke 24) (fun _ _ => rfl) ?_
    refine t_go (op := o_getR 28 10 2) (fe_X11_poke 25) (g_getR hS (show (lay 1).1 = 10 by decide) (by decide) (fr_10_2 hS) (by decide)) ?_
    refine t_go (op := o_iload 29 1) (fe_X11_poke 28) (fun _ _ => rfl) ?_
    refine t_call (op := o_callV 32 15 2 1) (fe_X11_poke 29) (g_callV hS (by decide) (by decide) rfl rfl rfl (Nat.le_of_ble_eq_true rfl)) ?_
    have q9 := n_stoke (d := d + 2) (e := nI e) (h := h2) (F := fs h 5) hS (show (lay 5).1 = 1 by decide)
    rw [show setF h2 5 (fs h 5) = h2 from by rw [← hF2]; exact setF_fs] at q9
    refine M_mono ?_ q9
    rintro _ _ ⟨rfl, rfl⟩
    have hD3 := hD.set Sc.rf (F2 := stokeF (fs h 5) (nI e))
    refine t_go (op := o_aload 33 0) (fe_X11_poke 32) (fun _ _ => rfl) ?_
    refine t_go (op := o_getR 36 10 2) (fe_X11_poke 33) (g_getR hS (show (lay 1).1 = 10 by decide) (by decide) (fr_10_2 hS) (by decide)) ?_
    refine t_go (op := o_getR 39 1 0) (fe_X11_poke 36) (g_getR hS (by decide) (by decide) (fr_1_0 hS (by decide)) (Nat.succ_pos _)) ?_
    refine t_go (op := o_iload 40 1) (fe_X11_poke 39) (fun _ _ => rfl) ?_
    refine t_go (op := o_iald 41) (fe_X11_poke 40) (g_ialdN hS (ly_1_1 (by decide)) rfl (by omega) (by decide)) ?_
    refine t_ret (op := o_iret) (fe_X11_poke 41) (fun _ _ => rfl) ?_
    exact ⟨by rw [rd_1], hD3⟩
theorem c_pokeF {d : Nat} {h : AHP} {g n m : Nat} (hS : Std h) (hg : (lay g).1 = 3) (hg7 : h.2.2.1 1 7 = g) (hL : LawOK h g n) (hM : h.1 g 4 = nI m) (hm : m ≤ 7) (hz : NZ h) {N u : Nat} (hN4 : h.1 14 4 = nI N) (hN2k : N < 2000) (hu : h.1 14 5 = nI u) (h16 : u ≤ 16) {x : Int32} (hh : ¬ hasF (fs h 5) x) : MM (d + 5) 115 [.ref 1, .int x] h (fun v h2 => v = some (.int (-1)) ∧ h2 = h) := by
  refine ⟨Nat.le_of_ble_eq_true rfl, ?_⟩
  obtain ⟨hN2, hzz⟩ := NZ_F hS hz (f := 5) (by decide)
  have hN := (NZ_F hS hz (f := 136) (by decide)).1
  have hR := (NZ_F hS hz (f := 143) (by decide)).1
  have hgp : 0 < g := (lay_lt hg (by decide)).1
  have hF : fs h 5 = fs h 5 := rfl
  refine t_go (op := o_aload 1 0) (fe_X11_poke 0) (fun _ _ => rfl) ?_
  refine t_go (op := o_getR 4 10 2) (fe_X11_poke 1) (g_getR hS (show (lay 1).1 = 10 by decide) (by decide) (fr_10_2 hS) (by decide)) ?_
  refine t_go (op := o_iload 5 1) (fe_X11_poke 4) (fun _ _ => rfl) ?_
  refine t_call (op := o_callV 8 8 2 1) (fe_X11_poke 5) (g_callV hS (by decide) (by decide) rfl rfl rfl (Nat.le_of_ble_eq_true rfl)) ?_
  refine M_eq (a_has hS (by decide) hF) ?_
  refine t_ite (op := o_if 13 11 (fun x => x = 0) (fun _ => inferInstance)) (fe_X11_poke 8) g_if (fun c1 => ?_) (fun c1 => ?_)
  · replace c1 := b2i_z c1
    refine t_go (op := o_ci 12 (-1)) (fe_X11_poke 11) (fun _ _ => rfl) ?_
    refine t_ret (op := o_iret) (fe_X11_poke 12) (fun _ _ => rfl) ?_
    exact ⟨rfl, rfl⟩
  · exact absurd (b2i_nn c1) hh
theorem c_tongs {d : Nat} {h : AHP} {g n m : Nat} (hS : Std h) (hg : (lay g).1 = 3) (hg7 : h.2.2.1 1 7 = g) (hL : LawOK h g n) (hM : h.1 g 4 = nI m) (hm : m ≤ 7) (hz : NZ h) {N u : Nat} (hN4 : h.1 14 4 = nI N) (hN2k : N < 2000) (hu : h.1 14 5 = nI u) (h16 : u ≤ 16) {x y : Int32} (hh : hasF (fs h 5) x ∧ freeF (fs h 5) y) : MM (d + 5) 116 [.ref 1, .int x, .int y] h (fun v h2 => v = some (.int (1)) ∧ DD h h2 N u (carryF (fs h 5) x y)) := by
  refine ⟨Nat.le_of_ble_eq_true rfl, ?_⟩
  obtain ⟨hN2, hzz⟩ := NZ_F hS hz (f := 5) (by decide)
  have hN := (NZ_F hS hz (f := 136) (by decide)).1
  have hR := (NZ_F hS hz (f := 143) (by decide)).1
  have hgp : 0 < g := (lay_lt hg (by decide)).1
  have hF : fs h 5 = fs h 5 := rfl
  refine t_go (op := o_aload 1 0) (fe_X11_tongs 0) (fun _ _ => rfl) ?_
  refine t_go (op := o_getR 4 10 2) (fe_X11_tongs 1) (g_getR hS (show (lay 1).1 = 10 by decide) (by decide) (fr_10_2 hS) (by decide)) ?_
  refine t_go (op := o_iload 5 1) (fe_X11_tongs 4) (fun _ _ => rfl) ?_
  refine t_call (op := o_callV 8 8 2 1) (fe_X11_tongs 5) (g_callV hS (by decide) (by decide) rfl rfl rfl (Nat.le_of_ble_eq_true rfl)) ?_
  refine M_eq (a_has hS (by decide) hF) ?_
  refine t_ite (op := o_if 11 22 (fun x => x = 0) (fun _ => inferInstance)) (fe_X11_tongs 8) g_if (fun c1 => ?_) (fun c1 => ?_)
  · exact absurd hh.1 (b2i_z c1)
  · replace c1 := b2i_nn c1
    refine t_go (op := o_aload 12 0) (fe_X11_tongs 11) (fun _ _ => rfl) ?_
    refine t_go (op := o_getR 15 10 2) (fe_X11_tongs 12) (g_getR hS (show (lay 1).1 = 10 by decide) (by decide) (fr_10_2 hS) (by decide)) ?_
    refine t_go (op := o_iload 16 2) (fe_X11_tongs 15) (fun _ _ => rfl) ?_
    refine t_call (op := o_callV 19 9 2 1) (fe_X11_tongs 16) (g_callV hS (by decide) (by decide) rfl rfl rfl (Nat.le_of_ble_eq_true rfl)) ?_
    refine M_eq (a_isFree hS (by decide) hF) ?_
    refine t_ite (op := o_if 24 22 (fun x => x = 0) (fun _ => inferInstance)) (fe_X11_tongs 19) g_if (fun c2 => ?_) (fun c2 => ?_)
    · exact absurd hh.2 (b2i_z c2)
    · replace c2 := b2i_nn c2
      refine t_go (op := o_aload 25 0) (fe_X11_tongs 24) (fun _ _ => rfl) ?_
      refine t_go (op := o_getR 28 10 4) (fe_X11_tongs 25) (g_getR hS (show (lay 1).1 = 10 by decide) (by decide) (fr_10_4 hS) (by decide)) ?_
      refine t_go (op := o_aload 29 0) (fe_X11_tongs 28) (fun _ _ => rfl) ?_
      refine t_go (op := o_getR 32 10 2) (fe_X11_tongs 29) (g_getR hS (show (lay 1).1 = 10 by decide) (by decide) (fr_10_2 hS) (by decide)) ?_
      refine t_call (op := o_callV 35 63 2 5) (fe_X11_tongs 32) (g_callV hS (by decide) (by decide) rfl rfl rfl (Nat.le_of_ble_eq_true rfl)) ?_
      refine M_mono ?_ (c_keep hS hz hN4 hN2k hu h16)
      rintro _ h2 ⟨rfl, hD⟩
      replace hS := hD.std hS
      have hF2 := hD.2.2.1
      have hg72 : h2.2.2.1 1 7 = g := by rw [hD.1]; exact hg7
      refine t_go (op := o_aload 36 0) (fe_X11_tongs 35) (fun _ _ => rfl) ?_
      refine t_go (op := o_getR 39 10 2) (fe_X11_tongs 36) (g_getR hS (show (lay 1).1 = 10 by decide) (by decide) (fr_10_2 hS) (by decide)) ?_
      refine t_go (op := o_iload 40 1) (fe_X11_tongs 39) (fun _ _ => rfl) ?_
      refine t_go (op := o_iload 41 2) (fe_X11_tongs 40) (fun _ _ => rfl) ?_
      refine t_call (op := o_callV 44 14 3 1) (fe_X11_tongs 41) (g_callV hS (by decide) (by decide) rfl rfl rfl (Nat.le_of_ble_eq_true rfl)) ?_
      have q9 := n_carry (d := d + 3) (e := x) (c := y) (h := h2) (F := fs h 5) hS (show (lay 5).1 = 1 by decide)
      rw [show setF h2 5 (fs h 5) = h2 from by rw [← hF2]; exact setF_fs] at q9
      refine M_mono ?_ q9
      rintro _ _ ⟨rfl, rfl⟩
      have hD3 := hD.set Sc.rf (F2 := carryF (fs h 5) x y)
      refine t_go (op := o_ci 45 1) (fe_X11_tongs 44) (fun _ _ => rfl) ?_
      refine t_ret (op := o_zret) (fe_X11_tongs 45) (g_zret (Or.inr rfl)) ?_
      exact ⟨rfl, hD3⟩
theorem c_tongsF {d : Nat} {h : AHP} {g n m : Nat} (hS : Std h) (hg : (lay g).1 = 3) (hg7 : h.2.2.1 1 7 = g) (hL : LawOK h g n) (hM : h.1 g 4 = nI m) (hm : m ≤ 7) (hz : NZ h) {N u : Nat} (hN4 : h.1 14 4 = nI N) (hN2k : N < 2000) (hu : h.1 14 5 = nI u) (h16 : u ≤ 16) {x y : Int32} (hh : ¬ (hasF (fs h 5) x ∧ freeF (fs h 5) y)) : MM (d + 5) 116 [.ref 1, .int x, .int y] h (fun v h2 => v = some (.int (0)) ∧ h2 = h) := by
  refine ⟨Nat.le_of_ble_eq_true rfl, ?_⟩
  obtain ⟨hN2, hzz⟩ := NZ_F hS hz (f := 5) (by decide)
  have hN := (NZ_F hS hz (f := 136) (by decide)).1
  have hR := (NZ_F hS hz (f := 143) (by decide)).1
  have hgp : 0 < g := (lay_lt hg (by decide)).1
  have hF : fs h 5 = fs h 5 := rfl
  refine t_go (op := o_aload 1 0) (fe_X11_tongs 0) (fun _ _ => rfl) ?_
  refine t_go (op := o_getR 4 10 2) (fe_X11_tongs 1) (g_getR hS (show (lay 1).1 = 10 by decide) (by decide) (fr_10_2 hS) (by decide)) ?_
  refine t_go (op := o_iload 5 1) (fe_X11_tongs 4) (fun _ _ => rfl) ?_
  refine t_call (op := o_callV 8 8 2 1) (fe_X11_tongs 5) (g_callV hS (by decide) (by decide) rfl rfl rfl (Nat.le_of_ble_eq_true rfl)) ?_
  refine M_eq (a_has hS (by decide) hF) ?_
  refine t_ite (op := o_if 11 22 (fun x => x = 0) (fun _ => inferInstance)) (fe_X11_tongs 8) g_if (fun c1 => ?_) (fun c1 => ?_)
  · replace c1 := b2i_z c1
    refine t_go (op := o_ci 23 0) (fe_X11_tongs 22) (fun _ _ => rfl) ?_
    refine t_ret (op := o_zret) (fe_X11_tongs 23) (g_zret (Or.inl rfl)) ?_
    exact ⟨rfl, rfl⟩
  · replace c1 := b2i_nn c1
    refine t_go (op := o_aload 12 0) (fe_X11_tongs 11) (fun _ _ => rfl) ?_
    refine t_go (op := o_getR 15 10 2) (fe_X11_tongs 12) (g_getR hS (show (lay 1).1 = 10 by decide) (by decide) (fr_10_2 hS) (by decide)) ?_
    refine t_go (op := o_iload 16 2) (fe_X11_tongs 15) (fun _ _ => rfl) ?_
    refine t_call (op := o_callV 19 9 2 1) (fe_X11_tongs 16) (g_callV hS (by decide) (by decide) rfl rfl rfl (Nat.le_of_ble_eq_true rfl)) ?_
    refine M_eq (a_isFree hS (by decide) hF) ?_
    refine t_ite (op := o_if 24 22 (fun x => x = 0) (fun _ => inferInstance)) (fe_X11_tongs 19) g_if (fun c2 => ?_) (fun c2 => ?_)
    · replace c2 := b2i_z c2
      refine t_go (op := o_ci 23 0) (fe_X11_tongs 22) (fun _ _ => rfl) ?_
      refine t_ret (op := o_zret) (fe_X11_tongs 23) (g_zret (Or.inl rfl)) ?_
      exact ⟨rfl, rfl⟩
    · exact absurd ⟨c1, b2i_nn c2⟩ hh
theorem c_fuel {d : Nat} {h : AHP} {g n m : Nat} (hS : Std h) (hg : (lay g).1 = 3) (hg7 : h.2.2.1 1 7 = g) (hL : LawOK h g n) (hM : h.1 g 4 = nI m) (hm : m ≤ 7) (hz : NZ h) {N u : Nat} (hN4 : h.1 14 4 = nI N) (hN2k : N < 2000) (hu : h.1 14 5 = nI u) (h16 : u ≤ 16) {e : Nat} {y : Int32} (he : e < 7) (hh : hasF (fs h 5) (nI e)) (hy : ¬ y < 1 ∧ ¬ 9 < y) : MM (d + 5) 117 [.ref 1, .int (nI e), .int y] h (fun v h2 => v = some (.int ((addFuelF (fs h 5) (nI e) y).2.2.1 e)) ∧ DD h h2 N u (addFuelF (fs h 5) (nI e) y)) := by
  refine ⟨Nat.le_of_ble_eq_true rfl, ?_⟩
  obtain ⟨hN2, hzz⟩ := NZ_F hS hz (f := 5) (by decide)
  have hN := (NZ_F hS hz (f := 136) (by decide)).1
  have hR := (NZ_F hS hz (f := 143) (by decide)).1
  have hgp : 0 < g := (lay_lt hg (by decide)).1
  have hF : fs h 5 = fs h 5 := rfl
  refine t_go (op := o_aload 1 0) (fe_X11_fuel 0) (fun _ _ => rfl) ?_
  refine t_go (op := o_getR 4 10 2) (fe_X11_fuel 1) (g_getR hS (show (lay 1).1 = 10 by decide) (by decide) (fr_10_2 hS) (by decide)) ?_
  refine t_go (op := o_iload 5 1) (fe_X11_fuel 4) (fun _ _ => rfl) ?_
  refine t_call (op := o_callV 8 8 2 1) (fe_X11_fuel 5) (g_callV hS (by decide) (by decide) rfl rfl rfl (Nat.le_of_ble_eq_true rfl)) ?_
  refine M_eq (a_has hS (by decide) hF) ?_
  refine t_ite (op := o_if 11 22 (fun x => x = 0) (fun _ => inferInstance)) (fe_X11_fuel 8) g_if (fun c1 => ?_) (fun c1 => ?_)
  · exact absurd hh (b2i_z c1)
  · replace c1 := b2i_nn c1
    refine t_go (op := o_iload 12 2) (fe_X11_fuel 11) (fun _ _ => rfl) ?_
    refine t_go (op := o_ci 13 1) (fe_X11_fuel 12) (fun _ _ => rfl) ?_
    refine t_ite (op := o_icmp 16 22 (fun x y => x < y) (fun _ _ => inferInstance)) (fe_X11_fuel 13) g_icmp (fun c2 => ?_) (fun c2 => ?_)
    · exact absurd c2 hy.1
    · refine t_go (op := o_iload 17 2) (fe_X11_fuel 16) (fun _ _ => rfl) ?_
      refine t_go (op := o_ci 19 9) (fe_X11_fuel 17) (fun _ _ => rfl) ?_
      refine t_ite (op := o_icmp 22 24 (fun x y => x ≤ y) (fun _ _ => inferInstance)) (fe_X11_fuel 19) g_icmp (fun c3 => ?_) (fun c3 => ?_)
      · refine t_go (op := o_aload 25 0) (fe_X11_fuel 24) (fun _ _ => rfl) ?_
        refine t_go (op := o_getR 28 10 4) (fe_X11_fuel 25) (g_getR hS (show (lay 1).1 = 10 by decide) (by decide) (fr_10_4 hS) (by decide)) ?_
        refine t_go (op := o_aload 29 0) (fe_X11_fuel 28) (fun _ _ => rfl) ?_
        refine t_go (op := o_getR 32 10 2) (fe_X11_fuel 29) (g_getR hS (show (lay 1).1 = 10 by decide) (by decide) (fr_10_2 hS) (by decide)) ?_
        refine t_call (op := o_callV 35 63 2 5) (fe_X11_fuel 32) (g_callV hS (by decide) (by decide) rfl rfl rfl (Nat.le_of_ble_eq_true rfl)) ?_
        refine M_mono ?_ (c_keep hS hz hN4 hN2k hu h16)
        rintro _ h2 ⟨rfl, hD⟩
        replace hS := hD.std hS
        have hF2 := hD.2.2.1
        have hg72 : h2.2.2.1 1 7 = g := by rw [hD.1]; exact hg7
        refine t_go (op := o_aload 36 0) (fe_X11_fuel 35) (fun _ _ => rfl) ?_
        refine t_go (op := o_getR 39 10 2) (fe_X11_fuel 36) (g_getR hS (show (lay 1).1 = 10 by decide) (by decide) (fr_10_2 hS) (by decide)) ?_
        refine t_go (op := o_iload 40 1) (fe_X11_fuel 39) (fun _ _ => rfl) ?_
        refine t_go (op := o_iload 41 2) (fe_X11_fuel 40) (fun _ _ => rfl) ?_
        refine t_call (op := o_callV 44 16 3 1) (fe_X11_fuel 41) (g_callV hS (by decide) (by decide) rfl rfl rfl (Nat.le_of_ble_eq_true rfl)) ?_
        have q9 := n_addFuel (d := d + 3) (e := nI e) (x := y) (h := h2) (F := fs h 5) hS (show (lay 5).1 = 1 by decide)
        rw [show setF h2 5 (fs h 5) = h2 from by rw [← hF2]; exact setF_fs] at q9
        refine M_mono ?_ q9
        rintro _ _ ⟨rfl, rfl⟩
        have hD3 := hD.set Sc.rf (F2 := addFuelF (fs h 5) (nI e) y)
        refine t_go (op := o_aload 45 0) (fe_X11_fuel 44) (fun _ _ => rfl) ?_
        refine t_go (op := o_getR 48 10 2) (fe_X11_fuel 45) (g_getR hS (show (lay 1).1 = 10 by decide) (by decide) (fr_10_2 hS) (by decide)) ?_
        refine t_go (op := o_getR 51 1 2) (fe_X11_fuel 48) (g_getR hS (by decide) (by decide) (fr_1_2 hS (by decide)) (Nat.succ_pos _)) ?_
        refine t_go (op := o_iload 52 1) (fe_X11_fuel 51) (fun _ _ => rfl) ?_
        refine t_go (op := o_iald 53) (fe_X11_fuel 52) (g_ialdN hS (ly_1_3 (by decide)) rfl (by omega) (by decide)) ?_
        refine t_ret (op := o_iret) (fe_X11_fuel 53) (fun _ _ => rfl) ?_
        exact ⟨by rw [rd_3], hD3⟩
      · exact absurd (Int32.not_le.mp c3) hy.2
theorem c_fuelF {d : Nat} {h : AHP} {g n m : Nat} (hS : Std h) (hg : (lay g).1 = 3) (hg7 : h.2.2.1 1 7 = g) (hL : LawOK h g n) (hM : h.1 g 4 = nI m) (hm : m ≤ 7) (hz : NZ h) {N u : Nat} (hN4 : h.1 14 4 = nI N) (hN2k : N < 2000) (hu : h.1 14 5 = nI u) (h16 : u ≤ 16) {x y : Int32} (hh : ¬ (hasF (fs h 5) x ∧ ¬ y < 1 ∧ ¬ 9 < y)) : MM (d + 5) 117 [.ref 1, .int x, .int y] h (fun v h2 => v = some (.int (-1)) ∧ h2 = h) := by
  refine ⟨Nat.le_of_ble_eq_true rfl, ?_⟩
  obtain ⟨hN2, hzz⟩ := NZ_F hS hz (f := 5) (by decide)
  have hN := (NZ_F hS hz (f := 136) (by decide)).1
  have hR := (NZ_F hS hz (f := 143) (by decide)).1
  have hgp : 0 < g := (lay_lt hg (by decide)).1
  have hF : fs h 5 = fs h 5 := rfl
  refine t_go (op := o_aload 1 0) (fe_X11_fuel 0) (fun _ _ => rfl) ?_
  refine t_go (op := o_getR 4 10 2) (fe_X11_fuel 1) (g_getR hS (show (lay 1).1 = 10 by decide) (by decide) (fr_10_2 hS) (by decide)) ?_
  refine t_go (op := o_iload 5 1) (fe_X11_fuel 4) (fun _ _ => rfl) ?_
  refine t_call (op := o_callV 8 8 2 1) (fe_X11_fuel 5) (g_callV hS (by decide) (by decide) rfl rfl rfl (Nat.le_of_ble_eq_true rfl)) ?_
  refine M_eq (a_has hS (by decide) hF) ?_
  refine t_ite (op := o_if 11 22 (fun x => x = 0) (fun _ => inferInstance)) (fe_X11_fuel 8) g_if (fun c1 => ?_) (fun c1 => ?_)
  · replace c1 := b2i_z c1
    refine t_go (op := o_ci 23 (-1)) (fe_X11_fuel 22) (fun _ _ => rfl) ?_
    refine t_ret (op := o_iret) (fe_X11_fuel 23) (fun _ _ => rfl) ?_
    exact ⟨rfl, rfl⟩
  · replace c1 := b2i_nn c1
    refine t_go (op := o_iload 12 2) (fe_X11_fuel 11) (fun _ _ => rfl) ?_
    refine t_go (op := o_ci 13 1) (fe_X11_fuel 12) (fun _ _ => rfl) ?_
    refine t_ite (op := o_icmp 16 22 (fun x y => x < y) (fun _ _ => inferInstance)) (fe_X11_fuel 13) g_icmp (fun c2 => ?_) (fun c2 => ?_)
    · refine t_go (op := o_ci 23 (-1)) (fe_X11_fuel 22) (fun _ _ => rfl) ?_
      refine t_ret (op := o_iret) (fe_X11_fuel 23) (fun _ _ => rfl) ?_
      exact ⟨rfl, rfl⟩
    · refine t_go (op := o_iload 17 2) (fe_X11_fuel 16) (fun _ _ => rfl) ?_
      refine t_go (op := o_ci 19 9) (fe_X11_fuel 17) (fun _ _ => rfl) ?_
      refine t_ite (op := o_icmp 22 24 (fun x y => x ≤ y) (fun _ _ => inferInstance)) (fe_X11_fuel 19) g_icmp (fun c3 => ?_) (fun c3 => ?_)
      · exact absurd ⟨c1, c2, Int32.not_lt.mpr c3⟩ hh
      · refine t_go (op := o_ci 23 (-1)) (fe_X11_fuel 22) (fun _ _ => rfl) ?_
        refine t_ret (op := o_iret) (fe_X11_fuel 23) (fun _ _ => rfl) ?_
        exact ⟨rfl, rfl⟩
theorem FV_bank2 (F : FS) : (bankF F).2.2.2.2.2 = 0 ∨ (bankF F).2.2.2.2.2 = 1 := by
  show (if F.2.2.2.2.2 = 0 then (1 : Int32) else 0) = 0 ∨ (if F.2.2.2.2.2 = 0 then (1 : Int32) else 0) = 1
  split
  · exact Or.inr rfl
  · exact Or.inl rfl
theorem c_bank {d : Nat} {h : AHP} {g n m : Nat} (hS : Std h) (hg : (lay g).1 = 3) (hg7 : h.2.2.1 1 7 = g) (hL : LawOK h g n) (hM : h.1 g 4 = nI m) (hm : m ≤ 7) (hz : NZ h) {N u : Nat} (hN4 : h.1 14 4 = nI N) (hN2k : N < 2000) (hu : h.1 14 5 = nI u) (h16 : u ≤ 16)  : MM (d + 3) 118 [.ref 1] h (fun v h2 => v = some (.int ((bankF (fs h 5)).2.2.2.2.2)) ∧ DD h h2 N u (bankF (fs h 5))) := by
  refine ⟨Nat.le_of_ble_eq_true rfl, ?_⟩
  obtain ⟨hN2, hzz⟩ := NZ_F hS hz (f := 5) (by decide)
  have hN := (NZ_F hS hz (f := 136) (by decide)).1
  have hR := (NZ_F hS hz (f := 143) (by decide)).1
  have hgp : 0 < g := (lay_lt hg (by decide)).1
  have hF : fs h 5 = fs h 5 := rfl
  have hS0 := hS
  refine t_go (op := o_aload 1 0) (fe_X11_bank 0) (fun _ _ => rfl) ?_
  refine t_go (op := o_getR 4 10 4) (fe_X11_bank 1) (g_getR hS (show (lay 1).1 = 10 by decide) (by decide) (fr_10_4 hS) (by decide)) ?_
  refine t_go (op := o_aload 5 0) (fe_X11_bank 4) (fun _ _ => rfl) ?_
  refine t_go (op := o_getR 8 10 2) (fe_X11_bank 5) (g_getR hS (show (lay 1).1 = 10 by decide) (by decide) (fr_10_2 hS) (by decide)) ?_
  refine t_call (op := o_callV 11 63 2 5) (fe_X11_bank 8) (g_callV hS (by decide) (by decide) rfl rfl rfl (Nat.le_of_ble_eq_true rfl)) ?_
  refine M_mono ?_ (c_keep hS hz hN4 hN2k hu h16)
  rintro _ h2 ⟨rfl, hD⟩
  replace hS := hD.std hS
  have hF2 := hD.2.2.1
  have hg72 : h2.2.2.1 1 7 = g := by rw [hD.1]; exact hg7
  refine t_go (op := o_aload 12 0) (fe_X11_bank 11) (fun _ _ => rfl) ?_
  refine t_go (op := o_getR 15 10 2) (fe_X11_bank 12) (g_getR hS (show (lay 1).1 = 10 by decide) (by decide) (fr_10_2 hS) (by decide)) ?_
  refine t_go (op := o_aload 16 0) (fe_X11_bank 15) (fun _ _ => rfl) ?_
  refine t_go (op := o_getR 19 10 2) (fe_X11_bank 16) (g_getR hS (show (lay 1).1 = 10 by decide) (by decide) (fr_10_2 hS) (by decide)) ?_
  refine t_go (op := o_getI 22 1 5) (fe_X11_bank 19) (g_getI hS (by decide) (by decide)) ?_
  rw [show h2.1 5 5 = (fs h 5).2.2.2.2.2 from by rw [← hF2]; rfl]
  refine t_ite (op := o_if 29 25 (fun x => x = 0) (fun _ => inferInstance)) (fe_X11_bank 22) g_if (fun c1 => ?_) (fun c1 => ?_)
  · refine t_go (op := o_ci 26 1) (fe_X11_bank 25) (fun _ _ => rfl) ?_
    refine t_go (op := o_goto 30) (fe_X11_bank 26) (fun _ _ => rfl) ?_
    refine t_go (op := o_putZ 33 1 5) (fe_X11_bank 30) (g_putZ hS (by decide) (by decide) (by decide)) ?_
    have eb : (if (fs h 5).2.2.2.2.2 = 0 then (1 : Int32) else 0) = 1 := if_pos c1
    have eH : sI h2 5 5 (1) = setF h2 5 (bankF (fs h 5)) := by
      have := setF_b (h := h2) (f := 5) (v := 1) (F := fs h 5)
      rw [show setF h2 5 (fs h 5) = h2 from by rw [← hF2]; exact setF_fs] at this
      rw [this]
      unfold bankF
      rw [eb]
    rw [eH]
    have hD3 := hD.set Sc.rf (F2 := bankF (fs h 5))
    replace hS := hD3.std (show Std h from hS0)
    refine t_go (op := o_aload 34 0) (fe_X11_bank 33) (fun _ _ => rfl) ?_
    refine t_go (op := o_getR 37 10 2) (fe_X11_bank 34) (g_getR hS (show (lay 1).1 = 10 by decide) (by decide) (fr_10_2 hS) (by decide)) ?_
    refine t_go (op := o_getI 40 1 5) (fe_X11_bank 37) (g_getI hS (by decide) (by decide)) ?_
    rw [rd_b]
    refine t_ret (op := o_zret) (fe_X11_bank 40) (g_zret (FV_bank2 (fs h 5))) ?_
    exact ⟨rfl, hD3⟩
  · refine t_go (op := o_ci 30 0) (fe_X11_bank 29) (fun _ _ => rfl) ?_
    refine t_go (op := o_putZ 33 1 5) (fe_X11_bank 30) (g_putZ hS (by decide) (by decide) (by decide)) ?_
    have eb : (if (fs h 5).2.2.2.2.2 = 0 then (1 : Int32) else 0) = 0 := if_neg c1
    have eH : sI h2 5 5 (0) = setF h2 5 (bankF (fs h 5)) := by
      have := setF_b (h := h2) (f := 5) (v := 0) (F := fs h 5)
      rw [show setF h2 5 (fs h 5) = h2 from by rw [← hF2]; exact setF_fs] at this
      rw [this]
      unfold bankF
      rw [eb]
    rw [eH]
    have hD3 := hD.set Sc.rf (F2 := bankF (fs h 5))
    replace hS := hD3.std (show Std h from hS0)
    refine t_go (op := o_aload 34 0) (fe_X11_bank 33) (fun _ _ => rfl) ?_
    refine t_go (op := o_getR 37 10 2) (fe_X11_bank 34) (g_getR hS (show (lay 1).1 = 10 by decide) (by decide) (fr_10_2 hS) (by decide)) ?_
    refine t_go (op := o_getI 40 1 5) (fe_X11_bank 37) (g_getI hS (by decide) (by decide)) ?_
    rw [rd_b]
    refine t_ret (op := o_zret) (fe_X11_bank 40) (g_zret (FV_bank2 (fs h 5))) ?_
    exact ⟨rfl, hD3⟩
