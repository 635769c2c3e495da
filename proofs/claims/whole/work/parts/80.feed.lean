/-! ===== feed: both do alike ===== -/
theorem M_heap {d k : Nat} {as : List Value} {h h' : AHP} {P : Option Value → AHP → Prop} (e : h' = h) (hm : MM d k as h' P) : MM d k as h P := by rw [← e]; exact hm
theorem tH_id {h : AHP} {a b c L : Nat} (hac : a ≠ c) (hl : h.1 a b = nI L) : tH h a b c (h.1 c) L = h := by
  unfold tH
  rw [← hl, sI_id, rowI_id]
noncomputable def feedB (x y z : Int64) (s : (Nat → Int32) × Nat) : (Nat → Int32) × Nat := putB z 8 (putB y 8 (putB x 8 s))
theorem c_feed {d : Nat} {h : AHP} {x y z : Int64} {L : Nat} (hS : Std h) (hl : h.1 2 1 = nI L) (hL : L ≤ 1000) : MM (d + 1) 109 [.ref 1, .long x, .long y, .long z] h (fun v h2 => v = some (.int (nI (feedB x y z (h.1 3, L)).2)) ∧ h2 = tH h 2 1 3 (feedB x y z (h.1 3, L)).1 (feedB x y z (h.1 3, L)).2) := by
  refine ⟨Nat.le_of_ble_eq_true rfl, ?_⟩
  refine t_go (op := o_aload 1 0) (fe_X11_feed 0) (fun _ _ => rfl) ?_
  refine t_go (op := o_getR 4 10 0) (fe_X11_feed 1) (g_getR hS (show (lay 1).1 = 10 by decide) (by decide) (fr_10_0 hS) (by decide)) ?_
  refine t_go (op := o_lload 5 1) (fe_X11_feed 4) (fun _ _ => rfl) ?_
  refine t_call (op := o_callV 8 94 2 8) (fe_X11_feed 5) (g_callV hS (by decide) (by decide) rfl rfl rfl (Nat.le_of_ble_eq_true rfl)) ?_
  refine M_heap (tH_id (a := 2) (b := 1) (c := 3) (by decide) hl) ?_
  refine M_eq (m_put hS hL) ?_
  refine t_go (op := o_aload 9 0) (fe_X11_feed 8) (fun _ _ => rfl) ?_
  refine t_go (op := o_getR 12 10 0) (fe_X11_feed 9) (g_getR hS (show (lay 1).1 = 10 by decide) (by decide) (fr_10_0 hS) (by decide)) ?_
  refine t_go (op := o_lload 13 3) (fe_X11_feed 12) (fun _ _ => rfl) ?_
  refine t_call (op := o_callV 16 94 2 8) (fe_X11_feed 13) (g_callV hS (by decide) (by decide) rfl rfl rfl (Nat.le_of_ble_eq_true rfl)) ?_
  refine M_eq (m_put hS (put_le 8 _ hL)) ?_
  refine t_go (op := o_aload 17 0) (fe_X11_feed 16) (fun _ _ => rfl) ?_
  refine t_go (op := o_getR 20 10 0) (fe_X11_feed 17) (g_getR hS (show (lay 1).1 = 10 by decide) (by decide) (fr_10_0 hS) (by decide)) ?_
  refine t_go (op := o_lload 22 5) (fe_X11_feed 20) (fun _ _ => rfl) ?_
  refine t_call (op := o_callV 25 94 2 8) (fe_X11_feed 22) (g_callV hS (by decide) (by decide) rfl rfl rfl (Nat.le_of_ble_eq_true rfl)) ?_
  refine M_eq (m_put hS (put_le 8 _ (put_le 8 _ hL))) ?_
  refine t_go (op := o_aload 26 0) (fe_X11_feed 25) (fun _ _ => rfl) ?_
  refine t_go (op := o_getR 29 10 0) (fe_X11_feed 26) (g_getR hS (show (lay 1).1 = 10 by decide) (by decide) (fr_10_0 hS) (by decide)) ?_
  refine t_go (op := o_getI 32 8 1) (fe_X11_feed 29) (g_getI hS (by decide) (by decide)) ?_
  rw [tH_len (by decide)]
  refine t_ret (op := o_iret) (fe_X11_feed 32) (fun _ _ => rfl) ?_
  exact ⟨rfl, rfl⟩
theorem r_feed {d : Nat} {k : AHP} {x y z : Int64} {L : Nat} (hS : Std k) (hl : k.1 183 2 = nI L) (hL : L ≤ 1000) : MM (d + 1) 158 [.ref 183, .long x, .long y, .long z] k (fun v h2 => v = some (.int (nI (feedB x y z (k.1 184, L)).2)) ∧ h2 = tH (sI k 183 0 0) 183 2 184 (feedB x y z (k.1 184, L)).1 (feedB x y z (k.1 184, L)).2) := by
  refine ⟨Nat.le_of_ble_eq_true rfl, ?_⟩
  refine t_go (op := o_aload 1 0) (fe_X12_feed 0) (fun _ _ => rfl) ?_
  refine t_go (op := o_ci 2 0) (fe_X12_feed 1) (fun _ _ => rfl) ?_
  refine t_go (op := o_putI 5 11 0) (fe_X12_feed 2) (g_putI hS (show (lay 183).1 = 11 by decide) (by decide)) ?_
  refine t_go (op := o_aload 6 0) (fe_X12_feed 5) (fun _ _ => rfl) ?_
  refine t_go (op := o_lload 7 1) (fe_X12_feed 6) (fun _ _ => rfl) ?_
  refine t_call (op := o_callV 10 159 2 11) (fe_X12_feed 7) (g_callV hS (show (lay 183).1 = 11 by decide) (by decide) rfl rfl rfl (Nat.le_of_ble_eq_true rfl)) ?_
  refine M_heap (tH_id (h := sI k 183 0 0) (a := 183) (b := 2) (c := 184) (by decide) (L := L) (by rw [sI_nr (by decide)]; exact hl)) ?_
  rw [show (sI k 183 0 0).1 184 = k.1 184 from sI_ne (by decide)]
  refine M_eq (r_lay (h := sI k 183 0 0) hS hL) ?_
  refine t_go (op := o_aload 11 0) (fe_X12_feed 10) (fun _ _ => rfl) ?_
  refine t_go (op := o_lload 12 3) (fe_X12_feed 11) (fun _ _ => rfl) ?_
  refine t_call (op := o_callV 15 159 2 11) (fe_X12_feed 12) (g_callV hS (show (lay 183).1 = 11 by decide) (by decide) rfl rfl rfl (Nat.le_of_ble_eq_true rfl)) ?_
  refine M_eq (r_lay (h := sI k 183 0 0) hS (put_le 8 _ hL)) ?_
  refine t_go (op := o_aload 16 0) (fe_X12_feed 15) (fun _ _ => rfl) ?_
  refine t_go (op := o_lload 18 5) (fe_X12_feed 16) (fun _ _ => rfl) ?_
  refine t_call (op := o_callV 21 159 2 11) (fe_X12_feed 18) (g_callV hS (show (lay 183).1 = 11 by decide) (by decide) rfl rfl rfl (Nat.le_of_ble_eq_true rfl)) ?_
  refine M_eq (r_lay (h := sI k 183 0 0) hS (put_le 8 _ (put_le 8 _ hL))) ?_
  refine t_go (op := o_aload 22 0) (fe_X12_feed 21) (fun _ _ => rfl) ?_
  refine t_go (op := o_getI 25 11 2) (fe_X12_feed 22) (g_getI hS (show (lay 183).1 = 11 by decide) (by decide)) ?_
  rw [tH_len (by decide)]
  refine t_ret (op := o_iret) (fe_X12_feed 25) (fun _ _ => rfl) ?_
  exact ⟨rfl, rfl⟩
theorem put_same {v : Int64} : ∀ (j : Nat) (r r' : Nat → Int32) (L : Nat), (∀ i, i < L → r i = r' i ∧ okC (r i)) → (putB v j (r, L)).2 = (putB v j (r', L)).2 ∧ ∀ i, i < (putB v j (r, L)).2 → (putB v j (r, L)).1 i = (putB v j (r', L)).1 i ∧ okC ((putB v j (r, L)).1 i) := by
  intro j
  induction j with
  | zero => intro r r' L h; exact ⟨rfl, h⟩
  | succ j ih =>
    intro r r' L h
    rw [putB, putB]
    by_cases hq : okB (bR v (nI (8 * j))) ∧ L < 1000
    · rw [show putS (bR v (nI (8 * j))) (r, L) = (fup r L (bR v (nI (8 * j))), L + 1) from if_pos hq, show putS (bR v (nI (8 * j))) (r', L) = (fup r' L (bR v (nI (8 * j))), L + 1) from if_pos hq]
      refine ih _ _ _ fun i hi => ?_
      by_cases hiL : i = L
      · subst hiL
        rw [fup_eq, fup_eq]
        refine ⟨rfl, ?_⟩
        rcases hq.1 with h1 | h1
        · exact ⟨10, h1, Or.inl rfl⟩
        · obtain ⟨c, c1, c2, c3⟩ := of_range h1 (show (32 : Int32) = nI 32 from rfl) (show (126 : Int32) = nI 126 from rfl) (by decide) (by decide)
          exact ⟨c, c3, Or.inr ⟨c1, c2⟩⟩
      · rw [fup_ne hiL, fup_ne hiL]
        exact h i (by omega)
    · rw [show putS (bR v (nI (8 * j))) (r, L) = (r, L) from if_neg hq, show putS (bR v (nI (8 * j))) (r', L) = (r', L) from if_neg hq]
      exact ih r r' L h
theorem feed_same {x y z : Int64} {r r' : Nat → Int32} {L : Nat} (h : ∀ i, i < L → r i = r' i ∧ okC (r i)) : (feedB x y z (r, L)).2 = (feedB x y z (r', L)).2 ∧ ∀ i, i < (feedB x y z (r, L)).2 → (feedB x y z (r, L)).1 i = (feedB x y z (r', L)).1 i ∧ okC ((feedB x y z (r, L)).1 i) := by
  unfold feedB
  have h1 := put_same (v := x) 8 r r' L h
  generalize putB x 8 (r, L) = s1 at h1 ⊢
  generalize putB x 8 (r', L) = s1' at h1 ⊢
  obtain ⟨a1, b1⟩ := s1
  obtain ⟨a1', b1'⟩ := s1'
  obtain ⟨e1, h1⟩ := h1
  cases e1
  have h2 := put_same (v := y) 8 a1 a1' b1 h1
  generalize putB y 8 (a1, b1) = s2 at h2 ⊢
  generalize putB y 8 (a1', b1) = s2' at h2 ⊢
  obtain ⟨a2, b2⟩ := s2
  obtain ⟨a2', b2'⟩ := s2'
  obtain ⟨e2, h2⟩ := h2
  cases e2
  exact put_same (v := z) 8 a2 a2' b2 h2
theorem p_feed {T d : Nat} {h : AHP} (hC : CI T h) (hT : T ≤ 600) {x y z : Int64} : PairI (d + 20) 109 158 [.long x, .long y, .long z] h T := by
  obtain ⟨hS, hz, g, n, m, v, ln, tn, N, u, len, c1, c2, c3, c4, c5, c6, c7⟩ := id hC
  obtain ⟨t1, t2, t3, t4⟩ := c7
  obtain ⟨f1, f2⟩ := feed_same (x := x) (y := y) (z := z) t4
  have f3 : (feedB x y z (h.1 3, len)).2 ≤ 1000 := put_le 8 _ (put_le 8 _ (put_le 8 _ t1))
  refine M_mono ?_ (M_nz hz (c_feed hS t2 t1))
  rintro _ _ ⟨⟨rfl, rfl⟩, hz2⟩
  have r2 : ∀ a, a ≠ 2 → a ≠ 3 → (tH h 2 1 3 (feedB x y z (h.1 3, len)).1 (feedB x y z (h.1 3, len)).2).1 a = h.1 a := fun a b1 b2 => by unfold tH; rw [rowI_ne b2, sI_ne b1]
  refine ⟨_, rfl, M_mono ?_ (M_nz hz2 (r_feed (L := len) hS (by rw [r2 183 (by decide) (by decide)]; exact t3) t1))⟩
  rintro _ _ ⟨⟨rfl, rfl⟩, hz3⟩
  rw [r2 184 (by decide) (by decide)] at hz3 ⊢
  refine ⟨by rw [f1], ?_⟩
  generalize hk2 : tH h 2 1 3 (feedB x y z (h.1 3, len)).1 (feedB x y z (h.1 3, len)).2 = k2 at hz3 r2 ⊢
  have r3 : ∀ a, a ≠ 183 → a ≠ 184 → (tH (sI k2 183 0 0) 183 2 184 (feedB x y z (h.1 184, len)).1 (feedB x y z (h.1 184, len)).2).1 a = k2.1 a := fun a b1 b2 => by unfold tH; rw [rowI_ne b2, sI_ne b1, sI_ne b1]
  have e183 : ∀ i, i ≠ 0 → i ≠ 2 → (tH (sI k2 183 0 0) 183 2 184 (feedB x y z (h.1 184, len)).1 (feedB x y z (h.1 184, len)).2).1 183 i = h.1 183 i := fun i i1 i2 => by unfold tH; rw [rowI_ne (by decide), sI_nr i2, sI_nr i1, r2 183 (by decide) (by decide)]
  have e2 : (tH (sI k2 183 0 0) 183 2 184 (feedB x y z (h.1 184, len)).1 (feedB x y z (h.1 184, len)).2).2 = h.2 := by rw [← hk2]; rfl
  have el : (tH (sI k2 183 0 0) 183 2 184 (feedB x y z (h.1 184, len)).1 (feedB x y z (h.1 184, len)).2).1 183 2 = nI (feedB x y z (h.1 184, len)).2 := tH_len (by decide)
  have e184 : (tH (sI k2 183 0 0) 183 2 184 (feedB x y z (h.1 184, len)).1 (feedB x y z (h.1 184, len)).2).1 184 = (feedB x y z (h.1 184, len)).1 := by unfold tH; rw [rowI_at]
  generalize tH (sI k2 183 0 0) 183 2 184 (feedB x y z (h.1 184, len)).1 (feedB x y z (h.1 184, len)).2 = k3 at hz3 r3 e183 e2 el e184 ⊢
  have er : ∀ a, a ≠ 2 → a ≠ 3 → a ≠ 183 → a ≠ 184 → k3.1 a = h.1 a := fun a b1 b2 b3 b4 => by rw [r3 a b3 b4]; exact r2 a b1 b2
  refine ⟨by unfold Std at hS ⊢; rw [e2]; exact hS, hz3, g, n, m, v, ln, tn, N, u, (feedB x y z (h.1 3, len)).2, ?_, ?_, ⟨?_, ?_⟩, ?_, ?_, ?_, ⟨f3, ?_, ?_, fun i hi => ?_⟩⟩
  · exact GrC_rows e2 (fun a b1 b2 b3 => er a (by omega) (by omega) (by omega) (by omega)) (fun a b1 b2 => er a (by omega) (by omega) (by omega) (by omega)) (e183 16 (by decide) (by decide)) c1
  · exact EvC_rows e2 (fun a b1 b2 => er a (by omega) (by omega) (by omega) (by omega)) (er 194 (by omega) (by omega) (by omega) (by omega)) c2
  · rw [show fs k3 5 = fs h 5 from fs_rows fun a h1 h2' => er a (by omega) (by omega) (by omega) (by omega)]; exact FW_up c3.1
  · rw [show fs k3 5 = fs h 5 from fs_rows fun a h1 h2' => er a (by omega) (by omega) (by omega) (by omega), er 197 (by omega) (by omega) (by omega) (by omega)]; exact c3.2
  · exact ToC_rows (fun a b1 b2 => er a (by omega) (by omega) (by omega) (by omega)) (fun i i1 i2 => by rw [er 197 (by omega) (by omega) (by omega) (by omega)]) c4
  · exact PaC_up (PaC_rows (fun a ha => er a (by omega) (by omega) (by omega) (by omega)) (e183 23 (by decide) (by decide)) (fun i i1 i2 => by rw [er 197 (by omega) (by omega) (by omega) (by omega)]) c5)
  · exact MaC_up (MaC_rows (fun a ha => er a (by omega) (by omega) (by omega) (by omega)) (fun i i1 i2 => by rw [er 197 (by omega) (by omega) (by omega) (by omega)]) c6)
  · rw [r3 2 (by decide) (by decide), ← hk2]; exact tH_len (by decide)
  · rw [el, f1]
  · rw [r3 3 (by decide) (by decide), e184, ← hk2, show (tH h 2 1 3 (feedB x y z (h.1 3, len)).1 (feedB x y z (h.1 3, len)).2).1 3 = (feedB x y z (h.1 3, len)).1 from by unfold tH; rw [rowI_at]]
    exact f2 i hi
