/-! ===== undo, marks, tell: both do alike ===== -/
theorem p_undo {T d : Nat} {h : AHP} (hC : CI T h) (hT : T ≤ 600) : PairI (d + 20) 119 227 [] h T := by
  obtain ⟨hS, hz, g, n, m, v, ln, tn, N, u, len, c1, c2, c3, c4, c5, c6, c7⟩ := id hC
  obtain ⟨a1, a2, a3, a4, a5, a6, a7, a8⟩ := id c5
  by_cases h0 : u = 0
  · exact q_pair hC (M_we (c_undoF hS hz (by rw [a2, h0]; rfl))) (fun h2 hw => M_wt (r_undoF (hw.std hS) ((hw.2.2.2.1 23 (by decide)).trans a6) h0))
  · refine M_mono ?_ (M_nz hz (c_undo hS hz a1 (by omega) (by omega) a2 a3 (by omega)))
    rintro _ h2 ⟨⟨rfl, hU⟩, hz2⟩
    have hS2 : Std h2 := by unfold Std at hS ⊢; rw [hU.1]; exact hS
    refine ⟨1, rfl, M_mono ?_ (M_nz hz2 (r_undo (F := fs h 5) hS2 (by rw [hU.2.1 183 (by omega) (by omega)]; exact a6) a3 (by rw [hU.2.1 197 (by omega) (by omega)]; exact a8) (by omega)))⟩
    rintro _ h3 ⟨⟨rfl, z1, z2⟩, hz3⟩
    refine ⟨rfl, ?_⟩
    have e2 : h3.2 = h.2 := (Prod.ext (funext fun a => z1.g a) z1.1 : h3.2 = (sI h2 183 23 (nI (u - 1))).2).trans hU.1
    have er : ∀ a, ¬ (5 ≤ a ∧ a ≤ 9) → a ≠ 14 → zRow a → h3.1 a = h.1 a := fun a b1 b2 b3 => by rw [z1.row b3, sI_ne (by omega)]; exact hU.2.1 a b1 b2
    have e183 : ∀ i, i ≠ 0 → i ≠ 23 → h3.1 183 i = h.1 183 i := fun i i1 i2 => by rw [z1.2.2.2.1 i i1, sI_nr i2, hU.2.1 183 (by omega) (by omega)]
    have e197 : ∀ i, 23 ≤ i → h3.1 197 i = h.1 197 i := fun i hi => by rw [z1.2.2.2.2 i (by omega), sI_ne (by decide), hU.2.1 197 (by omega) (by omega)]
    have ef : fs h3 5 = kf h N u (u - 1) := by
      rw [show fs h3 5 = fs h2 5 from fs_rows fun a h1 h2' => by rw [z1.row (by omega), sI_ne (by omega)], hU.2.2.1]
      unfold kf
      rw [show N - u + (u - 1) = N - 1 by omega]
    have ek : ∀ a, kf h3 (N - 1) (u - 1) a = kf h N u a := fun a => by
      have h16 : (N - u + a) % 16 < 16 := Nat.mod_lt _ (by decide)
      unfold kf
      rw [show N - 1 - (u - 1) + a = N - u + a by omega]
      exact fs_rows fun b h1 h2' => er b (by omega) (by omega) (by omega)
    refine ⟨by unfold Std at hS ⊢; rw [e2]; exact hS, hz3, g, n, m, v, ln, tn, N - 1, u - 1, len, ?_, ?_, ⟨?_, ?_⟩, ?_, ⟨?_, ?_, by omega, by omega, by omega, ?_, fun a ha => ?_, fun a ha => ?_⟩, ?_, ?_⟩
    · exact GrC_rows e2 (fun a b1 b2 b3 => er a (by omega) (by omega) (by omega)) (fun a b1 b2 => er a (by omega) (by omega) (by omega)) (e183 16 (by decide) (by decide)) c1
    · exact EvC_rows e2 (fun a b1 b2 => er a (by omega) (by omega) (by omega)) (er 194 (by omega) (by omega) (by omega)) c2
    · rw [ef]; exact FW_up (a7 (u - 1) (by omega))
    · rw [ef]; exact z2
    · exact ToC_rows (fun a b1 b2 => er a (by omega) (by omega) (by omega)) (fun i i1 i2 => e197 i (by omega)) c4
    · rw [z1.row (by omega), sI_ne (by decide)]; exact hU.2.2.2.1
    · rw [z1.row (by omega), sI_ne (by decide)]; exact hU.2.2.2.2
    · rw [z1.2.2.2.1 23 (by decide), sI_eq]
    · rw [ek]; exact FW_up (a7 a (by omega))
    · rw [ek]; exact RB_rows (fun i h1 h2' => e197 i (by omega)) (a8 a (by omega))
    · exact MaC_up (MaC_rows (fun a ha => er a (by omega) (by omega) (by omega)) (fun i i1 i2 => e197 i (by omega)) c6)
    · exact TaC_rows (fun a ha => er a (by omega) (by omega) (by omega)) (e183 2 (by decide) (by decide)) c7
theorem RT_copy {s s2 : Nat → Int32} {p q tn : Nat} {E H L : Nat → Int32} (ht : tn ≤ 6) (h : ∀ a, a < 42 → s2 (q + a) = s (p + a)) (hB : RT s p tn E H L) : RT s2 q tn E H L := by
  refine ⟨(h 23 (by omega)).trans hB.1, fun k hk => ?_⟩
  obtain ⟨h1, h2, h3⟩ := hB.2 k hk
  refine ⟨?_, ?_, ?_⟩
  · have := h (24 + 3 * k) (by omega); rw [← Nat.add_assoc, ← Nat.add_assoc] at this; exact this.trans h1
  · have := h (25 + 3 * k) (by omega); rw [← Nat.add_assoc, ← Nat.add_assoc] at this; exact this.trans h2
  · have := h (26 + 3 * k) (by omega); rw [← Nat.add_assoc, ← Nat.add_assoc] at this; exact this.trans h3
theorem p_mark0 {T d : Nat} {h : AHP} (hC : CI T h) (hT : T ≤ 600) {x : Int32} : PairI (d + 20) 147 268 [.int x, .int 0] h T := by
  obtain ⟨hS, hz, g, n, m, v, ln, tn, N, u, len, c1, c2, c3, c4, c5, c6, c7⟩ := id hC
  by_cases hx : ¬ x < 0 ∧ ¬ 3 < x
  · obtain ⟨q, _, hq, rfl⟩ := of_range hx (show (0 : Int32) = nI 0 from rfl) (show (3 : Int32) = nI 3 from rfl) (by decide) (by decide)
    refine M_mono ?_ (M_nz hz (c_markL hS hz (q := q) (by omega)))
    rintro _ h2 ⟨⟨rfl, hU⟩, hz2⟩
    obtain ⟨u1, u2, u3, u4, u5, u6, u7, u8, u9⟩ := hU
    have hS2 : Std h2 := by unfold Std at hS ⊢; rw [u1]; exact hS
    refine ⟨1, rfl, M_mono ?_ (M_nz hz2 (r_markL hS2 (q := q) (by omega)))⟩
    rintro _ h3 ⟨⟨rfl, z1, z2⟩, hz3⟩
    refine ⟨rfl, ?_⟩
    have e2 : h3.2 = h.2 := (Prod.ext (funext fun a => z1.g a) z1.1 : h3.2 = (sI h2 198 q 1).2).trans u1
    have er2 : ∀ a, a ≠ 198 → zRow a → h3.1 a = h2.1 a := fun a b1 b2 => by rw [z1.row b2, sI_ne b1]
    have er : ∀ a, ¬ (99 + 9 * q ≤ a ∧ a ≤ 107 + 9 * q) → a ≠ 18 → a ≠ 198 → zRow a → h3.1 a = h.1 a := fun a b1 b2 b3 b4 => by rw [er2 a b3 b4]; exact u2 a b1 b2
    have e183 : ∀ i, i ≠ 0 → h3.1 183 i = h.1 183 i := fun i i1 => by rw [z1.2.2.2.1 i i1, sI_ne (by decide), u2 183 (by omega) (by omega)]
    have e197 : ∀ i, ¬ (42 * (1 + q) ≤ i ∧ i < 42 * (1 + q) + 42) → h3.1 197 i = h.1 197 i := fun i hi => by rw [z1.2.2.2.2 i hi, sI_ne (by decide), u2 197 (by omega) (by omega)]
    have hcp : ∀ a, a < 42 → h3.1 197 (42 * (1 + q) + a) = h.1 197 (0 + a) := fun a ha => by rw [z2 a ha, u2 197 (by omega) (by omega), Nat.zero_add]
    refine ⟨by unfold Std at hS ⊢; rw [e2]; exact hS, hz3, g, n, m, v, ln, tn, N, u, len, ?_, ?_, ⟨?_, ?_⟩, ?_, ?_, ?_, ?_⟩
    · exact GrC_rows e2 (fun a b1 b2 b3 => er a (by omega) (by omega) (by omega) (by omega)) (fun a b1 b2 => er a (by omega) (by omega) (by omega) (by omega)) (e183 16 (by decide)) c1
    · exact EvC_rows e2 (fun a b1 b2 => er a (by omega) (by omega) (by omega) (by omega)) (er 194 (by omega) (by omega) (by omega) (by omega)) c2
    · rw [show fs h3 5 = fs h 5 from fs_rows fun a h1 h2' => er a (by omega) (by omega) (by omega) (by omega)]; exact FW_up c3.1
    · rw [show fs h3 5 = fs h 5 from fs_rows fun a h1 h2' => er a (by omega) (by omega) (by omega) (by omega)]; exact RB_rows (fun i h1 h2' => e197 i (by omega)) c3.2
    · exact ToC_rows (fun a b1 b2 => er a (by omega) (by omega) (by omega) (by omega)) (fun i i1 i2 => e197 i (by omega)) c4
    · exact PaC_up (PaC_rows (fun a ha => er a (by omega) (by omega) (by omega) (by omega)) (e183 23 (by decide)) (fun i i1 i2 => e197 i (by omega)) c5)
    · intro p hp
      by_cases hpq : p = q
      · subst hpq
        refine Or.inr ⟨by rw [er2 18 (by omega) (by omega)]; exact u4, by rw [z1.row (by omega), sI_eq], ?_, ?_, tn, ?_, ?_, ?_⟩
        · rw [show fs h3 (99 + 9 * p) = fs h2 (99 + 9 * p) from fs_rows fun a h1 h2' => er2 a (by omega) (by omega), u5]; exact FW_up c3.1
        · rw [show fs h3 (99 + 9 * p) = fs h2 (99 + 9 * p) from fs_rows fun a h1 h2' => er2 a (by omega) (by omega), u5]
          exact RB_copy (fun a ha => hcp a (by omega)) c3.2
        · rw [er2 _ (by omega) (by omega), u6]; exact c4.1
        · rw [er2 _ (by omega) (by omega), er2 _ (by omega) (by omega), er2 _ (by omega) (by omega), u7, u8, u9]; exact c4.2.1
        · rw [er2 (105 + 9 * p) (by omega) (by omega), er2 (106 + 9 * p) (by omega) (by omega), er2 (107 + 9 * p) (by omega) (by omega), u7, u8, u9]; exact RT_copy c4.2.1.1 hcp c4.2.2
      · have er' : ∀ a, 99 + 9 * p ≤ a → a ≤ 107 + 9 * p → h3.1 a = h.1 a := fun a b1 b2 => er a (by omega) (by omega) (by omega) (by omega)
        rw [show h3.1 18 p = h.1 18 p from by rw [er2 18 (by omega) (by omega)]; exact u3 p hpq, show h3.1 198 p = h.1 198 p from by rw [z1.row (by omega), sI_nr hpq, u2 198 (by omega) (by omega)], show fs h3 (99 + 9 * p) = fs h (99 + 9 * p) from fs_rows fun a h1 h2' => er' a (by omega) (by omega), er' (104 + 9 * p) (by omega) (by omega), er' (105 + 9 * p) (by omega) (by omega), er' (106 + 9 * p) (by omega) (by omega), er' (107 + 9 * p) (by omega) (by omega)]
        rcases c6 p hp with w2 | ⟨w2, w3, w4, w5, tq, w6, w7, w8⟩
        · exact Or.inl w2
        · exact Or.inr ⟨w2, w3, FW_up w4, RB_rows (fun i h1 h2' => e197 i (by omega)) w5, tq, w6, w7, RT_rows w7.1 (fun i h1 h2' => e197 i (by omega)) w8⟩
    · exact TaC_rows (fun a ha => er a (by omega) (by omega) (by omega) (by omega)) (e183 2 (by decide)) c7
  · exact q_pair hC (M_we (c_markF hS hz hx)) (fun h2 hw => M_wt (r_markF (hw.std hS) hx))
theorem p_mark1 {T d : Nat} {h : AHP} (hC : CI T h) (hT : T ≤ 600) {x : Int32} : PairI (d + 20) 147 268 [.int x, .int 1] h T := by
  obtain ⟨hS, hz, g, n, m, v, ln, tn, N, u, len, c1, c2, c3, c4, c5, c6, c7⟩ := id hC
  by_cases hx : ¬ x < 0 ∧ ¬ 3 < x
  · obtain ⟨q, _, hq, rfl⟩ := of_range hx (show (0 : Int32) = nI 0 from rfl) (show (3 : Int32) = nI 3 from rfl) (by decide) (by decide)
    rcases c6 q (by omega) with ⟨w1, w2⟩ | ⟨w1, w2, w3, w4, tq, w5, w6, w7⟩
    · exact q_pair hC (M_we (c_markN hS hz (by omega) w1)) (fun h2 hw => M_wt (r_markN (hw.std hS) (by omega) (by rw [hw.row (a := 198) (by omega)]; exact w2)))
    · refine M_mono ?_ (M_nz hz (c_markB hS hz (q := q) (by omega) (by rw [w1]; decide)))
      rintro _ h2 ⟨⟨rfl, hU⟩, hz2⟩
      obtain ⟨u1, u2, u3, u4, u5, u6, u7, u8, u9⟩ := hU
      have hS2 : Std h2 := by unfold Std at hS ⊢; rw [u1]; exact hS
      refine ⟨1, rfl, M_mono ?_ (M_nz hz2 (r_markB hS2 (q := q) (by omega) (by rw [u2 198 (by omega) (by omega)]; exact w2)))⟩
      rintro _ h3 ⟨⟨rfl, z1, z2⟩, hz3⟩
      refine ⟨rfl, ?_⟩
      have e2 : h3.2 = h.2 := (Prod.ext (funext fun a => z1.g a) z1.1 : h3.2 = (sI h2 183 23 0).2).trans u1
      have er2 : ∀ a, zRow a → h3.1 a = h2.1 a := fun a b2 => by rw [z1.row b2, sI_ne (by omega)]
      have er : ∀ a, ¬ (5 ≤ a ∧ a ≤ 14) → zRow a → h3.1 a = h.1 a := fun a b1 b4 => by rw [er2 a b4]; exact u2 a (by omega) (by omega)
      have e183 : ∀ i, i ≠ 0 → i ≠ 23 → h3.1 183 i = h.1 183 i := fun i i1 i2 => by rw [z1.2.2.2.1 i i1, sI_nr i2, u2 183 (by omega) (by omega)]
      have e197 : ∀ i, 42 ≤ i → h3.1 197 i = h.1 197 i := fun i hi => by rw [z1.2.2.2.2 i (by omega), sI_ne (by decide), u2 197 (by omega) (by omega)]
      have hcp : ∀ a, a < 42 → h3.1 197 (0 + a) = h.1 197 (42 * (1 + q) + a) := fun a ha => by rw [Nat.zero_add, z2 a ha, u2 197 (by omega) (by omega)]
      have ef : fs h3 5 = fs h (99 + 9 * q) := by rw [show fs h3 5 = fs h2 5 from fs_rows fun a h1 h2' => er2 a (by omega), u3]
      refine ⟨by unfold Std at hS ⊢; rw [e2]; exact hS, hz3, g, n, m, v, ln, tq, N, 0, len, ?_, ?_, ⟨?_, ?_⟩, ⟨?_, ?_, ?_⟩, ⟨?_, ?_, by omega, by omega, by have := c5.2.2.2.2.1; omega, ?_, fun a ha => absurd ha (Nat.not_lt_zero a), fun a ha => absurd ha (Nat.not_lt_zero a)⟩, ?_, ?_⟩
      · exact GrC_rows e2 (fun a b1 b2 b3 => er a (by omega) (by omega)) (fun a b1 b2 => er a (by omega) (by omega)) (e183 16 (by decide) (by decide)) c1
      · exact EvC_rows e2 (fun a b1 b2 => er a (by omega) (by omega)) (er 194 (by omega) (by omega)) c2
      · rw [ef]; exact FW_up w3
      · rw [ef]; exact RB_copy (fun a ha => hcp a (by omega)) w4
      · rw [er2 10 (by omega), u4]; exact w5
      · rw [er2 11 (by omega), er2 12 (by omega), er2 13 (by omega), u5, u6, u7]; exact w6
      · rw [er2 11 (by omega), er2 12 (by omega), er2 13 (by omega), u5, u6, u7]; exact RT_copy w6.1 hcp w7
      · rw [er2 14 (by omega), u8]; exact c5.1
      · rw [er2 14 (by omega), u9]; rfl
      · rw [z1.2.2.2.1 23 (by decide), sI_eq]; rfl
      · exact MaC_up (MaC_rows (fun a ha => er a (by omega) (by omega)) (fun i i1 i2 => e197 i (by omega)) c6)
      · exact TaC_rows (fun a ha => er a (by omega) (by omega)) (e183 2 (by decide) (by decide)) c7
  · exact q_pair hC (M_we (c_markF hS hz hx)) (fun h2 hw => M_wt (r_markF (hw.std hS) hx))
theorem told_row {h : AHP} {tn : Nat} {e q b : Int32} (htn : tn < 6) (hl : h.1 10 3 = nI tn) : (told1 h e q b).2 = h.2 ∧ (∀ a, ¬ (10 ≤ a ∧ a ≤ 13) → (told1 h e q b).1 a = h.1 a) ∧ (told1 h e q b).1 11 = fup (h.1 11) tn e ∧ (told1 h e q b).1 12 = fup (h.1 12) tn q ∧ (told1 h e q b).1 13 = fup (h.1 13) tn b ∧ (told1 h e q b).1 10 3 = nI (tn + 1) := by
  unfold told1
  rw [hl, nI_clamp (by omega)]
  refine ⟨rfl, fun a ha => ?_, ?_, ?_, ?_, ?_⟩
  · rw [sI_ne (by omega), sI_ne (by omega), sI_ne (by omega), sI_ne (by omega)]
  · rw [sI_ne (by decide), sI_ne (by decide), sI_ne (by decide), sI_row]
  · rw [sI_ne (by decide), sI_ne (by decide), sI_row, sI_ne (by decide)]
  · rw [sI_ne (by decide), sI_row, sI_ne (by decide), sI_ne (by decide)]
  · rw [sI_eq, nI_1]
theorem tell_pair {T d : Nat} {h : AHP} (hC : CI T h) {g n m v ln tn N u len : Nat} (c1 : GrC h g n m) (c2 : EvC h v ln m) (c3 : FiC h m T) (c4 : ToC h m tn) (c5 : PaC h m T N u) (c6 : MaC h m T) (c7 : TaC h len) {e q : Nat} {b : Int32} (he : e < m) (hq : q ≤ 12) (h6 : tn < 6) (hb : b = 0 ∨ b = 1)
    (hc : MM d 131 [.ref 1, .int (nI e), .int (nI q), .int b] h (fun v h2 => v = some (.int 1) ∧ h2 = told1 h (nI e) (nI q) b))
    (hr : ∀ h2, Std h2 → h2.1 189 0 = nI m → RT (h2.1 197) 0 tn (h.1 11) (h.1 12) (h.1 13) → MM d 249 [.ref 183, .int (nI e), .int (nI q), .int b] h2 (fun v h3 => v = some (.int 1) ∧ Zf (fun i => 23 ≤ i ∧ i < 42) h2 h3 ∧ RT (h3.1 197) 0 (tn + 1) (fup (h.1 11) tn (nI e)) (fup (h.1 12) tn (nI q)) (fup (h.1 13) tn b))) : PairI d 131 249 [.int (nI e), .int (nI q), .int b] h T := by
  have hS := hC.1
  obtain ⟨t1, t2, t3, t4, t5, t6⟩ := told_row (e := nI e) (q := nI q) (b := b) h6 c4.1
  refine M_mono ?_ (M_nz hC.2.1 hc)
  rintro _ _ ⟨⟨rfl, rfl⟩, hz2⟩
  have hS2 : Std (told1 h (nI e) (nI q) b) := by unfold Std at hS ⊢; rw [t1]; exact hS
  refine ⟨1, rfl, M_mono ?_ (M_nz hz2 (hr _ hS2 (by rw [t2 189 (by omega)]; exact c1.2.2.2.2.2.2.1.1.2.1) (by rw [t2 197 (by omega)]; exact c4.2.2)))⟩
  rintro _ h3 ⟨⟨rfl, z1, z2⟩, hz3⟩
  refine ⟨rfl, ?_⟩
  have e2 : h3.2 = h.2 := (Prod.ext (funext fun a => z1.g a) z1.1 : h3.2 = (told1 h (nI e) (nI q) b).2).trans t1
  have er : ∀ a, ¬ (10 ≤ a ∧ a ≤ 13) → zRow a → h3.1 a = h.1 a := fun a b1 b2 => by rw [z1.row b2]; exact t2 a b1
  have e183 : ∀ i, i ≠ 0 → h3.1 183 i = h.1 183 i := fun i i1 => by rw [z1.2.2.2.1 i i1, t2 183 (by omega)]
  have e197 : ∀ i, ¬ (23 ≤ i ∧ i < 42) → h3.1 197 i = h.1 197 i := fun i hi => by rw [z1.2.2.2.2 i hi, t2 197 (by omega)]
  have e5 : fs h3 5 = fs h 5 := fs_rows fun a h1 h2' => er a (by omega) (by omega)
  refine ⟨by unfold Std at hS ⊢; rw [e2]; exact hS, hz3, g, n, m, v, ln, tn + 1, N, u, len, ?_, ?_, ⟨?_, ?_⟩, ⟨?_, ?_, ?_⟩, ?_, ?_, ?_⟩
  · exact GrC_rows e2 (fun a b1 b2 b3 => er a (by omega) (by omega)) (fun a b1 b2 => er a (by omega) (by omega)) (e183 16 (by decide)) c1
  · exact EvC_rows e2 (fun a b1 b2 => er a (by omega) (by omega)) (er 194 (by omega) (by omega)) c2
  · rw [e5]; exact FW_up c3.1
  · rw [e5]; exact RB_rows (fun i h1 h2' => e197 i (by omega)) c3.2
  · rw [z1.row (by omega), t6]
  · rw [z1.row (a := 11) (by omega), z1.row (a := 12) (by omega), z1.row (a := 13) (by omega), t3, t4, t5]
    refine ⟨by omega, fun k hk => ?_⟩
    by_cases hkt : k = tn
    · subst hkt
      rw [fup_eq, fup_eq, fup_eq]
      exact ⟨⟨e, he, rfl⟩, ⟨q, hq, rfl⟩, hb⟩
    · rw [fup_ne hkt, fup_ne hkt, fup_ne hkt]
      exact c4.2.1.2 k (by omega)
  · rw [z1.row (a := 11) (by omega), z1.row (a := 12) (by omega), z1.row (a := 13) (by omega), t3, t4, t5]; exact z2
  · exact PaC_up (PaC_rows (fun a ha => er a (by omega) (by omega)) (e183 23 (by decide)) (fun i i1 i2 => e197 i (by omega)) c5)
  · exact MaC_up (MaC_rows (fun a ha => er a (by omega) (by omega)) (fun i i1 i2 => e197 i (by omega)) c6)
  · exact TaC_rows (fun a ha => er a (by omega) (by omega)) (e183 2 (by decide)) c7
theorem pp_tell {T d : Nat} {h : AHP} (hC : CI T h) (hT : T ≤ 600) {x y b : Int32} (hb : b = 0 ∨ b = 1) : PairI (d + 20) 131 249 [.int x, .int y, .int b] h T := by
  obtain ⟨hS, hz, g, n, m, v, ln, tn, N, u, len, c1, c2, c3, c4, c5, c6, c7⟩ := id hC
  have hL := GrC_law c1
  obtain ⟨hg, h7, _, _, _, hM, hP, hV0, hRG, _⟩ := id c1
  have hm := hP.1.2.2.1
  by_cases hx : ¬ x < 0 ∧ x < nI m
  · by_cases hy : ¬ y < 0 ∧ ¬ 12 < y
    · by_cases h6 : tn < 6
      · obtain ⟨e, he, rfl⟩ := of_lt hx hm
        obtain ⟨q, _, hq, rfl⟩ := of_range hy (show (0 : Int32) = nI 0 from rfl) (show (12 : Int32) = nI 12 from rfl) (by decide) (by decide)
        rcases hb with rfl | rfl
        · exact tell_pair hC c1 c2 c3 c4 c5 c6 c7 he hq h6 (Or.inl rfl) (c_tell0 hS hg h7 hL hM hm hz he hq h6 c4.1) (fun h2 k1 k2 k3 => r_tell0 k1 k2 hm (by omega) k3 he hq h6)
        · exact tell_pair hC c1 c2 c3 c4 c5 c6 c7 he hq h6 (Or.inr rfl) (c_tell1 hS hg h7 hL hM hm hz he hq h6 c4.1) (fun h2 k1 k2 k3 => r_tell1 k1 k2 hm (by omega) k3 he hq h6)
      · have e6 : tn = 6 := by have := c4.2.1.1; omega
        exact q_pair hC (M_we (c_tellS hS hg h7 hL hM hm hz (by rw [c4.1, e6]; rfl))) (fun h2 hw => M_wt (r_tellS (hw.std hS) (W_CPk hw hP).1.2.1 hm c4.2.1.1 (W_RT hw (by omega) c4.2.1.1 c4.2.2) hx hy e6))
    · exact q_pair hC (M_we (c_tellF hS hg h7 hL hM hm hz (fun q => hy q.2))) (fun h2 hw => M_wt (r_tellG (hw.std hS) (W_CPk hw hP).1.2.1 hm c4.2.1.1 (W_RT hw (by omega) c4.2.1.1 c4.2.2) hx hy))
  · exact q_pair hC (M_we (c_tellF hS hg h7 hL hM hm hz (fun q => hx q.1))) (fun h2 hw => M_wt (r_tellF (hw.std hS) (W_CPk hw hP).1.2.1 hm c4.2.1.1 (W_RT hw (by omega) c4.2.1.1 c4.2.2) hx))
