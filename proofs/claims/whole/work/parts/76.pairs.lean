/-! ===== questions: both answer alike ===== -/
theorem M_wl {d k : Nat} {as : List Value} {h : AHP} {a : Int32} (hm : MM d k as h (fun v h2 => v = some (.int a) ∧ ∃ r, Zf trl (rowI h 200 r) h2)) : MM d k as h (fun v h2 => v = some (.int a) ∧ Wq h h2) := M_mono (fun _ _ q => ⟨q.1, q.2.elim fun _ z => W_200.tr z.w⟩) hm
theorem M_wg {d k : Nat} {as : List Value} {h : AHP} {a : Int32} (hm : MM d k as h (fun v h2 => v = some (.int a) ∧ ∃ u, Zf trl (sJ h 183 27 u) h2)) : MM d k as h (fun v h2 => v = some (.int a) ∧ Wq h h2) := M_mono (fun _ _ q => ⟨q.1, q.2.elim fun _ z => W_g.tr z.w⟩) hm
theorem W_RP {h k : AHP} {u : Nat} {P : Nat → FS} (h1 : Wq h k) (hu : u ≤ 16) (hp : RP (h.1 197) u P) : RP (k.1 197) u P := fun a ha => W_RB h1 (by omega) (hp a ha)
theorem not4 {y : Int32} {b : Nat} (hb : b < 1000) (hn : ¬ (¬ y < 0 ∧ ¬ nI b < y)) : y.toInt < 0 ∨ (b : Int) + 1 ≤ y.toInt := by
  have e0 : (0 : Int32).toInt = 0 := rfl
  have eb : (nI b).toInt = b := nI_toInt (by omega)
  rcases Classical.em (y < 0) with h | h
  · have := Int32.lt_iff_toInt_lt.mp h
    exact Or.inl (by omega)
  · have h2 : nI b < y := Classical.byContradiction fun q => hn ⟨h, q⟩
    have := Int32.lt_iff_toInt_lt.mp h2
    exact Or.inr (by omega)
theorem cell_F {x : Int32} (hn : ¬ (¬ x < 0 ∧ ¬ 11 < x)) : ¬ (¬ x < 0 ∧ ¬ 12 ≤ x) := fun q => hn ⟨q.1, fun z => q.2 (by
  have h1 := Int32.lt_iff_toInt_lt.mp z
  have e1 : (11 : Int32).toInt = 11 := rfl
  have e2 : (12 : Int32).toInt = 12 := rfl
  exact Int32.le_iff_toInt_le.mpr (by omega))⟩
theorem p_last {T d : Nat} {h : AHP} (hC : CI T h) (hT : T ≤ 600) : PairI (d + 20) 123 232 [] h T := by
  obtain ⟨hS, hz, g, n, m, v, ln, tn, N, u, len, c1, c2, c3, c4, c5, c6, c7⟩ := id hC
  have hL := GrC_law c1
  obtain ⟨hg, h7, _, _, _, hM, hP, hV0, hRG, _⟩ := id c1
  have hm := hP.1.2.2.1
  exact q_pair hC (M_w (c_last hS hg h7 hL hM hm hz)) (fun h2 hw => M_wz (r_last (W_CPk hw hP) c3.1 (W_RB hw (by omega) c3.2) (by omega)))
theorem p_peak {T d : Nat} {h : AHP} (hC : CI T h) (hT : T ≤ 600) : PairI (d + 20) 124 239 [] h T := by
  obtain ⟨hS, hz, g, n, m, v, ln, tn, N, u, len, c1, c2, c3, c4, c5, c6, c7⟩ := id hC
  have hL := GrC_law c1
  obtain ⟨hg, h7, _, _, _, hM, hP, hV0, hRG, _⟩ := id c1
  have hm := hP.1.2.2.1
  exact q_pair hC (M_w (c_peak hS hg h7 hL hM hm hz)) (fun h2 hw => M_wz (r_peak (W_CPk hw hP) c3.1 (W_RB hw (by omega) c3.2) (by omega)))
theorem p_lasts {T d : Nat} {h : AHP} (hC : CI T h) (hT : T ≤ 600) : PairI (d + 20) 122 234 [] h T := by
  obtain ⟨hS, hz, g, n, m, v, ln, tn, N, u, len, c1, c2, c3, c4, c5, c6, c7⟩ := id hC
  have hL := GrC_law c1
  obtain ⟨hg, h7, _, _, _, hM, hP, hV0, hRG, _⟩ := id c1
  have hm := hP.1.2.2.1
  exact q_pair hC (M_w (c_lasts hS hg h7 hL hM hm hz)) (fun h2 hw => M_wz (r_lasts (W_CPk hw hP) c3.1 (W_RB hw (by omega) c3.2) (by omega)))
theorem p_banks {T d : Nat} {h : AHP} (hC : CI T h) (hT : T ≤ 600) : PairI (d + 20) 127 243 [] h T := by
  obtain ⟨hS, hz, g, n, m, v, ln, tn, N, u, len, c1, c2, c3, c4, c5, c6, c7⟩ := id hC
  have hL := GrC_law c1
  obtain ⟨hg, h7, _, _, _, hM, hP, hV0, hRG, _⟩ := id c1
  have hm := hP.1.2.2.1
  exact q_pair hC (M_w (c_banks hS hg h7 hL hM hm hz)) (fun h2 hw => M_wz (r_banks (W_CPk hw hP) c3.1 (W_RB hw (by omega) c3.2) (by omega)))
theorem p_falls {T d : Nat} {h : AHP} (hC : CI T h) (hT : T ≤ 600) : PairI (d + 20) 142 237 [] h T := by
  obtain ⟨hS, hz, g, n, m, v, ln, tn, N, u, len, c1, c2, c3, c4, c5, c6, c7⟩ := id hC
  have hL := GrC_law c1
  obtain ⟨hg, h7, _, _, _, hM, hP, hV0, hRG, _⟩ := id c1
  have hm := hP.1.2.2.1
  exact q_pair hC (M_w (c_falls hS hg h7 hL hM hm hz)) (fun h2 hw => M_wz (r_fallsP (W_CPk hw hP) c3.1 (W_RB hw (by omega) c3.2) (by omega)))
theorem p_age {T d : Nat} {h : AHP} (hC : CI T h) (hT : T ≤ 600) : PairI (d + 20) 125 240 [] h T := by
  obtain ⟨hS, hz, g, n, m, v, ln, tn, N, u, len, c1, c2, c3, c4, c5, c6, c7⟩ := id hC
  have hL := GrC_law c1
  obtain ⟨hg, h7, _, _, _, hM, hP, hV0, hRG, _⟩ := id c1
  have hm := hP.1.2.2.1
  exact q_pair hC (M_w (c_age hS hg h7 hL hM hm hz)) (fun h2 hw => M_wz (r_age (W_CPk hw hP) c3.1 (W_RB hw (by omega) c3.2) (by omega)))
theorem p_halls {T d : Nat} {h : AHP} (hC : CI T h) (hT : T ≤ 600) : PairI (d + 20) 137 260 [] h T := by
  obtain ⟨hS, hz, g, n, m, v, ln, tn, N, u, len, c1, c2, c3, c4, c5, c6, c7⟩ := id hC
  have hL := GrC_law c1
  obtain ⟨hg, h7, _, _, _, hM, hP, hV0, hRG, _⟩ := id c1
  have hm := hP.1.2.2.1
  exact q_pair hC (M_w (c_halls hS hg h7 hL hM hm hz)) (fun h2 hw => M_wz (r_halls (W_CPk hw hP) c3.1 (W_RB hw (by omega) c3.2) (by omega)))
theorem p_lone {T d : Nat} {h : AHP} (hC : CI T h) (hT : T ≤ 600) : PairI (d + 20) 144 256 [] h T := by
  obtain ⟨hS, hz, g, n, m, v, ln, tn, N, u, len, c1, c2, c3, c4, c5, c6, c7⟩ := id hC
  have hL := GrC_law c1
  obtain ⟨hg, h7, _, _, _, hM, hP, hV0, hRG, _⟩ := id c1
  have hm := hP.1.2.2.1
  exact q_pair hC (M_w (c_lone hS hg h7 hL hM hm hz)) (fun h2 hw => M_wz (r_lone (W_CPk hw hP) c3.1 (W_RB hw (by omega) c3.2) (by omega)))
theorem p_tower {T d : Nat} {h : AHP} (hC : CI T h) (hT : T ≤ 600) : PairI (d + 20) 138 261 [] h T := by
  obtain ⟨hS, hz, g, n, m, v, ln, tn, N, u, len, c1, c2, c3, c4, c5, c6, c7⟩ := id hC
  have hL := GrC_law c1
  obtain ⟨hg, h7, _, _, _, hM, hP, hV0, hRG, _⟩ := id c1
  have hm := hP.1.2.2.1
  exact q_pair hC (M_w (c_tower hS hg h7 hL hM hm hz)) (fun h2 hw => M_wz (r_tower (W_CPk hw hP) c3.1 (W_RB hw (by omega) c3.2) (by omega)))
theorem p_warmest {T d : Nat} {h : AHP} (hC : CI T h) (hT : T ≤ 600) : PairI (d + 20) 145 257 [] h T := by
  obtain ⟨hS, hz, g, n, m, v, ln, tn, N, u, len, c1, c2, c3, c4, c5, c6, c7⟩ := id hC
  have hL := GrC_law c1
  obtain ⟨hg, h7, _, _, _, hM, hP, hV0, hRG, _⟩ := id c1
  have hm := hP.1.2.2.1
  exact q_pair hC (M_w (c_warmest hS hg h7 hL hM hm hz)) (fun h2 hw => M_wz (r_warmest (W_CPk hw hP) c3.1 (W_RB hw (by omega) c3.2) (by omega)))
theorem p_out {T d : Nat} {h : AHP} (hC : CI T h) (hT : T ≤ 600) {x : Int32} : PairI (d + 20) 121 231 [.int x] h T := by
  obtain ⟨hS, hz, g, n, m, v, ln, tn, N, u, len, c1, c2, c3, c4, c5, c6, c7⟩ := id hC
  have hL := GrC_law c1
  obtain ⟨hg, h7, _, _, _, hM, hP, hV0, hRG, _⟩ := id c1
  have hm := hP.1.2.2.1
  by_cases hx : ¬ x < 0 ∧ x < nI m
  · obtain ⟨e, he, rfl⟩ := of_lt hx hm
    exact q_pair hC (M_w (c_out hS hg h7 hL hM hm hz he)) (fun h2 hw => M_wz (r_out (W_CPk hw hP) c3.1 (W_RB hw (by omega) c3.2) (by omega) he))
  · exact q_pair hC (M_w (c_outF hS hg h7 hL hM hm hz hx)) (fun h2 hw => M_wz (r_outF (W_CPk hw hP) c3.1 (W_RB hw (by omega) c3.2) (by omega) hx))
theorem p_caught {T d : Nat} {h : AHP} (hC : CI T h) (hT : T ≤ 600) {x : Int32} : PairI (d + 20) 140 235 [.int x] h T := by
  obtain ⟨hS, hz, g, n, m, v, ln, tn, N, u, len, c1, c2, c3, c4, c5, c6, c7⟩ := id hC
  have hL := GrC_law c1
  obtain ⟨hg, h7, _, _, _, hM, hP, hV0, hRG, _⟩ := id c1
  have hm := hP.1.2.2.1
  by_cases hx : ¬ x < 0 ∧ x < nI m
  · obtain ⟨e, he, rfl⟩ := of_lt hx hm
    exact q_pair hC (M_w (c_caught hS hg h7 hL hM hm hz he)) (fun h2 hw => M_wz (r_caught (W_CPk hw hP) c3.1 (W_RB hw (by omega) c3.2) (by omega) he))
  · exact q_pair hC (M_w (c_caughtF hS hg h7 hL hM hm hz hx)) (fun h2 hw => M_wz (r_caughtF (W_CPk hw hP) c3.1 (W_RB hw (by omega) c3.2) (by omega) hx))
theorem p_alight {T d : Nat} {h : AHP} (hC : CI T h) (hT : T ≤ 600) {x : Int32} : PairI (d + 20) 139 262 [.int x] h T := by
  obtain ⟨hS, hz, g, n, m, v, ln, tn, N, u, len, c1, c2, c3, c4, c5, c6, c7⟩ := id hC
  have hL := GrC_law c1
  obtain ⟨hg, h7, _, _, _, hM, hP, hV0, hRG, _⟩ := id c1
  have hm := hP.1.2.2.1
  by_cases hx : ¬ x < 0 ∧ ¬ 40 < x
  · obtain ⟨q, hq1, hq2, rfl⟩ := of_range hx (show (0 : Int32) = nI 0 from rfl) (show (40 : Int32) = nI 40 from rfl) (by decide) (by decide)
    exact q_pair hC (M_w (c_alight hS hg h7 hL hM hm hz (q := q) hq2)) (fun h2 hw => M_wz (r_alight (W_CPk hw hP) c3.1 (W_RB hw (by omega) c3.2) (by omega) (q := q) hq2))
  · exact q_pair hC (M_w (c_alightF hS hg h7 hL hM hm hz hx)) (fun h2 hw => M_wz (r_alightF (W_CPk hw hP) c3.1 (W_RB hw (by omega) c3.2) (by omega) hx))
theorem p_ash {T d : Nat} {h : AHP} (hC : CI T h) (hT : T ≤ 600) {x : Int32} : PairI (d + 20) 141 236 [.int x] h T := by
  obtain ⟨hS, hz, g, n, m, v, ln, tn, N, u, len, c1, c2, c3, c4, c5, c6, c7⟩ := id hC
  have hL := GrC_law c1
  obtain ⟨hg, h7, _, _, _, hM, hP, hV0, hRG, _⟩ := id c1
  have hm := hP.1.2.2.1
  by_cases hx : ¬ x < 0 ∧ ¬ 40 < x
  · obtain ⟨q, hq1, hq2, rfl⟩ := of_range hx (show (0 : Int32) = nI 0 from rfl) (show (40 : Int32) = nI 40 from rfl) (by decide) (by decide)
    exact q_pair hC (M_w (c_ash hS hg h7 hL hM hm hz (q := q) hq2)) (fun h2 hw => M_wz (r_ash (W_CPk hw hP) c3.1 (W_RB hw (by omega) c3.2) (by omega) (q := q) hq2))
  · exact q_pair hC (M_w (c_ashF hS hg h7 hL hM hm hz hx)) (fun h2 hw => M_wz (r_ashF (W_CPk hw hP) c3.1 (W_RB hw (by omega) c3.2) (by omega) hx))
theorem p_stir {T d : Nat} {h : AHP} (hC : CI T h) (hT : T ≤ 600) {x : Int32} : PairI (d + 20) 128 244 [.int x] h T := by
  obtain ⟨hS, hz, g, n, m, v, ln, tn, N, u, len, c1, c2, c3, c4, c5, c6, c7⟩ := id hC
  have hL := GrC_law c1
  obtain ⟨hg, h7, _, _, _, hM, hP, hV0, hRG, _⟩ := id c1
  have hm := hP.1.2.2.1
  by_cases hx : ¬ x < 1 ∧ ¬ 12 < x
  · obtain ⟨q, hq1, hq2, rfl⟩ := of_range hx (show (1 : Int32) = nI 1 from rfl) (show (12 : Int32) = nI 12 from rfl) (by decide) (by decide)
    exact q_pair hC (M_w (c_stir hS hg h7 hL hM hm hz (q := q) hq1 hq2)) (fun h2 hw => M_wz (r_stir (W_CPk hw hP) c3.1 (W_RB hw (by omega) c3.2) (by omega) (q := q) hq1 hq2))
  · exact q_pair hC (M_w (c_stirF hS hg h7 hL hM hm hz hx)) (fun h2 hw => M_wz (r_stirF (W_CPk hw hP) c3.1 (W_RB hw (by omega) c3.2) (by omega) hx))
theorem p_move {T d : Nat} {h : AHP} (hC : CI T h) (hT : T ≤ 600) {x : Int32} : PairI (d + 20) 126 241 [.int x] h T := by
  obtain ⟨hS, hz, g, n, m, v, ln, tn, N, u, len, c1, c2, c3, c4, c5, c6, c7⟩ := id hC
  have hL := GrC_law c1
  obtain ⟨hg, h7, _, _, _, hM, hP, hV0, hRG, _⟩ := id c1
  have hm := hP.1.2.2.1
  by_cases hx : ¬ x < 0 ∧ ¬ 1 < x
  · exact q_pair hC (M_w (c_move hS hg h7 hL hM hm hz hx)) (fun h2 hw => M_wz (r_move (W_CPk hw hP) c3.1 (W_RB hw (by omega) c3.2) (by omega) hx))
  · exact q_pair hC (M_w (c_moveF hS hg h7 hL hM hm hz hx)) (fun h2 hw => M_wz (r_moveF (W_CPk hw hP) c3.1 (W_RB hw (by omega) c3.2) (by omega) hx))
theorem p_touch {T d : Nat} {h : AHP} (hC : CI T h) (hT : T ≤ 600) {x : Int32} : PairI (d + 20) 135 255 [.int x] h T := by
  obtain ⟨hS, hz, g, n, m, v, ln, tn, N, u, len, c1, c2, c3, c4, c5, c6, c7⟩ := id hC
  have hL := GrC_law c1
  obtain ⟨hg, h7, _, _, _, hM, hP, hV0, hRG, _⟩ := id c1
  have hm := hP.1.2.2.1
  by_cases hh : hasF (fs h 5) x
  · obtain ⟨e, he, _, rfl⟩ := has_lt c3.1.1 hh
    exact q_pair hC (M_w (c_touch hS hg h7 hL hM hm hz hh)) (fun h2 hw => M_wz (r_touch (W_CPk hw hP) c3.1 (W_RB hw (by omega) c3.2) (by omega) he hh))
  · by_cases hx : ¬ x < 0 ∧ x < nI m
    · obtain ⟨e, he, rfl⟩ := of_lt hx hm
      exact q_pair hC (M_w (c_touchF hS hg h7 hL hM hm hz hh)) (fun h2 hw => M_wz (r_touchA (W_CPk hw hP) c3.1 (W_RB hw (by omega) c3.2) (by omega) he hh))
    · exact q_pair hC (M_w (c_touchF hS hg h7 hL hM hm hz hh)) (fun h2 hw => M_wz (r_touchF (W_CPk hw hP) c3.1 (W_RB hw (by omega) c3.2) (by omega) hx))
theorem p_hall {T d : Nat} {h : AHP} (hC : CI T h) (hT : T ≤ 600) {x : Int32} : PairI (d + 20) 136 259 [.int x] h T := by
  obtain ⟨hS, hz, g, n, m, v, ln, tn, N, u, len, c1, c2, c3, c4, c5, c6, c7⟩ := id hC
  have hL := GrC_law c1
  obtain ⟨hg, h7, _, _, _, hM, hP, hV0, hRG, _⟩ := id c1
  have hm := hP.1.2.2.1
  by_cases hh : hasF (fs h 5) x
  · obtain ⟨e, he, _, rfl⟩ := has_lt c3.1.1 hh
    exact q_pair hC (M_w (c_hall hS hg h7 hL hM hm hz hh)) (fun h2 hw => M_wz (r_hall (W_CPk hw hP) c3.1 (W_RB hw (by omega) c3.2) (by omega) he hh))
  · by_cases hx : ¬ x < 0 ∧ x < nI m
    · obtain ⟨e, he, rfl⟩ := of_lt hx hm
      exact q_pair hC (M_w (c_hallF hS hg h7 hL hM hm hz hh)) (fun h2 hw => M_wz (r_hallA (W_CPk hw hP) c3.1 (W_RB hw (by omega) c3.2) (by omega) he hh))
    · exact q_pair hC (M_w (c_hallF hS hg h7 hL hM hm hz hh)) (fun h2 hw => M_wz (r_hallF (W_CPk hw hP) c3.1 (W_RB hw (by omega) c3.2) (by omega) hx))
theorem p_spare {T d : Nat} {h : AHP} (hC : CI T h) (hT : T ≤ 600) {x : Int32} : PairI (d + 20) 143 238 [.int x] h T := by
  obtain ⟨hS, hz, g, n, m, v, ln, tn, N, u, len, c1, c2, c3, c4, c5, c6, c7⟩ := id hC
  have hL := GrC_law c1
  obtain ⟨hg, h7, _, _, _, hM, hP, hV0, hRG, _⟩ := id c1
  have hm := hP.1.2.2.1
  by_cases hh : hasF (fs h 5) x
  · obtain ⟨e, he, _, rfl⟩ := has_lt c3.1.1 hh
    exact q_pair hC (M_w (c_spare hS hg h7 hL hM hm hz hh)) (fun h2 hw => M_wz (r_spare (W_CPk hw hP) c3.1 (W_RB hw (by omega) c3.2) (by omega) he hh))
  · by_cases hx : ¬ x < 0 ∧ x < nI m
    · obtain ⟨e, he, rfl⟩ := of_lt hx hm
      exact q_pair hC (M_w (c_spareF hS hg h7 hL hM hm hz hh)) (fun h2 hw => M_wz (r_spareA (W_CPk hw hP) c3.1 (W_RB hw (by omega) c3.2) (by omega) he hh))
    · exact q_pair hC (M_w (c_spareF hS hg h7 hL hM hm hz hh)) (fun h2 hw => M_wz (r_spareF (W_CPk hw hP) c3.1 (W_RB hw (by omega) c3.2) (by omega) hx))
theorem p_save {T d : Nat} {h : AHP} (hC : CI T h) (hT : T ≤ 600) {x : Int32} : PairI (d + 20) 130 248 [.int x] h T := by
  obtain ⟨hS, hz, g, n, m, v, ln, tn, N, u, len, c1, c2, c3, c4, c5, c6, c7⟩ := id hC
  have hL := GrC_law c1
  obtain ⟨hg, h7, _, _, _, hM, hP, hV0, hRG, _⟩ := id c1
  have hm := hP.1.2.2.1
  by_cases hh : hasF (fs h 5) x
  · obtain ⟨e, he, _, rfl⟩ := has_lt c3.1.1 hh
    exact q_pair hC (M_w (c_save hS hg h7 hL hM hm hz hh)) (fun h2 hw => by
      have q := r_save (d := d + 14) (W_CPk hw hP) c3.1 (W_RB hw (by omega) c3.2) (by omega) he hh rfl
      rw [save_eq c3.1.1 hm he rfl] at q
      exact M_wz q)
  · by_cases hx : ¬ x < 0 ∧ x < nI m
    · obtain ⟨e, he, rfl⟩ := of_lt hx hm
      exact q_pair hC (M_w (c_saveF hS hg h7 hL hM hm hz hh)) (fun h2 hw => M_wz (r_saveA (W_CPk hw hP) c3.1 (W_RB hw (by omega) c3.2) (by omega) he hh))
    · exact q_pair hC (M_w (c_saveF hS hg h7 hL hM hm hz hh)) (fun h2 hw => M_wz (r_saveF (W_CPk hw hP) c3.1 (W_RB hw (by omega) c3.2) (by omega) hx))
theorem p_kindle {T d : Nat} {h : AHP} (hC : CI T h) (hT : T ≤ 600) : PairI (d + 20) 129 247 [] h T := by
  obtain ⟨hS, hz, g, n, m, v, ln, tn, N, u, len, c1, c2, c3, c4, c5, c6, c7⟩ := id hC
  have hL := GrC_law c1
  obtain ⟨hg, h7, _, _, _, hM, hP, hV0, hRG, _⟩ := id c1
  have hm := hP.1.2.2.1
  exact q_pair hC (M_w (c_kindle hS hg h7 hL hM hm hz)) (fun h2 hw => by
    have q := r_kindle (d := d + 14) (W_CPk hw hP) c3.1 (W_RB hw (by omega) c3.2) (by omega) rfl
    rw [kindle_eq c3.1.1 hm rfl] at q
    exact M_wz q)
theorem p_which {T d : Nat} {h : AHP} (hC : CI T h) (hT : T ≤ 600) : PairI (d + 20) 132 252 [] h T := by
  obtain ⟨hS, hz, g, n, m, v, ln, tn, N, u, len, c1, c2, c3, c4, c5, c6, c7⟩ := id hC
  have hL := GrC_law c1
  obtain ⟨hg, h7, _, _, _, hM, hP, hV0, hRG, _⟩ := id c1
  have hm := hP.1.2.2.1
  exact q_pair hC (M_w (c_which hS hg h7 hL hM hm hz c4.2.1 c4.1)) (fun h2 hw => M_wz (r_which (W_CPk hw hP) c3.1 (W_RB hw (by omega) c3.2) (by omega) c4.2.1 (W_RT hw (by omega) c4.2.1.1 c4.2.2)))
theorem p_look {T d : Nat} {h : AHP} (hC : CI T h) (hT : T ≤ 600) {x : Int32} : PairI (d + 20) 133 253 [.int x] h T := by
  obtain ⟨hS, hz, g, n, m, v, ln, tn, N, u, len, c1, c2, c3, c4, c5, c6, c7⟩ := id hC
  have hL := GrC_law c1
  obtain ⟨hg, h7, _, _, _, hM, hP, hV0, hRG, _⟩ := id c1
  have hm := hP.1.2.2.1
  by_cases hx : ¬ x < 0 ∧ ¬ 12 < x
  · obtain ⟨q, hq1, hq2, rfl⟩ := of_range hx (show (0 : Int32) = nI 0 from rfl) (show (12 : Int32) = nI 12 from rfl) (by decide) (by decide)
    exact q_pair hC (M_w (c_look hS hg h7 hL hM hm hz c4.2.1 c4.1 hq2)) (fun h2 hw => M_wl (r_look (W_CPk hw hP) c3.1 (W_RB hw (by omega) c3.2) (by omega) c4.2.1 (W_RT hw (by omega) c4.2.1.1 c4.2.2) hq2))
  · exact q_pair hC (M_w (c_lookF hS hg h7 hL hM hm hz hx)) (fun h2 hw => M_wl (r_lookF (W_CPk hw hP) c3.1 (W_RB hw (by omega) c3.2) (by omega) c4.2.1 (W_RT hw (by omega) c4.2.1.1 c4.2.2) hx))
theorem p_chance {T d : Nat} {h : AHP} (hC : CI T h) (hT : T ≤ 600) {x y z : Int32} : PairI (d + 20) 134 254 [.int x, .int y, .int z] h T := by
  obtain ⟨hS, hz, g, n, m, v, ln, tn, N, u, len, c1, c2, c3, c4, c5, c6, c7⟩ := id hC
  have hL := GrC_law c1
  obtain ⟨hg, h7, _, _, _, hM, hP, hV0, hRG, _⟩ := id c1
  have hm := hP.1.2.2.1
  by_cases hx : (¬ x < 0 ∧ x < nI m) ∧ (¬ y < 1 ∧ ¬ 6 < y) ∧ (¬ z < 0 ∧ ¬ 10 < z)
  · obtain ⟨e, he, rfl⟩ := of_lt hx.1 hm
    obtain ⟨q, hq1, hq2, rfl⟩ := of_range hx.2.1 (show (1 : Int32) = nI 1 from rfl) (show (6 : Int32) = nI 6 from rfl) (by decide) (by decide)
    obtain ⟨od, _, ho, rfl⟩ := of_range hx.2.2 (show (0 : Int32) = nI 0 from rfl) (show (10 : Int32) = nI 10 from rfl) (by decide) (by decide)
    exact q_pair hC (M_w (c_chance hS hg h7 hL hM hm hz he hq1 hq2 ho)) (fun h2 hw => M_wz (r_chance (W_CPk hw hP) c3.1 (W_RB hw (by omega) c3.2) (by omega) he hq1 hq2 ho))
  · exact q_pair hC (M_w (c_chanceF hS hg h7 hL hM hm hz hx)) (fun h2 hw => M_wz (r_chanceF (W_CPk hw hP) c3.1 (W_RB hw (by omega) c3.2) (by omega) hx))
theorem p_winters {T d : Nat} {h : AHP} (hC : CI T h) (hT : T ≤ 600) {x y z : Int32} : PairI (d + 20) 146 267 [.int x, .int y, .int z] h T := by
  obtain ⟨hS, hz, g, n, m, v, ln, tn, N, u, len, c1, c2, c3, c4, c5, c6, c7⟩ := id hC
  have hL := GrC_law c1
  obtain ⟨hg, h7, _, _, _, hM, hP, hV0, hRG, _⟩ := id c1
  have hm := hP.1.2.2.1
  by_cases hx : (¬ x < 0 ∧ ¬ 9999 < x) ∧ (¬ y < 1 ∧ ¬ 99 < y) ∧ (¬ z < 0 ∧ ¬ 2 < z)
  · obtain ⟨s, _, hs, rfl⟩ := of_range hx.1 (show (0 : Int32) = nI 0 from rfl) (show (9999 : Int32) = nI 9999 from rfl) (by decide) (by decide)
    obtain ⟨q, hq1, hq2, rfl⟩ := of_range hx.2.1 (show (1 : Int32) = nI 1 from rfl) (show (99 : Int32) = nI 99 from rfl) (by decide) (by decide)
    obtain ⟨od, _, ho, rfl⟩ := of_range hx.2.2 (show (0 : Int32) = nI 0 from rfl) (show (2 : Int32) = nI 2 from rfl) (by decide) (by decide)
    exact q_pair hC (M_w (c_winters hS hg h7 hL hM hm hz hs hq1 hq2 ho)) (fun h2 hw => M_wg (r_winters (W_CPk hw hP) c3.1 (W_RB hw (by omega) c3.2) (by omega) hs hq1 hq2 ho hM))
  · exact q_pair hC (M_w (c_wintersF hS hg h7 hL hM hm hz hx)) (fun h2 hw => M_wg (r_wintersF (W_CPk hw hP) c3.1 (W_RB hw (by omega) c3.2) (by omega) hx))
theorem p_judged {T d : Nat} {h : AHP} (hC : CI T h) (hT : T ≤ 600) {x : Int32} : PairI (d + 20) 120 228 [.int x] h T := by
  obtain ⟨hS, hz, g, n, m, v, ln, tn, N, u, len, c1, c2, c3, c4, c5, c6, c7⟩ := id hC
  have hL := GrC_law c1
  obtain ⟨hg, h7, _, _, _, hM, hP, hV0, hRG, _⟩ := id c1
  have hm := hP.1.2.2.1
  have hW0 : FW m 0 (fs h (g + 3)) := ⟨hV0, 0, Nat.le_refl _, hRG.2.2.1⟩
  by_cases hx : ¬ x < 0 ∧ ¬ 2 < x
  · obtain ⟨q, hq1, hq2, rfl⟩ := of_range hx (show (0 : Int32) = nI 0 from rfl) (show (2 : Int32) = nI 2 from rfl) (by decide) (by decide)
    exact q_pair hC (M_w (c_judged hS hg h7 hL hM hm hz c2.1 c2.2.1 c2.2.2.2.2.1.1 c2.2.2.2.1 hq2)) (fun h2 hw => M_wz (r_judged (T := 0) (W_CPk hw hP) (W_RG hw hRG) hW0 (W_LN hw c2.2.2.2.2.2) c2.2.2.2.2.1 (by decide) hx))
  · exact q_pair hC (M_w (c_judgedF hS hg h7 hL hM hm hz c2.1 c2.2.1 c2.2.2.2.2.1.1 c2.2.2.2.1 hx)) (fun h2 hw => M_wz (r_judgedF (T := 0) (W_CPk hw hP) (W_RG hw hRG) hW0 (W_LN hw c2.2.2.2.2.2) c2.2.2.2.2.1 (by decide) hx))
theorem p_cell {T d : Nat} {h : AHP} (hC : CI T h) (hT : T ≤ 600) {x : Int32} : PairI (d + 20) 113 220 [.int x] h T := by
  obtain ⟨hS, hz, g, n, m, v, ln, tn, N, u, len, c1, c2, c3, c4, c5, c6, c7⟩ := id hC
  have hL := GrC_law c1
  obtain ⟨hg, h7, _, _, _, hM, hP, hV0, hRG, _⟩ := id c1
  have hm := hP.1.2.2.1
  by_cases hx : ¬ x < 0 ∧ ¬ 11 < x
  · obtain ⟨c, _, hc, rfl⟩ := of_range hx (show (0 : Int32) = nI 0 from rfl) (show (11 : Int32) = nI 11 from rfl) (by decide) (by decide)
    exact q_pair hC (M_we (c_cell hS hg h7 hL hM hm hz (by omega))) (fun h2 hw => M_wt (r_cell (W_CPk hw hP) c3.1 (W_RB hw (by omega) c3.2) (by omega) ((hw.2.2.2.1 23 (by decide)).trans c5.2.2.2.2.2.1) c5.2.2.1 (W_RP hw c5.2.2.1 c5.2.2.2.2.2.2.2) (by omega)))
  · exact q_pair hC (M_we (c_cellF hS hg h7 hL hM hm hz (cell_F hx))) (fun h2 hw => M_wt (r_cellF (W_CPk hw hP) c3.1 (W_RB hw (by omega) c3.2) (by omega) ((hw.2.2.2.1 23 (by decide)).trans c5.2.2.2.2.2.1) c5.2.2.1 (W_RP hw c5.2.2.1 c5.2.2.2.2.2.2.2) hx))
theorem p_ember {T d : Nat} {h : AHP} (hC : CI T h) (hT : T ≤ 600) {x y : Int32} : PairI (d + 20) 112 219 [.int x, .int y] h T := by
  obtain ⟨hS, hz, g, n, m, v, ln, tn, N, u, len, c1, c2, c3, c4, c5, c6, c7⟩ := id hC
  have hL := GrC_law c1
  obtain ⟨hg, h7, _, _, _, hM, hP, hV0, hRG, _⟩ := id c1
  have hm := hP.1.2.2.1
  by_cases hx : ¬ x < 0 ∧ x < nI m
  · obtain ⟨e, he, rfl⟩ := of_lt hx hm
    by_cases hy : ¬ y < 0 ∧ ¬ 4 < y
    · obtain ⟨w, _, hw4, rfl⟩ := of_range hy (show (0 : Int32) = nI 0 from rfl) (show (4 : Int32) = nI 4 from rfl) (by decide) (by decide)
      have h5 : w = 0 ∨ w = 1 ∨ w = 2 ∨ w = 3 ∨ w = 4 := by omega
      rcases h5 with rfl | rfl | rfl | rfl | rfl
      · exact q_pair hC (M_we (c_ember0 hS hg h7 hL hM hm hz he)) (fun h2 hw => M_wt (r_ember0 (W_CPk hw hP) c3.1 (W_RB hw (by omega) c3.2) (by omega) ((hw.2.2.2.1 23 (by decide)).trans c5.2.2.2.2.2.1) c5.2.2.1 (W_RP hw c5.2.2.1 c5.2.2.2.2.2.2.2) he))
      · exact q_pair hC (M_we (c_ember1 hS hg h7 hL hM hm hz he)) (fun h2 hw => M_wt (r_ember1 (W_CPk hw hP) c3.1 (W_RB hw (by omega) c3.2) (by omega) ((hw.2.2.2.1 23 (by decide)).trans c5.2.2.2.2.2.1) c5.2.2.1 (W_RP hw c5.2.2.1 c5.2.2.2.2.2.2.2) he))
      · exact q_pair hC (M_we (c_ember2 hS hg h7 hL hM hm hz he)) (fun h2 hw => M_wt (r_ember2 (W_CPk hw hP) c3.1 (W_RB hw (by omega) c3.2) (by omega) ((hw.2.2.2.1 23 (by decide)).trans c5.2.2.2.2.2.1) c5.2.2.1 (W_RP hw c5.2.2.1 c5.2.2.2.2.2.2.2) he))
      · exact q_pair hC (M_we (c_ember3 hS hg h7 hL hM hm hz he)) (fun h2 hw => M_wt (r_ember3 (W_CPk hw hP) c3.1 (W_RB hw (by omega) c3.2) (by omega) ((hw.2.2.2.1 23 (by decide)).trans c5.2.2.2.2.2.1) c5.2.2.1 (W_RP hw c5.2.2.1 c5.2.2.2.2.2.2.2) he))
      · exact q_pair hC (M_we (c_ember4 hS hg h7 hL hM hm hz he)) (fun h2 hw => M_wt (r_ember4 (W_CPk hw hP) c3.1 (W_RB hw (by omega) c3.2) (by omega) ((hw.2.2.2.1 23 (by decide)).trans c5.2.2.2.2.2.1) c5.2.2.1 (W_RP hw c5.2.2.1 c5.2.2.2.2.2.2.2) he))
    · exact q_pair hC (M_we (c_emberG hS hg h7 hL hM hm hz he (not4 (b := 4) (by decide) hy))) (fun h2 hw => M_wt (r_emberG (W_CPk hw hP) c3.1 (W_RB hw (by omega) c3.2) (by omega) ((hw.2.2.2.1 23 (by decide)).trans c5.2.2.2.2.2.1) c5.2.2.1 (W_RP hw c5.2.2.1 c5.2.2.2.2.2.2.2) he hy))
  · exact q_pair hC (M_we (c_emberF hS hg h7 hL hM hm hz hx)) (fun h2 hw => M_wt (r_emberF (W_CPk hw hP) c3.1 (W_RB hw (by omega) c3.2) (by omega) ((hw.2.2.2.1 23 (by decide)).trans c5.2.2.2.2.2.1) c5.2.2.1 (W_RP hw c5.2.2.1 c5.2.2.2.2.2.2.2) hx))
theorem p_count {T d : Nat} {h : AHP} (hC : CI T h) (hT : T ≤ 600) {x : Int32} : PairI (d + 20) 148 269 [.int x] h T := by
  obtain ⟨hS, hz, g, n, m, v, ln, tn, N, u, len, c1, c2, c3, c4, c5, c6, c7⟩ := id hC
  have hL := GrC_law c1
  obtain ⟨hg, h7, _, _, _, hM, hP, hV0, hRG, _⟩ := id c1
  have hm := hP.1.2.2.1
  by_cases hx : ¬ x < 0 ∧ ¬ 11 < x
  · obtain ⟨w, _, hw4, rfl⟩ := of_range hx (show (0 : Int32) = nI 0 from rfl) (show (11 : Int32) = nI 11 from rfl) (by decide) (by decide)
    have h5 : w = 0 ∨ w = 1 ∨ w = 2 ∨ w = 3 ∨ w = 4 ∨ w = 5 ∨ w = 6 ∨ w = 7 ∨ w = 8 ∨ w = 9 ∨ w = 10 ∨ w = 11 := by omega
    rcases h5 with rfl | rfl | rfl | rfl | rfl | rfl | rfl | rfl | rfl | rfl | rfl | rfl
    · exact q_pair hC (M_we (c_count0 hS hg h7 hL hM hm hz)) (fun h2 hw => M_wt (r_count0 (W_CPk hw hP) c3.1 (W_RB hw (by omega) c3.2) (by omega) ((hw.2.2.2.1 23 (by decide)).trans c5.2.2.2.2.2.1) c5.2.2.1 (W_RP hw c5.2.2.1 c5.2.2.2.2.2.2.2)))
    · exact q_pair hC (M_we (c_count1 hS hg h7 hL hM hm hz)) (fun h2 hw => M_wt (r_count1 (W_CPk hw hP) c3.1 (W_RB hw (by omega) c3.2) (by omega) ((hw.2.2.2.1 23 (by decide)).trans c5.2.2.2.2.2.1) c5.2.2.1 (W_RP hw c5.2.2.1 c5.2.2.2.2.2.2.2)))
    · exact q_pair hC (M_we (c_count2 hS hg h7 hL hM hm hz)) (fun h2 hw => M_wt (r_count2 (W_CPk hw hP) c3.1 (W_RB hw (by omega) c3.2) (by omega) ((hw.2.2.2.1 23 (by decide)).trans c5.2.2.2.2.2.1) c5.2.2.1 (W_RP hw c5.2.2.1 c5.2.2.2.2.2.2.2)))
    · exact q_pair hC (M_we (c_count3 hS hg h7 hL hM hm hz)) (fun h2 hw => M_wt (r_count3 (W_CPk hw hP) c3.1 (W_RB hw (by omega) c3.2) (by omega) ((hw.2.2.2.1 23 (by decide)).trans c5.2.2.2.2.2.1) c5.2.2.1 (W_RP hw c5.2.2.1 c5.2.2.2.2.2.2.2)))
    · exact q_pair hC (M_we (c_count4 hS hg h7 hL hM hm hz)) (fun h2 hw => M_wt (r_count4 (W_CPk hw hP) c3.1 (W_RB hw (by omega) c3.2) (by omega) ((hw.2.2.2.1 23 (by decide)).trans c5.2.2.2.2.2.1) c5.2.2.1 (W_RP hw c5.2.2.1 c5.2.2.2.2.2.2.2)))
    · exact q_pair hC (M_we (c_count5 hS hg h7 hL hM hm hz)) (fun h2 hw => M_wt (r_count5 (W_CPk hw hP) c3.1 (W_RB hw (by omega) c3.2) (by omega) ((hw.2.2.2.1 23 (by decide)).trans c5.2.2.2.2.2.1) c5.2.2.1 (W_RP hw c5.2.2.1 c5.2.2.2.2.2.2.2)))
    · exact q_pair hC (M_we (c_count6 hS hg h7 hL hM hm hz)) (fun h2 hw => M_wt (r_count6 (W_CPk hw hP) c3.1 (W_RB hw (by omega) c3.2) (by omega) ((hw.2.2.2.1 23 (by decide)).trans c5.2.2.2.2.2.1) c5.2.2.1 (W_RP hw c5.2.2.1 c5.2.2.2.2.2.2.2)))
    · exact q_pair hC (M_we (c_count7 hS hg h7 hL hM hm hz)) (fun h2 hw => M_wt (r_count7 (W_CPk hw hP) c3.1 (W_RB hw (by omega) c3.2) (by omega) ((hw.2.2.2.1 23 (by decide)).trans c5.2.2.2.2.2.1) c5.2.2.1 (W_RP hw c5.2.2.1 c5.2.2.2.2.2.2.2)))
    · exact q_pair hC (M_we (c_count8 hS hg h7 hL hM hm hz c2.1 c2.2.1)) (fun h2 hw => by
        have q := r_count8 (d := d + 15) (W_CPk hw hP) c3.1 (W_RB hw (by omega) c3.2) (by omega) ((hw.2.2.2.1 23 (by decide)).trans c5.2.2.2.2.2.1) c5.2.2.1 (W_RP hw c5.2.2.1 c5.2.2.2.2.2.2.2)
        rw [show h2.1 194 0 = h.1 v 3 from (W_LN hw c2.2.2.2.2.2).1.trans c2.2.2.2.1.symm] at q
        exact M_wt q)
    · exact q_pair hC (M_we (c_count9 hS hg h7 hL hM hm hz)) (fun h2 hw => by
        have q := r_count9 (d := d + 15) (W_CPk hw hP) c3.1 (W_RB hw (by omega) c3.2) (by omega) ((hw.2.2.2.1 23 (by decide)).trans c5.2.2.2.2.2.1) c5.2.2.1 (W_RP hw c5.2.2.1 c5.2.2.2.2.2.2.2)
        rw [show h2.1 197 23 = h.1 10 3 from (W_RT hw (by omega) c4.2.1.1 c4.2.2).1.trans c4.1.symm] at q
        exact M_wt q)
    · exact q_pair hC (M_we (c_count10 hS hg h7 hL hM hm hz)) (fun h2 hw => by
        have q := r_count10 (d := d + 15) (W_CPk hw hP) c3.1 (W_RB hw (by omega) c3.2) (by omega) ((hw.2.2.2.1 23 (by decide)).trans c5.2.2.2.2.2.1) c5.2.2.1 (W_RP hw c5.2.2.1 c5.2.2.2.2.2.2.2)
        rw [show nI u = h.1 14 5 from c5.2.1.symm] at q
        exact M_wt q)
    · exact q_pair hC (M_we (c_count11 hS hg h7 hL hM hm hz)) (fun h2 hw => by
        have q := r_count11 (d := d + 15) (W_CPk hw hP) c3.1 (W_RB hw (by omega) c3.2) (by omega) ((hw.2.2.2.1 23 (by decide)).trans c5.2.2.2.2.2.1) c5.2.2.1 (W_RP hw c5.2.2.1 c5.2.2.2.2.2.2.2)
        rw [show h2.1 183 2 = h.1 2 1 from (hw.2.2.2.1 2 (by decide)).trans (c7.2.2.1.trans c7.2.1.symm)] at q
        exact M_wt q)
  · exact q_pair hC (M_we (c_countF (not4 (b := 11) (by decide) hx))) (fun h2 hw => M_wt (r_countF (hw.std hS) (not4 (b := 11) (by decide) hx)))
