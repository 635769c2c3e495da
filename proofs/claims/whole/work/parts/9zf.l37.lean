/-! ===== rests, as the law asks it ===== -/
theorem lg_cmp_rf {x : Int64} : lg_cmp x x = 0 := by
  unfold lg_cmp
  rw [if_neg (show ¬ x > x from Int64.lt_irrefl), if_pos rfl]
theorem SC_J {f : Nat → Int32} {N c : Nat} {h : AHP} {v : Int64} (hz : SC f N c h) : SC f N c (sJ h 201 0 v) := hz
theorem SC_H {f : Nat → Int32} {N c : Nat} {h : AHP} (hz : SC f N c h) : SC f N (c + 1) (rsH h) := ⟨hz.1, hz.2.1, congrArg (fun z => z + 1) hz.2.2.1, Nat.le_trans hz.2.2.2 (Nat.le_succ c)⟩
theorem Std_H {h : AHP} (hS : Std h) : Std (rsH h) := ⟨Nat.le_trans hS.1 (Nat.le_succ _), hS.2⟩
theorem NZ_H {h : AHP} (hS : Std h) (hz : NZ h) : NZ (rsH h) := ⟨fun a ha _ i hi => hz.1 a ha (Nat.le_trans (lay_lt ha (by decide)).2 hS.1) i hi, fun a ha _ => hz.2 a ha (Nat.le_trans (lay_lt ha (by decide)).2 hS.1)⟩
theorem CI_H {T : Nat} {h : AHP} (hC : CI T h) : CI T (rsH h) := by
  obtain ⟨hS, hz, g, n, m, v, ln, tn, N, u, len, h1, h2, h3, h4, h5, h6, h7⟩ := hC
  obtain ⟨k1, k2', k3, k4, k5, k6, k7, k8, k9, k10⟩ := h1
  exact ⟨Std_H hS, NZ_H hS hz, g, n, m, v, ln, tn, N, u, len, ⟨k1, k2', k3, k4, k5, k6, ⟨⟨Std_H k7.1.1, k7.1.2⟩, k7.2⟩, k8, k9, k10⟩, h2, h3, h4, h5, h6, h7⟩
theorem J_ne {h : AHP} {v : Int64} {a : Nat} (ha : a ≠ 201) : (sJ h 201 0 v).2.1 a = h.2.1 a := up2_ne ha
theorem CI_J {T : Nat} {h : AHP} {w : Int64} (hC : CI T h) : CI T (sJ h 201 0 w) := by
  obtain ⟨hS, hz, g, n, m, v, ln, tn, N, u, len, h1, h2, h3, h4, h5, h6, h7⟩ := hC
  refine ⟨hS, hz, g, n, m, v, ln, tn, N, u, len, ?_, h2, h3, h4, h5, h6, h7⟩
  obtain ⟨k1, k2', k3, k4, k5, k6, k7, k8, k9, k10⟩ := h1
  refine ⟨k1, k2', k3, k4, k5, k6, k7, k8, k9, k10.1, fun e he => ?_, fun j hj => ?_⟩
  · obtain ⟨q, q1, q2, q3⟩ := k10.2.1 e he
    have hg : g + 1 ≠ 201 := lay_of (P := fun a => a + 1 ≠ 201) (fun _ => inferInstance) (by decide) (by decide +kernel) k1
    exact ⟨q, q1, by rw [J_ne hg]; exact q2, by rw [J_ne (by decide)]; exact q3⟩
  · rw [J_ne (by decide)]; exact k10.2.2 j hj
theorem CI_thr {T : Nat} {h : AHP} {v : Int32} (hC : CI T h) : CI (T + 1) (sI h 183 0 v) := CI_W W_thr (NZ_putI hC.2.1 (okc_s (c := 11) hC.1 (by decide) (by decide)) (by decide)) hC
theorem g_restsY {h : AHP} {n : Nat} {ls : ALS} {a b c e v : Int32} (h1 : 201 ≤ h.2.2.2) (h2 : h.2.2.2 < 80000) (hv : rsV a b c e = some v) : ∀ C G, o_rests n C G ls [.ref 201, .int e, .int c, .int b, .int a, .ref 1] h = G n ls [.int 0] (sJ h 201 0 (Int32.toInt64 v)) := by
  intro C G
  refine (if_pos ⟨rfl, rfl, h1, h2, rfl⟩).trans ?_
  rw [hv]
theorem g_restsN {h : AHP} {n : Nat} {ls : ALS} {a b c e : Int32} (h1 : 201 ≤ h.2.2.2) (h2 : h.2.2.2 < 80000) (hv : rsV a b c e = none) : ∀ C G, o_rests n C G ls [.ref 201, .int e, .int c, .int b, .int a, .ref 1] h = G n ls [.int 1] (rsH h) := by
  intro C G
  refine (if_pos ⟨rfl, rfl, h1, h2, rfl⟩).trans ?_
  rw [hv]
set_option maxRecDepth 8000 in
theorem lw_37Y {T : Nat} {h : AHP} {f : Nat → Int32} {N c i : Nat} {x5 x6 : Option Value} {Q : Option Value → AHP → Prop} (hC : CI T h) (hsc : SC f N c h) (hi7 : i + 7 ≤ N) (hN : N ≤ 3584) {v : Int32} (hv : rsV (f (i + 1)) (f (i + 2)) (f (i + 3)) (f (i + 4)) = some v) (h201 : h.2.1 201 0 = Int32.toInt64 v) (hq : ∀ h3 x5 x6, CI (T + 1) h3 → SC f N c h3 → TL_ 50 1382 [some (.ref 300000), some (.ref 1), some (.ref 183), some (.ref 201), some (.int (nI i)), x5, x6] [] h3 Q) : TL_ 50 1192 [some (.ref 300000), some (.ref 1), some (.ref 183), some (.ref 201), some (.int (nI i)), x5, x6] [.int 0] h Q := by
  have hS := hC.1
  refine l_go (op := o_istore 1194 5) rfl (fun _ _ => rfl) ?_
  refine l_go (op := o_aload 1195 2) rfl (fun _ _ => rfl) ?_
  refine l_go (op := o_aload 1196 0) rfl (fun _ _ => rfl) ?_
  refine l_go (op := o_iload 1198 4) rfl (fun _ _ => rfl) ?_
  refine l_go (op := o_ci 1199 1) rfl (fun _ _ => rfl) ?_
  refine l_go (op := o_i2 1200 (fun x y => x + y)) rfl (fun _ _ => rfl) ?_
  refine l_go (op := o_sld 1201) rfl (g_sldN hsc (nIa rfl (nIl 1)) (by omega)) ?_
  refine l_go (op := o_aload 1202 0) rfl (fun _ _ => rfl) ?_
  refine l_go (op := o_iload 1204 4) rfl (fun _ _ => rfl) ?_
  refine l_go (op := o_ci 1205 2) rfl (fun _ _ => rfl) ?_
  refine l_go (op := o_i2 1206 (fun x y => x + y)) rfl (fun _ _ => rfl) ?_
  refine l_go (op := o_sld 1207) rfl (g_sldN hsc (nIa rfl (nIl 2)) (by omega)) ?_
  refine l_go (op := o_aload 1208 0) rfl (fun _ _ => rfl) ?_
  refine l_go (op := o_iload 1210 4) rfl (fun _ _ => rfl) ?_
  refine l_go (op := o_ci 1211 3) rfl (fun _ _ => rfl) ?_
  refine l_go (op := o_i2 1212 (fun x y => x + y)) rfl (fun _ _ => rfl) ?_
  refine l_go (op := o_sld 1213) rfl (g_sldN hsc (nIa rfl (nIl 3)) (by omega)) ?_
  refine l_go (op := o_aload 1214 0) rfl (fun _ _ => rfl) ?_
  refine l_go (op := o_iload 1216 4) rfl (fun _ _ => rfl) ?_
  refine l_go (op := o_ci 1217 4) rfl (fun _ _ => rfl) ?_
  refine l_go (op := o_i2 1218 (fun x y => x + y)) rfl (fun _ _ => rfl) ?_
  refine l_go (op := o_sld 1219) rfl (g_sldN hsc (nIa rfl (nIl 4)) (by omega)) ?_
  refine l_call (op := o_callV 1222 264 5 11) rfl (g_callVs hsc (show (lay 183).1 = 11 by decide) (by decide) rfl rfl rfl (Nat.le_of_ble_eq_true rfl)) ?_
  refine M_mono ?_ (M_sc hsc (r_rests (d := 49) hS))
  rintro _ h2 ⟨⟨v9, rfl, hR⟩, hsc2⟩
  have hR2 : v9 = v ∧ h2 = sI h 183 0 0 := by
    rcases hR with hR | hR
    · exact ⟨Option.some.inj (hR.1.symm.trans hv), hR.2⟩
    · exact absurd (hR.1.symm.trans hv) (fun q => by cases q)
  obtain ⟨e8, e9⟩ := hR2
  subst e8
  subst e9
  replace hsc := hsc2
  refine l_go (op := o_istore 1224 6) rfl (fun _ _ => rfl) ?_
  refine l_go (op := o_aload 1225 2) rfl (fun _ _ => rfl) ?_
  refine l_call (op := o_callV 1228 157 1 11) rfl (g_callVs hsc (show (lay 183).1 = 11 by decide) (by decide) rfl rfl rfl (Nat.le_of_ble_eq_true rfl)) ?_
  refine M_mono ?_ (M_sc hsc (r_thrown9 (d := 50) hS))
  rintro _ h3 ⟨⟨rfl, rfl⟩, hsc3⟩
  rw [show (sI h 183 0 0).1 183 0 = 0 from rfl]
  refine l_go (op := o_iload 1230 5) rfl (fun _ _ => rfl) ?_
  refine l_ite (op := o_icmp 1233 1235 (fun x y => x = y) (fun _ _ => inferInstance)) rfl g_icmp (fun c1 => ?_) (fun c1 => ?_)
  · clear c1
    refine l_go (op := o_iload 1237 5) rfl (fun _ _ => rfl) ?_
    refine l_ite (op := o_if 1252 1240 (fun x => x = 0) (fun _ => inferInstance)) rfl g_if (fun c2 => ?_) (fun c2 => ?_)
    · clear c2
      refine l_go (op := o_aload 1241 3) rfl (fun _ _ => rfl) ?_
      refine l_go (op := o_ci 1242 0) rfl (fun _ _ => rfl) ?_
      refine l_go (op := o_lald 1243) rfl (g_laldN hS (show lay 201 = (21, 1) by decide) (nIl 0) (by omega) (by decide)) ?_
      refine l_go (op := o_iload 1245 6) rfl (fun _ _ => rfl) ?_
      refine l_go (op := o_i2l 1246) rfl (fun _ _ => rfl) ?_
      refine l_go (op := o_lcmp 1247) rfl (fun _ _ => rfl) ?_
      refine l_ite (op := o_if 1250 1252 (fun x => x = 0) (fun _ => inferInstance)) rfl g_if (fun c3 => ?_) (fun c3 => ?_)
      · refine l_go (op := o_goto 1382) rfl (fun _ _ => rfl) ?_
        exact hq _ _ _ (CI_thr hC) hsc3
      · exact absurd (show lg_cmp (h.2.1 201 0) (Int32.toInt64 v9) = 0 by rw [h201]; exact lg_cmp_rf) c3
    · exact absurd (by decide) c2
  · exact absurd (by decide) c1
set_option maxRecDepth 8000 in
theorem lw_37N {T : Nat} {h : AHP} {f : Nat → Int32} {N c i : Nat} {x5 x6 : Option Value} {Q : Option Value → AHP → Prop} (hC : CI T h) (hsc : SC f N c h) (hi7 : i + 7 ≤ N) (hN : N ≤ 3584) (hv : rsV (f (i + 1)) (f (i + 2)) (f (i + 3)) (f (i + 4)) = none) (hq : ∀ h3 x5 x6, CI (T + 1) h3 → SC f N c h3 → TL_ 50 1382 [some (.ref 300000), some (.ref 1), some (.ref 183), some (.ref 201), some (.int (nI i)), x5, x6] [] h3 Q) : TL_ 50 1192 [some (.ref 300000), some (.ref 1), some (.ref 183), some (.ref 201), some (.int (nI i)), x5, x6] [.int 1] h Q := by
  have hS := hC.1
  refine l_go (op := o_istore 1194 5) rfl (fun _ _ => rfl) ?_
  refine l_go (op := o_aload 1195 2) rfl (fun _ _ => rfl) ?_
  refine l_go (op := o_aload 1196 0) rfl (fun _ _ => rfl) ?_
  refine l_go (op := o_iload 1198 4) rfl (fun _ _ => rfl) ?_
  refine l_go (op := o_ci 1199 1) rfl (fun _ _ => rfl) ?_
  refine l_go (op := o_i2 1200 (fun x y => x + y)) rfl (fun _ _ => rfl) ?_
  refine l_go (op := o_sld 1201) rfl (g_sldN hsc (nIa rfl (nIl 1)) (by omega)) ?_
  refine l_go (op := o_aload 1202 0) rfl (fun _ _ => rfl) ?_
  refine l_go (op := o_iload 1204 4) rfl (fun _ _ => rfl) ?_
  refine l_go (op := o_ci 1205 2) rfl (fun _ _ => rfl) ?_
  refine l_go (op := o_i2 1206 (fun x y => x + y)) rfl (fun _ _ => rfl) ?_
  refine l_go (op := o_sld 1207) rfl (g_sldN hsc (nIa rfl (nIl 2)) (by omega)) ?_
  refine l_go (op := o_aload 1208 0) rfl (fun _ _ => rfl) ?_
  refine l_go (op := o_iload 1210 4) rfl (fun _ _ => rfl) ?_
  refine l_go (op := o_ci 1211 3) rfl (fun _ _ => rfl) ?_
  refine l_go (op := o_i2 1212 (fun x y => x + y)) rfl (fun _ _ => rfl) ?_
  refine l_go (op := o_sld 1213) rfl (g_sldN hsc (nIa rfl (nIl 3)) (by omega)) ?_
  refine l_go (op := o_aload 1214 0) rfl (fun _ _ => rfl) ?_
  refine l_go (op := o_iload 1216 4) rfl (fun _ _ => rfl) ?_
  refine l_go (op := o_ci 1217 4) rfl (fun _ _ => rfl) ?_
  refine l_go (op := o_i2 1218 (fun x y => x + y)) rfl (fun _ _ => rfl) ?_
  refine l_go (op := o_sld 1219) rfl (g_sldN hsc (nIa rfl (nIl 4)) (by omega)) ?_
  refine l_call (op := o_callV 1222 264 5 11) rfl (g_callVs hsc (show (lay 183).1 = 11 by decide) (by decide) rfl rfl rfl (Nat.le_of_ble_eq_true rfl)) ?_
  refine M_mono ?_ (M_sc hsc (r_rests (d := 49) hS))
  rintro _ h2 ⟨⟨v9, rfl, hR⟩, hsc2⟩
  have hR2 : h2 = sI h 183 0 1 := by
    rcases hR with hR | hR
    · exact absurd (hR.1.symm.trans hv) (fun q => by cases q)
    · exact hR.2.2
  subst hR2
  replace hsc := hsc2
  refine l_go (op := o_istore 1224 6) rfl (fun _ _ => rfl) ?_
  refine l_go (op := o_aload 1225 2) rfl (fun _ _ => rfl) ?_
  refine l_call (op := o_callV 1228 157 1 11) rfl (g_callVs hsc (show (lay 183).1 = 11 by decide) (by decide) rfl rfl rfl (Nat.le_of_ble_eq_true rfl)) ?_
  refine M_mono ?_ (M_sc hsc (r_thrown9 (d := 50) hS))
  rintro _ h3 ⟨⟨rfl, rfl⟩, hsc3⟩
  rw [show (sI h 183 0 1).1 183 0 = 1 from rfl]
  refine l_go (op := o_iload 1230 5) rfl (fun _ _ => rfl) ?_
  refine l_ite (op := o_icmp 1233 1235 (fun x y => x = y) (fun _ _ => inferInstance)) rfl g_icmp (fun c1 => ?_) (fun c1 => ?_)
  · clear c1
    refine l_go (op := o_iload 1237 5) rfl (fun _ _ => rfl) ?_
    refine l_ite (op := o_if 1252 1240 (fun x => x = 0) (fun _ => inferInstance)) rfl g_if (fun c2 => ?_) (fun c2 => ?_)
    · exact absurd c2 (by decide)
    · clear c2
      refine l_go (op := o_goto 1382) rfl (fun _ _ => rfl) ?_
      exact hq _ _ _ (CI_thr hC) hsc3
  · exact absurd (by decide) c1
set_option maxRecDepth 8000 in
theorem lw_c37 {T : Nat} {h : AHP} {f : Nat → Int32} {N c i : Nat} {x5 x6 : Option Value} {Q : Option Value → AHP → Prop} (hC : CI T h) (hsc : SC f N c h) (hi7 : i + 7 ≤ N) (hN : N ≤ 3584) (hc : c < 80000) (hq : ∀ h3 x5 x6 c', c' ≤ c + 1 → CI (T + 1) h3 → SC f N c' h3 → TL_ 50 1382 [some (.ref 300000), some (.ref 1), some (.ref 183), some (.ref 201), some (.int (nI i)), x5, x6] [] h3 Q) : TL_ 50 1163 [some (.ref 300000), some (.ref 1), some (.ref 183), some (.ref 201), some (.int (nI i)), x5, x6] [] h Q := by
  have hS := hC.1
  refine l_go (op := o_aload 1164 1) rfl (fun _ _ => rfl) ?_
  refine l_go (op := o_aload 1165 0) rfl (fun _ _ => rfl) ?_
  refine l_go (op := o_iload 1167 4) rfl (fun _ _ => rfl) ?_
  refine l_go (op := o_ci 1168 1) rfl (fun _ _ => rfl) ?_
  refine l_go (op := o_i2 1169 (fun x y => x + y)) rfl (fun _ _ => rfl) ?_
  refine l_go (op := o_sld 1170) rfl (g_sldN hsc (nIa rfl (nIl 1)) (by omega)) ?_
  refine l_go (op := o_aload 1171 0) rfl (fun _ _ => rfl) ?_
  refine l_go (op := o_iload 1173 4) rfl (fun _ _ => rfl) ?_
  refine l_go (op := o_ci 1174 2) rfl (fun _ _ => rfl) ?_
  refine l_go (op := o_i2 1175 (fun x y => x + y)) rfl (fun _ _ => rfl) ?_
  refine l_go (op := o_sld 1176) rfl (g_sldN hsc (nIa rfl (nIl 2)) (by omega)) ?_
  refine l_go (op := o_aload 1177 0) rfl (fun _ _ => rfl) ?_
  refine l_go (op := o_iload 1179 4) rfl (fun _ _ => rfl) ?_
  refine l_go (op := o_ci 1180 3) rfl (fun _ _ => rfl) ?_
  refine l_go (op := o_i2 1181 (fun x y => x + y)) rfl (fun _ _ => rfl) ?_
  refine l_go (op := o_sld 1182) rfl (g_sldN hsc (nIa rfl (nIl 3)) (by omega)) ?_
  refine l_go (op := o_aload 1183 0) rfl (fun _ _ => rfl) ?_
  refine l_go (op := o_iload 1185 4) rfl (fun _ _ => rfl) ?_
  refine l_go (op := o_ci 1186 4) rfl (fun _ _ => rfl) ?_
  refine l_go (op := o_i2 1187 (fun x y => x + y)) rfl (fun _ _ => rfl) ?_
  refine l_go (op := o_sld 1188) rfl (g_sldN hsc (nIa rfl (nIl 4)) (by omega)) ?_
  refine l_go (op := o_aload 1189 3) rfl (fun _ _ => rfl) ?_
  have a1 : 201 ≤ h.2.2.2 := by rw [hsc.2.2.1]; exact hsc.2.2.2
  have a2 : h.2.2.2 < 80000 := by rw [hsc.2.2.1]; exact hc
  cases hv : rsV (f (i + 1)) (f (i + 2)) (f (i + 3)) (f (i + 4)) with
  | some v =>
    refine l_go (op := o_rests 1192) rfl (g_restsY a1 a2 hv) ?_
    refine lw_37Y (CI_J hC) (SC_J hsc) hi7 hN hv rfl fun h3 x5 x6 h1 h2 => hq h3 x5 x6 c (Nat.le_succ c) h1 h2
  | none =>
    refine l_go (op := o_rests 1192) rfl (g_restsN a1 a2 hv) ?_
    refine lw_37N (CI_H hC) (SC_H hsc) hi7 hN hv fun h3 x5 x6 h1 h2 => hq h3 x5 x6 (c + 1) (Nat.le_refl _) h1 h2
