/-! ===== the law's loop ===== -/
theorem g_sldN {h : AHP} {f : Nat → Int32} {N c n t : Nat} {i : Int32} {ls : ALS} {st : List Value} (hsc : SC f N c h) (hi : i = nI t) (ht : t < N ∧ N ≤ 3584) : ∀ C G, o_sld n C G ls (.int i :: .ref 300000 :: st) h = G n ls (.int (f t) :: st) h := by
  intro C G
  subst hi
  have e : (nI t).toNatClampNeg = t := nI_clamp (by omega)
  have hc : (300000 : Nat) = 300000 ∧ ¬ (nI t < 0 ∨ h.2.2.1 300000 0 ≤ (nI t).toNatClampNeg) := ⟨rfl, fun q => by
    rcases q with q | q
    · exact nI_pos (by omega) q
    · rw [e, hsc.2.1] at q; omega⟩
  show (if (300000 : Nat) = 300000 ∧ ¬ (nI t < 0 ∨ h.2.2.1 300000 0 ≤ (nI t).toNatClampNeg) then G n ls (.int (h.1 300000 (nI t).toNatClampNeg) :: st) h else none) = _
  rw [if_pos hc, e, hsc.1]
theorem g_slenN {h : AHP} {f : Nat → Int32} {N c n : Nat} {ls : ALS} {st : List Value} (hsc : SC f N c h) : ∀ C G, o_slen n C G ls (.ref 300000 :: st) h = G n ls (.int (nI N) :: st) h := by
  intro C G
  show (if (300000 : Nat) = 300000 then G n ls (.int (nI (h.2.2.1 300000 0)) :: st) h else none) = _
  rw [if_pos rfl, hsc.2.1]
theorem okc_sc {h : AHP} {f : Nat → Int32} {N c a t : Nat} (hsc : SC f N c h) (hl : (lay a).1 = t) (hc : t < 90) : okc h a t := ⟨hl, (lay_lt hl hc).1, by have := (lay_lt hl hc).2; have := hsc.2.2.1; have := hsc.2.2.2; omega, (lay_lt hl hc).2⟩
theorem g_callVs {h : AHP} {f : Nat → Int32} {N0 c0 a c k n : Nat} {ls : ALS} {st : List Value} {j : Nat} {as rest : List Value} (hsc : SC f N0 c0 h) (hl : (lay a).1 = c) (hc : c < 90) (ht : (st.take j).reverse = .ref a :: as) (hn : as.length + 1 = j) (hd : st.drop j = rest) (hr : (rest.map fun v => v.category).sum ≤ 8) : ∀ C G, o_callV n k j c C G ls st h = match C k (.ref a :: as) h with | some (v, h2) => G n ls (v.toList ++ rest) h2 | none => none := by
  intro C G
  subst hd
  unfold o_callV
  rw [ht]
  exact (if_pos (okc_sc hsc hl hc)).trans (if_pos ⟨hn, hr⟩)
set_option maxRecDepth 8000 in
theorem lw_c0 {T : Nat} {h : AHP} {f : Nat → Int32} {N c i : Nat} {x5 x6 : Option Value} {Q : Option Value → AHP → Prop} (hC : CI T h) (hT : T ≤ 600) (hsc : SC f N c h) (hi7 : i + 7 ≤ N) (hN : N ≤ 3584) (hq : ∀ h3 x5 x6, CI (T + 1) h3 → SC f N c h3 → TL_ 50 1382 [some (.ref 300000), some (.ref 1), some (.ref 183), some (.ref 201), some (.int (nI i)), x5, x6] [] h3 Q) : TL_ 50 220 [some (.ref 300000), some (.ref 1), some (.ref 183), some (.ref 201), some (.int (nI i)), x5, x6] [] h Q := by
  have hS := hC.1
  refine l_go (op := o_aload 221 1) rfl (fun _ _ => rfl) ?_
  refine l_go (op := o_aload 222 0) rfl (fun _ _ => rfl) ?_
  refine l_go (op := o_iload 224 4) rfl (fun _ _ => rfl) ?_
  refine l_go (op := o_ci 225 1) rfl (fun _ _ => rfl) ?_
  refine l_go (op := o_i2 226 (fun x y => x + y)) rfl (fun _ _ => rfl) ?_
  refine l_go (op := o_sld 227) rfl (g_sldN hsc (nIa rfl (nIl 1)) (by omega)) ?_
  refine l_go (op := o_i2l 228) rfl (fun _ _ => rfl) ?_
  refine l_go (op := o_ci 230 32) rfl (fun _ _ => rfl) ?_
  refine l_go (op := o_lsh 231 (fun x y => x <<< (y.toInt64 &&& 63))) rfl (fun _ _ => rfl) ?_
  refine l_go (op := o_aload 232 0) rfl (fun _ _ => rfl) ?_
  refine l_go (op := o_iload 234 4) rfl (fun _ _ => rfl) ?_
  refine l_go (op := o_ci 235 2) rfl (fun _ _ => rfl) ?_
  refine l_go (op := o_i2 236 (fun x y => x + y)) rfl (fun _ _ => rfl) ?_
  refine l_go (op := o_sld 237) rfl (g_sldN hsc (nIa rfl (nIl 2)) (by omega)) ?_
  refine l_go (op := o_i2l 238) rfl (fun _ _ => rfl) ?_
  refine l_go (op := o_cl 241 4294967295) rfl (fun _ _ => rfl) ?_
  refine l_go (op := o_l2 242 (fun x y => x &&& y)) rfl (fun _ _ => rfl) ?_
  refine l_go (op := o_l2 243 (fun x y => x ||| y)) rfl (fun _ _ => rfl) ?_
  refine l_go (op := o_aload 244 0) rfl (fun _ _ => rfl) ?_
  refine l_go (op := o_iload 246 4) rfl (fun _ _ => rfl) ?_
  refine l_go (op := o_ci 247 3) rfl (fun _ _ => rfl) ?_
  refine l_go (op := o_i2 248 (fun x y => x + y)) rfl (fun _ _ => rfl) ?_
  refine l_go (op := o_sld 249) rfl (g_sldN hsc (nIa rfl (nIl 3)) (by omega)) ?_
  refine l_go (op := o_i2l 250) rfl (fun _ _ => rfl) ?_
  refine l_go (op := o_ci 252 32) rfl (fun _ _ => rfl) ?_
  refine l_go (op := o_lsh 253 (fun x y => x <<< (y.toInt64 &&& 63))) rfl (fun _ _ => rfl) ?_
  refine l_go (op := o_aload 254 0) rfl (fun _ _ => rfl) ?_
  refine l_go (op := o_iload 256 4) rfl (fun _ _ => rfl) ?_
  refine l_go (op := o_ci 257 4) rfl (fun _ _ => rfl) ?_
  refine l_go (op := o_i2 258 (fun x y => x + y)) rfl (fun _ _ => rfl) ?_
  refine l_go (op := o_sld 259) rfl (g_sldN hsc (nIa rfl (nIl 4)) (by omega)) ?_
  refine l_go (op := o_i2l 260) rfl (fun _ _ => rfl) ?_
  refine l_go (op := o_cl 263 4294967295) rfl (fun _ _ => rfl) ?_
  refine l_go (op := o_l2 264 (fun x y => x &&& y)) rfl (fun _ _ => rfl) ?_
  refine l_go (op := o_l2 265 (fun x y => x ||| y)) rfl (fun _ _ => rfl) ?_
  refine l_go (op := o_aload 266 0) rfl (fun _ _ => rfl) ?_
  refine l_go (op := o_iload 268 4) rfl (fun _ _ => rfl) ?_
  refine l_go (op := o_ci 269 5) rfl (fun _ _ => rfl) ?_
  refine l_go (op := o_i2 270 (fun x y => x + y)) rfl (fun _ _ => rfl) ?_
  refine l_go (op := o_sld 271) rfl (g_sldN hsc (nIa rfl (nIl 5)) (by omega)) ?_
  refine l_go (op := o_i2l 272) rfl (fun _ _ => rfl) ?_
  refine l_go (op := o_ci 274 32) rfl (fun _ _ => rfl) ?_
  refine l_go (op := o_lsh 275 (fun x y => x <<< (y.toInt64 &&& 63))) rfl (fun _ _ => rfl) ?_
  refine l_go (op := o_aload 276 0) rfl (fun _ _ => rfl) ?_
  refine l_go (op := o_iload 278 4) rfl (fun _ _ => rfl) ?_
  refine l_go (op := o_ci 280 6) rfl (fun _ _ => rfl) ?_
  refine l_go (op := o_i2 281 (fun x y => x + y)) rfl (fun _ _ => rfl) ?_
  refine l_go (op := o_sld 282) rfl (g_sldN hsc (nIa rfl (nIl 6)) (by omega)) ?_
  refine l_go (op := o_i2l 283) rfl (fun _ _ => rfl) ?_
  refine l_go (op := o_cl 286 4294967295) rfl (fun _ _ => rfl) ?_
  refine l_go (op := o_l2 287 (fun x y => x &&& y)) rfl (fun _ _ => rfl) ?_
  refine l_go (op := o_l2 288 (fun x y => x ||| y)) rfl (fun _ _ => rfl) ?_
  refine l_call (op := o_callV 291 109 4 10) rfl (g_callVs hsc (show (lay 1).1 = 10 by decide) (by decide) rfl rfl rfl (Nat.le_of_ble_eq_true rfl)) ?_
  refine M_mono ?_ (M_sc hsc (p_feed (d := 30) hC hT))
  rintro _ h2 ⟨⟨a9, rfl, hM9⟩, hsc2⟩
  replace hsc := hsc2
  refine l_go (op := o_aload 292 2) rfl (fun _ _ => rfl) ?_
  refine l_go (op := o_aload 293 0) rfl (fun _ _ => rfl) ?_
  refine l_go (op := o_iload 295 4) rfl (fun _ _ => rfl) ?_
  refine l_go (op := o_ci 296 1) rfl (fun _ _ => rfl) ?_
  refine l_go (op := o_i2 297 (fun x y => x + y)) rfl (fun _ _ => rfl) ?_
  refine l_go (op := o_sld 298) rfl (g_sldN hsc (nIa rfl (nIl 1)) (by omega)) ?_
  refine l_go (op := o_i2l 299) rfl (fun _ _ => rfl) ?_
  refine l_go (op := o_ci 301 32) rfl (fun _ _ => rfl) ?_
  refine l_go (op := o_lsh 302 (fun x y => x <<< (y.toInt64 &&& 63))) rfl (fun _ _ => rfl) ?_
  refine l_go (op := o_aload 303 0) rfl (fun _ _ => rfl) ?_
  refine l_go (op := o_iload 305 4) rfl (fun _ _ => rfl) ?_
  refine l_go (op := o_ci 306 2) rfl (fun _ _ => rfl) ?_
  refine l_go (op := o_i2 307 (fun x y => x + y)) rfl (fun _ _ => rfl) ?_
  refine l_go (op := o_sld 308) rfl (g_sldN hsc (nIa rfl (nIl 2)) (by omega)) ?_
  refine l_go (op := o_i2l 309) rfl (fun _ _ => rfl) ?_
  refine l_go (op := o_cl 312 4294967295) rfl (fun _ _ => rfl) ?_
  refine l_go (op := o_l2 313 (fun x y => x &&& y)) rfl (fun _ _ => rfl) ?_
  refine l_go (op := o_l2 314 (fun x y => x ||| y)) rfl (fun _ _ => rfl) ?_
  refine l_go (op := o_aload 315 0) rfl (fun _ _ => rfl) ?_
  refine l_go (op := o_iload 317 4) rfl (fun _ _ => rfl) ?_
  refine l_go (op := o_ci 318 3) rfl (fun _ _ => rfl) ?_
  refine l_go (op := o_i2 319 (fun x y => x + y)) rfl (fun _ _ => rfl) ?_
  refine l_go (op := o_sld 320) rfl (g_sldN hsc (nIa rfl (nIl 3)) (by omega)) ?_
  refine l_go (op := o_i2l 321) rfl (fun _ _ => rfl) ?_
  refine l_go (op := o_ci 323 32) rfl (fun _ _ => rfl) ?_
  refine l_go (op := o_lsh 324 (fun x y => x <<< (y.toInt64 &&& 63))) rfl (fun _ _ => rfl) ?_
  refine l_go (op := o_aload 325 0) rfl (fun _ _ => rfl) ?_
  refine l_go (op := o_iload 327 4) rfl (fun _ _ => rfl) ?_
  refine l_go (op := o_ci 328 4) rfl (fun _ _ => rfl) ?_
  refine l_go (op := o_i2 329 (fun x y => x + y)) rfl (fun _ _ => rfl) ?_
  refine l_go (op := o_sld 330) rfl (g_sldN hsc (nIa rfl (nIl 4)) (by omega)) ?_
  refine l_go (op := o_i2l 331) rfl (fun _ _ => rfl) ?_
  refine l_go (op := o_cl 334 4294967295) rfl (fun _ _ => rfl) ?_
  refine l_go (op := o_l2 335 (fun x y => x &&& y)) rfl (fun _ _ => rfl) ?_
  refine l_go (op := o_l2 336 (fun x y => x ||| y)) rfl (fun _ _ => rfl) ?_
  refine l_go (op := o_aload 337 0) rfl (fun _ _ => rfl) ?_
  refine l_go (op := o_iload 339 4) rfl (fun _ _ => rfl) ?_
  refine l_go (op := o_ci 340 5) rfl (fun _ _ => rfl) ?_
  refine l_go (op := o_i2 341 (fun x y => x + y)) rfl (fun _ _ => rfl) ?_
  refine l_go (op := o_sld 342) rfl (g_sldN hsc (nIa rfl (nIl 5)) (by omega)) ?_
  refine l_go (op := o_i2l 343) rfl (fun _ _ => rfl) ?_
  refine l_go (op := o_ci 345 32) rfl (fun _ _ => rfl) ?_
  refine l_go (op := o_lsh 346 (fun x y => x <<< (y.toInt64 &&& 63))) rfl (fun _ _ => rfl) ?_
  refine l_go (op := o_aload 347 0) rfl (fun _ _ => rfl) ?_
  refine l_go (op := o_iload 349 4) rfl (fun _ _ => rfl) ?_
  refine l_go (op := o_ci 351 6) rfl (fun _ _ => rfl) ?_
  refine l_go (op := o_i2 352 (fun x y => x + y)) rfl (fun _ _ => rfl) ?_
  refine l_go (op := o_sld 353) rfl (g_sldN hsc (nIa rfl (nIl 6)) (by omega)) ?_
  refine l_go (op := o_i2l 354) rfl (fun _ _ => rfl) ?_
  refine l_go (op := o_cl 357 4294967295) rfl (fun _ _ => rfl) ?_
  refine l_go (op := o_l2 358 (fun x y => x &&& y)) rfl (fun _ _ => rfl) ?_
  refine l_go (op := o_l2 359 (fun x y => x ||| y)) rfl (fun _ _ => rfl) ?_
  refine l_call (op := o_callV 362 158 4 11) rfl (g_callVs hsc (show (lay 183).1 = 11 by decide) (by decide) rfl rfl rfl (Nat.le_of_ble_eq_true rfl)) ?_
  refine M_mono ?_ (M_sc hsc hM9)
  rintro _ h3 ⟨⟨rfl, hC3⟩, hsc3⟩
  refine l_ite (op := o_icmp 365 1382 (fun x y => x = y) (fun _ _ => inferInstance)) rfl g_icmp (fun c1 => ?_) (fun c1 => ?_)
  · exact hq _ _ _ hC3 hsc3
  · exact absurd rfl c1
set_option maxRecDepth 8000 in
theorem lw_c1 {T : Nat} {h : AHP} {f : Nat → Int32} {N c i : Nat} {x5 x6 : Option Value} {Q : Option Value → AHP → Prop} (hC : CI T h) (hT : T ≤ 600) (hsc : SC f N c h) (hi7 : i + 7 ≤ N) (hN : N ≤ 3584) (hq : ∀ h3 x5 x6, CI (T + 1) h3 → SC f N c h3 → TL_ 50 1382 [some (.ref 300000), some (.ref 1), some (.ref 183), some (.ref 201), some (.int (nI i)), x5, x6] [] h3 Q) : TL_ 50 367 [some (.ref 300000), some (.ref 1), some (.ref 183), some (.ref 201), some (.int (nI i)), x5, x6] [] h Q := by
  have hS := hC.1
  refine l_go (op := o_aload 368 1) rfl (fun _ _ => rfl) ?_
  refine l_call (op := o_callV 371 110 1 10) rfl (g_callVs hsc (show (lay 1).1 = 10 by decide) (by decide) rfl rfl rfl (Nat.le_of_ble_eq_true rfl)) ?_
  refine M_mono ?_ (M_sc hsc (p_grate (d := 0) hC))
  rintro _ h2 ⟨⟨a9, rfl, hM9⟩, hsc2⟩
  replace hsc := hsc2
  refine l_go (op := o_aload 372 2) rfl (fun _ _ => rfl) ?_
  refine l_call (op := o_callV 375 182 1 11) rfl (g_callVs hsc (show (lay 183).1 = 11 by decide) (by decide) rfl rfl rfl (Nat.le_of_ble_eq_true rfl)) ?_
  refine M_mono ?_ (M_sc hsc hM9)
  rintro _ h3 ⟨⟨rfl, hC3⟩, hsc3⟩
  refine l_ite (op := o_icmp 378 1382 (fun x y => x = y) (fun _ _ => inferInstance)) rfl g_icmp (fun c1 => ?_) (fun c1 => ?_)
  · exact hq _ _ _ hC3 hsc3
  · exact absurd rfl c1
set_option maxRecDepth 8000 in
theorem lw_c2 {T : Nat} {h : AHP} {f : Nat → Int32} {N c i : Nat} {x5 x6 : Option Value} {Q : Option Value → AHP → Prop} (hC : CI T h) (hT : T ≤ 600) (hsc : SC f N c h) (hi7 : i + 7 ≤ N) (hN : N ≤ 3584) (hq : ∀ h3 x5 x6, CI (T + 1) h3 → SC f N c h3 → TL_ 50 1382 [some (.ref 300000), some (.ref 1), some (.ref 183), some (.ref 201), some (.int (nI i)), x5, x6] [] h3 Q) : TL_ 50 380 [some (.ref 300000), some (.ref 1), some (.ref 183), some (.ref 201), some (.int (nI i)), x5, x6] [] h Q := by
  have hS := hC.1
  refine l_go (op := o_aload 381 1) rfl (fun _ _ => rfl) ?_
  refine l_call (op := o_callV 384 111 1 10) rfl (g_callVs hsc (show (lay 1).1 = 10 by decide) (by decide) rfl rfl rfl (Nat.le_of_ble_eq_true rfl)) ?_
  refine M_mono ?_ (M_sc hsc (p_evening (d := 0) hC))
  rintro _ h2 ⟨⟨a9, rfl, hM9⟩, hsc2⟩
  replace hsc := hsc2
  refine l_go (op := o_aload 385 2) rfl (fun _ _ => rfl) ?_
  refine l_call (op := o_callV 388 187 1 11) rfl (g_callVs hsc (show (lay 183).1 = 11 by decide) (by decide) rfl rfl rfl (Nat.le_of_ble_eq_true rfl)) ?_
  refine M_mono ?_ (M_sc hsc hM9)
  rintro _ h3 ⟨⟨rfl, hC3⟩, hsc3⟩
  refine l_ite (op := o_icmp 391 1382 (fun x y => x = y) (fun _ _ => inferInstance)) rfl g_icmp (fun c1 => ?_) (fun c1 => ?_)
  · exact hq _ _ _ hC3 hsc3
  · exact absurd rfl c1
set_option maxRecDepth 8000 in
theorem lw_c3 {T : Nat} {h : AHP} {f : Nat → Int32} {N c i : Nat} {x5 x6 : Option Value} {Q : Option Value → AHP → Prop} (hC : CI T h) (hT : T ≤ 600) (hsc : SC f N c h) (hi7 : i + 7 ≤ N) (hN : N ≤ 3584) (hq : ∀ h3 x5 x6, CI (T + 1) h3 → SC f N c h3 → TL_ 50 1382 [some (.ref 300000), some (.ref 1), some (.ref 183), some (.ref 201), some (.int (nI i)), x5, x6] [] h3 Q) : TL_ 50 393 [some (.ref 300000), some (.ref 1), some (.ref 183), some (.ref 201), some (.int (nI i)), x5, x6] [] h Q := by
  have hS := hC.1
  refine l_go (op := o_aload 394 1) rfl (fun _ _ => rfl) ?_
  refine l_go (op := o_aload 395 0) rfl (fun _ _ => rfl) ?_
  refine l_go (op := o_iload 397 4) rfl (fun _ _ => rfl) ?_
  refine l_go (op := o_ci 398 1) rfl (fun _ _ => rfl) ?_
  refine l_go (op := o_i2 399 (fun x y => x + y)) rfl (fun _ _ => rfl) ?_
  refine l_go (op := o_sld 400) rfl (g_sldN hsc (nIa rfl (nIl 1)) (by omega)) ?_
  refine l_go (op := o_aload 401 0) rfl (fun _ _ => rfl) ?_
  refine l_go (op := o_iload 403 4) rfl (fun _ _ => rfl) ?_
  refine l_go (op := o_ci 404 2) rfl (fun _ _ => rfl) ?_
  refine l_go (op := o_i2 405 (fun x y => x + y)) rfl (fun _ _ => rfl) ?_
  refine l_go (op := o_sld 406) rfl (g_sldN hsc (nIa rfl (nIl 2)) (by omega)) ?_
  refine l_call (op := o_callV 409 112 3 10) rfl (g_callVs hsc (show (lay 1).1 = 10 by decide) (by decide) rfl rfl rfl (Nat.le_of_ble_eq_true rfl)) ?_
  refine M_mono ?_ (M_sc hsc (p_ember (d := 30) hC hT))
  rintro _ h2 ⟨⟨a9, rfl, hM9⟩, hsc2⟩
  replace hsc := hsc2
  refine l_go (op := o_aload 410 2) rfl (fun _ _ => rfl) ?_
  refine l_go (op := o_aload 411 0) rfl (fun _ _ => rfl) ?_
  refine l_go (op := o_iload 413 4) rfl (fun _ _ => rfl) ?_
  refine l_go (op := o_ci 414 1) rfl (fun _ _ => rfl) ?_
  refine l_go (op := o_i2 415 (fun x y => x + y)) rfl (fun _ _ => rfl) ?_
  refine l_go (op := o_sld 416) rfl (g_sldN hsc (nIa rfl (nIl 1)) (by omega)) ?_
  refine l_go (op := o_aload 417 0) rfl (fun _ _ => rfl) ?_
  refine l_go (op := o_iload 419 4) rfl (fun _ _ => rfl) ?_
  refine l_go (op := o_ci 420 2) rfl (fun _ _ => rfl) ?_
  refine l_go (op := o_i2 421 (fun x y => x + y)) rfl (fun _ _ => rfl) ?_
  refine l_go (op := o_sld 422) rfl (g_sldN hsc (nIa rfl (nIl 2)) (by omega)) ?_
  refine l_call (op := o_callV 425 219 3 11) rfl (g_callVs hsc (show (lay 183).1 = 11 by decide) (by decide) rfl rfl rfl (Nat.le_of_ble_eq_true rfl)) ?_
  refine M_mono ?_ (M_sc hsc hM9)
  rintro _ h3 ⟨⟨rfl, hC3⟩, hsc3⟩
  refine l_ite (op := o_icmp 428 1382 (fun x y => x = y) (fun _ _ => inferInstance)) rfl g_icmp (fun c1 => ?_) (fun c1 => ?_)
  · exact hq _ _ _ hC3 hsc3
  · exact absurd rfl c1
set_option maxRecDepth 8000 in
theorem lw_c4 {T : Nat} {h : AHP} {f : Nat → Int32} {N c i : Nat} {x5 x6 : Option Value} {Q : Option Value → AHP → Prop} (hC : CI T h) (hT : T ≤ 600) (hsc : SC f N c h) (hi7 : i + 7 ≤ N) (hN : N ≤ 3584) (hq : ∀ h3 x5 x6, CI (T + 1) h3 → SC f N c h3 → TL_ 50 1382 [some (.ref 300000), some (.ref 1), some (.ref 183), some (.ref 201), some (.int (nI i)), x5, x6] [] h3 Q) : TL_ 50 430 [some (.ref 300000), some (.ref 1), some (.ref 183), some (.ref 201), some (.int (nI i)), x5, x6] [] h Q := by
  have hS := hC.1
  refine l_go (op := o_aload 431 1) rfl (fun _ _ => rfl) ?_
  refine l_go (op := o_aload 432 0) rfl (fun _ _ => rfl) ?_
  refine l_go (op := o_iload 434 4) rfl (fun _ _ => rfl) ?_
  refine l_go (op := o_ci 435 1) rfl (fun _ _ => rfl) ?_
  refine l_go (op := o_i2 436 (fun x y => x + y)) rfl (fun _ _ => rfl) ?_
  refine l_go (op := o_sld 437) rfl (g_sldN hsc (nIa rfl (nIl 1)) (by omega)) ?_
  refine l_call (op := o_callV 440 113 2 10) rfl (g_callVs hsc (show (lay 1).1 = 10 by decide) (by decide) rfl rfl rfl (Nat.le_of_ble_eq_true rfl)) ?_
  refine M_mono ?_ (M_sc hsc (p_cell (d := 30) hC hT))
  rintro _ h2 ⟨⟨a9, rfl, hM9⟩, hsc2⟩
  replace hsc := hsc2
  refine l_go (op := o_aload 441 2) rfl (fun _ _ => rfl) ?_
  refine l_go (op := o_aload 442 0) rfl (fun _ _ => rfl) ?_
  refine l_go (op := o_iload 444 4) rfl (fun _ _ => rfl) ?_
  refine l_go (op := o_ci 445 1) rfl (fun _ _ => rfl) ?_
  refine l_go (op := o_i2 446 (fun x y => x + y)) rfl (fun _ _ => rfl) ?_
  refine l_go (op := o_sld 447) rfl (g_sldN hsc (nIa rfl (nIl 1)) (by omega)) ?_
  refine l_call (op := o_callV 450 220 2 11) rfl (g_callVs hsc (show (lay 183).1 = 11 by decide) (by decide) rfl rfl rfl (Nat.le_of_ble_eq_true rfl)) ?_
  refine M_mono ?_ (M_sc hsc hM9)
  rintro _ h3 ⟨⟨rfl, hC3⟩, hsc3⟩
  refine l_ite (op := o_icmp 453 1382 (fun x y => x = y) (fun _ _ => inferInstance)) rfl g_icmp (fun c1 => ?_) (fun c1 => ?_)
  · exact hq _ _ _ hC3 hsc3
  · exact absurd rfl c1
set_option maxRecDepth 8000 in
theorem lw_c5 {T : Nat} {h : AHP} {f : Nat → Int32} {N c i : Nat} {x5 x6 : Option Value} {Q : Option Value → AHP → Prop} (hC : CI T h) (hT : T ≤ 600) (hsc : SC f N c h) (hi7 : i + 7 ≤ N) (hN : N ≤ 3584) (hq : ∀ h3 x5 x6, CI (T + 1) h3 → SC f N c h3 → TL_ 50 1382 [some (.ref 300000), some (.ref 1), some (.ref 183), some (.ref 201), some (.int (nI i)), x5, x6] [] h3 Q) : TL_ 50 455 [some (.ref 300000), some (.ref 1), some (.ref 183), some (.ref 201), some (.int (nI i)), x5, x6] [] h Q := by
  have hS := hC.1
  refine l_go (op := o_aload 456 1) rfl (fun _ _ => rfl) ?_
  refine l_call (op := o_callV 459 114 1 10) rfl (g_callVs hsc (show (lay 1).1 = 10 by decide) (by decide) rfl rfl rfl (Nat.le_of_ble_eq_true rfl)) ?_
  refine M_mono ?_ (M_sc hsc (p_hour (d := 30) hC hT))
  rintro _ h2 ⟨⟨a9, rfl, hM9⟩, hsc2⟩
  replace hsc := hsc2
  refine l_go (op := o_aload 460 2) rfl (fun _ _ => rfl) ?_
  refine l_call (op := o_callV 463 221 1 11) rfl (g_callVs hsc (show (lay 183).1 = 11 by decide) (by decide) rfl rfl rfl (Nat.le_of_ble_eq_true rfl)) ?_
  refine M_mono ?_ (M_sc hsc hM9)
  rintro _ h3 ⟨⟨rfl, hC3⟩, hsc3⟩
  refine l_ite (op := o_icmp 466 1382 (fun x y => x = y) (fun _ _ => inferInstance)) rfl g_icmp (fun c1 => ?_) (fun c1 => ?_)
  · exact hq _ _ _ hC3 hsc3
  · exact absurd rfl c1
set_option maxRecDepth 8000 in
theorem lw_c6 {T : Nat} {h : AHP} {f : Nat → Int32} {N c i : Nat} {x5 x6 : Option Value} {Q : Option Value → AHP → Prop} (hC : CI T h) (hT : T ≤ 600) (hsc : SC f N c h) (hi7 : i + 7 ≤ N) (hN : N ≤ 3584) (hq : ∀ h3 x5 x6, CI (T + 1) h3 → SC f N c h3 → TL_ 50 1382 [some (.ref 300000), some (.ref 1), some (.ref 183), some (.ref 201), some (.int (nI i)), x5, x6] [] h3 Q) : TL_ 50 468 [some (.ref 300000), some (.ref 1), some (.ref 183), some (.ref 201), some (.int (nI i)), x5, x6] [] h Q := by
  have hS := hC.1
  refine l_go (op := o_aload 469 1) rfl (fun _ _ => rfl) ?_
  refine l_go (op := o_aload 470 0) rfl (fun _ _ => rfl) ?_
  refine l_go (op := o_iload 472 4) rfl (fun _ _ => rfl) ?_
  refine l_go (op := o_ci 473 1) rfl (fun _ _ => rfl) ?_
  refine l_go (op := o_i2 474 (fun x y => x + y)) rfl (fun _ _ => rfl) ?_
  refine l_go (op := o_sld 475) rfl (g_sldN hsc (nIa rfl (nIl 1)) (by omega)) ?_
  refine l_call (op := o_callV 478 115 2 10) rfl (g_callVs hsc (show (lay 1).1 = 10 by decide) (by decide) rfl rfl rfl (Nat.le_of_ble_eq_true rfl)) ?_
  refine M_mono ?_ (M_sc hsc (p_poke (d := 30) hC hT))
  rintro _ h2 ⟨⟨a9, rfl, hM9⟩, hsc2⟩
  replace hsc := hsc2
  refine l_go (op := o_aload 479 2) rfl (fun _ _ => rfl) ?_
  refine l_go (op := o_aload 480 0) rfl (fun _ _ => rfl) ?_
  refine l_go (op := o_iload 482 4) rfl (fun _ _ => rfl) ?_
  refine l_go (op := o_ci 483 1) rfl (fun _ _ => rfl) ?_
  refine l_go (op := o_i2 484 (fun x y => x + y)) rfl (fun _ _ => rfl) ?_
  refine l_go (op := o_sld 485) rfl (g_sldN hsc (nIa rfl (nIl 1)) (by omega)) ?_
  refine l_call (op := o_callV 488 222 2 11) rfl (g_callVs hsc (show (lay 183).1 = 11 by decide) (by decide) rfl rfl rfl (Nat.le_of_ble_eq_true rfl)) ?_
  refine M_mono ?_ (M_sc hsc hM9)
  rintro _ h3 ⟨⟨rfl, hC3⟩, hsc3⟩
  refine l_ite (op := o_icmp 491 1382 (fun x y => x = y) (fun _ _ => inferInstance)) rfl g_icmp (fun c1 => ?_) (fun c1 => ?_)
  · exact hq _ _ _ hC3 hsc3
  · exact absurd rfl c1
set_option maxRecDepth 8000 in
theorem lw_c7 {T : Nat} {h : AHP} {f : Nat → Int32} {N c i : Nat} {x5 x6 : Option Value} {Q : Option Value → AHP → Prop} (hC : CI T h) (hT : T ≤ 600) (hsc : SC f N c h) (hi7 : i + 7 ≤ N) (hN : N ≤ 3584) (hq : ∀ h3 x5 x6, CI (T + 1) h3 → SC f N c h3 → TL_ 50 1382 [some (.ref 300000), some (.ref 1), some (.ref 183), some (.ref 201), some (.int (nI i)), x5, x6] [] h3 Q) : TL_ 50 493 [some (.ref 300000), some (.ref 1), some (.ref 183), some (.ref 201), some (.int (nI i)), x5, x6] [] h Q := by
  have hS := hC.1
  refine l_go (op := o_aload 494 1) rfl (fun _ _ => rfl) ?_
  refine l_go (op := o_aload 495 0) rfl (fun _ _ => rfl) ?_
  refine l_go (op := o_iload 497 4) rfl (fun _ _ => rfl) ?_
  refine l_go (op := o_ci 498 1) rfl (fun _ _ => rfl) ?_
  refine l_go (op := o_i2 499 (fun x y => x + y)) rfl (fun _ _ => rfl) ?_
  refine l_go (op := o_sld 500) rfl (g_sldN hsc (nIa rfl (nIl 1)) (by omega)) ?_
  refine l_go (op := o_aload 501 0) rfl (fun _ _ => rfl) ?_
  refine l_go (op := o_iload 503 4) rfl (fun _ _ => rfl) ?_
  refine l_go (op := o_ci 504 2) rfl (fun _ _ => rfl) ?_
  refine l_go (op := o_i2 505 (fun x y => x + y)) rfl (fun _ _ => rfl) ?_
  refine l_go (op := o_sld 506) rfl (g_sldN hsc (nIa rfl (nIl 2)) (by omega)) ?_
  refine l_call (op := o_callV 509 116 3 10) rfl (g_callVs hsc (show (lay 1).1 = 10 by decide) (by decide) rfl rfl rfl (Nat.le_of_ble_eq_true rfl)) ?_
  refine M_mono ?_ (M_sc hsc (p_tongs (d := 30) hC hT))
  rintro _ h2 ⟨⟨a9, rfl, hM9⟩, hsc2⟩
  replace hsc := hsc2
  refine l_go (op := o_aload 510 2) rfl (fun _ _ => rfl) ?_
  refine l_go (op := o_aload 511 0) rfl (fun _ _ => rfl) ?_
  refine l_go (op := o_iload 513 4) rfl (fun _ _ => rfl) ?_
  refine l_go (op := o_ci 514 1) rfl (fun _ _ => rfl) ?_
  refine l_go (op := o_i2 515 (fun x y => x + y)) rfl (fun _ _ => rfl) ?_
  refine l_go (op := o_sld 516) rfl (g_sldN hsc (nIa rfl (nIl 1)) (by omega)) ?_
  refine l_go (op := o_aload 517 0) rfl (fun _ _ => rfl) ?_
  refine l_go (op := o_iload 519 4) rfl (fun _ _ => rfl) ?_
  refine l_go (op := o_ci 520 2) rfl (fun _ _ => rfl) ?_
  refine l_go (op := o_i2 521 (fun x y => x + y)) rfl (fun _ _ => rfl) ?_
  refine l_go (op := o_sld 522) rfl (g_sldN hsc (nIa rfl (nIl 2)) (by omega)) ?_
  refine l_call (op := o_callV 525 224 3 11) rfl (g_callVs hsc (show (lay 183).1 = 11 by decide) (by decide) rfl rfl rfl (Nat.le_of_ble_eq_true rfl)) ?_
  refine M_mono ?_ (M_sc hsc hM9)
  rintro _ h3 ⟨⟨rfl, hC3⟩, hsc3⟩
  refine l_ite (op := o_icmp 528 1382 (fun x y => x = y) (fun _ _ => inferInstance)) rfl g_icmp (fun c1 => ?_) (fun c1 => ?_)
  · exact hq _ _ _ hC3 hsc3
  · exact absurd rfl c1
set_option maxRecDepth 8000 in
theorem lw_c8 {T : Nat} {h : AHP} {f : Nat → Int32} {N c i : Nat} {x5 x6 : Option Value} {Q : Option Value → AHP → Prop} (hC : CI T h) (hT : T ≤ 600) (hsc : SC f N c h) (hi7 : i + 7 ≤ N) (hN : N ≤ 3584) (hq : ∀ h3 x5 x6, CI (T + 1) h3 → SC f N c h3 → TL_ 50 1382 [some (.ref 300000), some (.ref 1), some (.ref 183), some (.ref 201), some (.int (nI i)), x5, x6] [] h3 Q) : TL_ 50 530 [some (.ref 300000), some (.ref 1), some (.ref 183), some (.ref 201), some (.int (nI i)), x5, x6] [] h Q := by
  have hS := hC.1
  refine l_go (op := o_aload 531 1) rfl (fun _ _ => rfl) ?_
  refine l_go (op := o_aload 532 0) rfl (fun _ _ => rfl) ?_
  refine l_go (op := o_iload 534 4) rfl (fun _ _ => rfl) ?_
  refine l_go (op := o_ci 535 1) rfl (fun _ _ => rfl) ?_
  refine l_go (op := o_i2 536 (fun x y => x + y)) rfl (fun _ _ => rfl) ?_
  refine l_go (op := o_sld 537) rfl (g_sldN hsc (nIa rfl (nIl 1)) (by omega)) ?_
  refine l_go (op := o_aload 538 0) rfl (fun _ _ => rfl) ?_
  refine l_go (op := o_iload 540 4) rfl (fun _ _ => rfl) ?_
  refine l_go (op := o_ci 541 2) rfl (fun _ _ => rfl) ?_
  refine l_go (op := o_i2 542 (fun x y => x + y)) rfl (fun _ _ => rfl) ?_
  refine l_go (op := o_sld 543) rfl (g_sldN hsc (nIa rfl (nIl 2)) (by omega)) ?_
  refine l_call (op := o_callV 546 117 3 10) rfl (g_callVs hsc (show (lay 1).1 = 10 by decide) (by decide) rfl rfl rfl (Nat.le_of_ble_eq_true rfl)) ?_
  refine M_mono ?_ (M_sc hsc (p_fuel (d := 30) hC hT))
  rintro _ h2 ⟨⟨a9, rfl, hM9⟩, hsc2⟩
  replace hsc := hsc2
  refine l_go (op := o_aload 547 2) rfl (fun _ _ => rfl) ?_
  refine l_go (op := o_aload 548 0) rfl (fun _ _ => rfl) ?_
  refine l_go (op := o_iload 550 4) rfl (fun _ _ => rfl) ?_
  refine l_go (op := o_ci 551 1) rfl (fun _ _ => rfl) ?_
  refine l_go (op := o_i2 552 (fun x y => x + y)) rfl (fun _ _ => rfl) ?_
  refine l_go (op := o_sld 553) rfl (g_sldN hsc (nIa rfl (nIl 1)) (by omega)) ?_
  refine l_go (op := o_aload 554 0) rfl (fun _ _ => rfl) ?_
  refine l_go (op := o_iload 556 4) rfl (fun _ _ => rfl) ?_
  refine l_go (op := o_ci 557 2) rfl (fun _ _ => rfl) ?_
  refine l_go (op := o_i2 558 (fun x y => x + y)) rfl (fun _ _ => rfl) ?_
  refine l_go (op := o_sld 559) rfl (g_sldN hsc (nIa rfl (nIl 2)) (by omega)) ?_
  refine l_call (op := o_callV 562 225 3 11) rfl (g_callVs hsc (show (lay 183).1 = 11 by decide) (by decide) rfl rfl rfl (Nat.le_of_ble_eq_true rfl)) ?_
  refine M_mono ?_ (M_sc hsc hM9)
  rintro _ h3 ⟨⟨rfl, hC3⟩, hsc3⟩
  refine l_ite (op := o_icmp 565 1382 (fun x y => x = y) (fun _ _ => inferInstance)) rfl g_icmp (fun c1 => ?_) (fun c1 => ?_)
  · exact hq _ _ _ hC3 hsc3
  · exact absurd rfl c1
set_option maxRecDepth 8000 in
theorem lw_c9 {T : Nat} {h : AHP} {f : Nat → Int32} {N c i : Nat} {x5 x6 : Option Value} {Q : Option Value → AHP → Prop} (hC : CI T h) (hT : T ≤ 600) (hsc : SC f N c h) (hi7 : i + 7 ≤ N) (hN : N ≤ 3584) (hq : ∀ h3 x5 x6, CI (T + 1) h3 → SC f N c h3 → TL_ 50 1382 [some (.ref 300000), some (.ref 1), some (.ref 183), some (.ref 201), some (.int (nI i)), x5, x6] [] h3 Q) : TL_ 50 567 [some (.ref 300000), some (.ref 1), some (.ref 183), some (.ref 201), some (.int (nI i)), x5, x6] [] h Q := by
  have hS := hC.1
  refine l_go (op := o_aload 568 1) rfl (fun _ _ => rfl) ?_
  refine l_call (op := o_callV 571 118 1 10) rfl (g_callVs hsc (show (lay 1).1 = 10 by decide) (by decide) rfl rfl rfl (Nat.le_of_ble_eq_true rfl)) ?_
  refine M_mono ?_ (M_sc hsc (p_bank (d := 30) hC hT))
  rintro _ h2 ⟨⟨a9, rfl, hM9⟩, hsc2⟩
  replace hsc := hsc2
  refine l_go (op := o_aload 572 2) rfl (fun _ _ => rfl) ?_
  refine l_call (op := o_callV 575 226 1 11) rfl (g_callVs hsc (show (lay 183).1 = 11 by decide) (by decide) rfl rfl rfl (Nat.le_of_ble_eq_true rfl)) ?_
  refine M_mono ?_ (M_sc hsc hM9)
  rintro _ h3 ⟨⟨rfl, hC3⟩, hsc3⟩
  refine l_ite (op := o_icmp 578 1382 (fun x y => x = y) (fun _ _ => inferInstance)) rfl g_icmp (fun c1 => ?_) (fun c1 => ?_)
  · exact hq _ _ _ hC3 hsc3
  · exact absurd rfl c1
set_option maxRecDepth 8000 in
theorem lw_c10 {T : Nat} {h : AHP} {f : Nat → Int32} {N c i : Nat} {x5 x6 : Option Value} {Q : Option Value → AHP → Prop} (hC : CI T h) (hT : T ≤ 600) (hsc : SC f N c h) (hi7 : i + 7 ≤ N) (hN : N ≤ 3584) (hq : ∀ h3 x5 x6, CI (T + 1) h3 → SC f N c h3 → TL_ 50 1382 [some (.ref 300000), some (.ref 1), some (.ref 183), some (.ref 201), some (.int (nI i)), x5, x6] [] h3 Q) : TL_ 50 580 [some (.ref 300000), some (.ref 1), some (.ref 183), some (.ref 201), some (.int (nI i)), x5, x6] [] h Q := by
  have hS := hC.1
  refine l_go (op := o_aload 581 1) rfl (fun _ _ => rfl) ?_
  refine l_call (op := o_callV 584 119 1 10) rfl (g_callVs hsc (show (lay 1).1 = 10 by decide) (by decide) rfl rfl rfl (Nat.le_of_ble_eq_true rfl)) ?_
  refine M_mono ?_ (M_sc hsc (p_undo (d := 30) hC hT))
  rintro _ h2 ⟨⟨a9, rfl, hM9⟩, hsc2⟩
  replace hsc := hsc2
  refine l_go (op := o_aload 585 2) rfl (fun _ _ => rfl) ?_
  refine l_call (op := o_callV 588 227 1 11) rfl (g_callVs hsc (show (lay 183).1 = 11 by decide) (by decide) rfl rfl rfl (Nat.le_of_ble_eq_true rfl)) ?_
  refine M_mono ?_ (M_sc hsc hM9)
  rintro _ h3 ⟨⟨rfl, hC3⟩, hsc3⟩
  refine l_ite (op := o_icmp 591 1382 (fun x y => x = y) (fun _ _ => inferInstance)) rfl g_icmp (fun c1 => ?_) (fun c1 => ?_)
  · exact hq _ _ _ hC3 hsc3
  · exact absurd rfl c1
set_option maxRecDepth 8000 in
theorem lw_c11 {T : Nat} {h : AHP} {f : Nat → Int32} {N c i : Nat} {x5 x6 : Option Value} {Q : Option Value → AHP → Prop} (hC : CI T h) (hT : T ≤ 600) (hsc : SC f N c h) (hi7 : i + 7 ≤ N) (hN : N ≤ 3584) (hq : ∀ h3 x5 x6, CI (T + 1) h3 → SC f N c h3 → TL_ 50 1382 [some (.ref 300000), some (.ref 1), some (.ref 183), some (.ref 201), some (.int (nI i)), x5, x6] [] h3 Q) : TL_ 50 593 [some (.ref 300000), some (.ref 1), some (.ref 183), some (.ref 201), some (.int (nI i)), x5, x6] [] h Q := by
  have hS := hC.1
  refine l_go (op := o_aload 594 1) rfl (fun _ _ => rfl) ?_
  refine l_go (op := o_aload 595 0) rfl (fun _ _ => rfl) ?_
  refine l_go (op := o_iload 597 4) rfl (fun _ _ => rfl) ?_
  refine l_go (op := o_ci 598 1) rfl (fun _ _ => rfl) ?_
  refine l_go (op := o_i2 599 (fun x y => x + y)) rfl (fun _ _ => rfl) ?_
  refine l_go (op := o_sld 600) rfl (g_sldN hsc (nIa rfl (nIl 1)) (by omega)) ?_
  refine l_call (op := o_callV 603 120 2 10) rfl (g_callVs hsc (show (lay 1).1 = 10 by decide) (by decide) rfl rfl rfl (Nat.le_of_ble_eq_true rfl)) ?_
  refine M_mono ?_ (M_sc hsc (p_judged (d := 30) hC hT))
  rintro _ h2 ⟨⟨a9, rfl, hM9⟩, hsc2⟩
  replace hsc := hsc2
  refine l_go (op := o_aload 604 2) rfl (fun _ _ => rfl) ?_
  refine l_go (op := o_aload 605 0) rfl (fun _ _ => rfl) ?_
  refine l_go (op := o_iload 607 4) rfl (fun _ _ => rfl) ?_
  refine l_go (op := o_ci 608 1) rfl (fun _ _ => rfl) ?_
  refine l_go (op := o_i2 609 (fun x y => x + y)) rfl (fun _ _ => rfl) ?_
  refine l_go (op := o_sld 610) rfl (g_sldN hsc (nIa rfl (nIl 1)) (by omega)) ?_
  refine l_call (op := o_callV 613 228 2 11) rfl (g_callVs hsc (show (lay 183).1 = 11 by decide) (by decide) rfl rfl rfl (Nat.le_of_ble_eq_true rfl)) ?_
  refine M_mono ?_ (M_sc hsc hM9)
  rintro _ h3 ⟨⟨rfl, hC3⟩, hsc3⟩
  refine l_ite (op := o_icmp 616 1382 (fun x y => x = y) (fun _ _ => inferInstance)) rfl g_icmp (fun c1 => ?_) (fun c1 => ?_)
  · exact hq _ _ _ hC3 hsc3
  · exact absurd rfl c1
set_option maxRecDepth 8000 in
theorem lw_c12 {T : Nat} {h : AHP} {f : Nat → Int32} {N c i : Nat} {x5 x6 : Option Value} {Q : Option Value → AHP → Prop} (hC : CI T h) (hT : T ≤ 600) (hsc : SC f N c h) (hi7 : i + 7 ≤ N) (hN : N ≤ 3584) (hq : ∀ h3 x5 x6, CI (T + 1) h3 → SC f N c h3 → TL_ 50 1382 [some (.ref 300000), some (.ref 1), some (.ref 183), some (.ref 201), some (.int (nI i)), x5, x6] [] h3 Q) : TL_ 50 618 [some (.ref 300000), some (.ref 1), some (.ref 183), some (.ref 201), some (.int (nI i)), x5, x6] [] h Q := by
  have hS := hC.1
  refine l_go (op := o_aload 619 1) rfl (fun _ _ => rfl) ?_
  refine l_go (op := o_aload 620 0) rfl (fun _ _ => rfl) ?_
  refine l_go (op := o_iload 622 4) rfl (fun _ _ => rfl) ?_
  refine l_go (op := o_ci 623 1) rfl (fun _ _ => rfl) ?_
  refine l_go (op := o_i2 624 (fun x y => x + y)) rfl (fun _ _ => rfl) ?_
  refine l_go (op := o_sld 625) rfl (g_sldN hsc (nIa rfl (nIl 1)) (by omega)) ?_
  refine l_call (op := o_callV 628 121 2 10) rfl (g_callVs hsc (show (lay 1).1 = 10 by decide) (by decide) rfl rfl rfl (Nat.le_of_ble_eq_true rfl)) ?_
  refine M_mono ?_ (M_sc hsc (p_out (d := 30) hC hT))
  rintro _ h2 ⟨⟨a9, rfl, hM9⟩, hsc2⟩
  replace hsc := hsc2
  refine l_go (op := o_aload 629 2) rfl (fun _ _ => rfl) ?_
  refine l_go (op := o_aload 630 0) rfl (fun _ _ => rfl) ?_
  refine l_go (op := o_iload 632 4) rfl (fun _ _ => rfl) ?_
  refine l_go (op := o_ci 633 1) rfl (fun _ _ => rfl) ?_
  refine l_go (op := o_i2 634 (fun x y => x + y)) rfl (fun _ _ => rfl) ?_
  refine l_go (op := o_sld 635) rfl (g_sldN hsc (nIa rfl (nIl 1)) (by omega)) ?_
  refine l_call (op := o_callV 638 231 2 11) rfl (g_callVs hsc (show (lay 183).1 = 11 by decide) (by decide) rfl rfl rfl (Nat.le_of_ble_eq_true rfl)) ?_
  refine M_mono ?_ (M_sc hsc hM9)
  rintro _ h3 ⟨⟨rfl, hC3⟩, hsc3⟩
  refine l_ite (op := o_icmp 641 1382 (fun x y => x = y) (fun _ _ => inferInstance)) rfl g_icmp (fun c1 => ?_) (fun c1 => ?_)
  · exact hq _ _ _ hC3 hsc3
  · exact absurd rfl c1
set_option maxRecDepth 8000 in
theorem lw_c13 {T : Nat} {h : AHP} {f : Nat → Int32} {N c i : Nat} {x5 x6 : Option Value} {Q : Option Value → AHP → Prop} (hC : CI T h) (hT : T ≤ 600) (hsc : SC f N c h) (hi7 : i + 7 ≤ N) (hN : N ≤ 3584) (hq : ∀ h3 x5 x6, CI (T + 1) h3 → SC f N c h3 → TL_ 50 1382 [some (.ref 300000), some (.ref 1), some (.ref 183), some (.ref 201), some (.int (nI i)), x5, x6] [] h3 Q) : TL_ 50 643 [some (.ref 300000), some (.ref 1), some (.ref 183), some (.ref 201), some (.int (nI i)), x5, x6] [] h Q := by
  have hS := hC.1
  refine l_go (op := o_aload 644 1) rfl (fun _ _ => rfl) ?_
  refine l_call (op := o_callV 647 122 1 10) rfl (g_callVs hsc (show (lay 1).1 = 10 by decide) (by decide) rfl rfl rfl (Nat.le_of_ble_eq_true rfl)) ?_
  refine M_mono ?_ (M_sc hsc (p_lasts (d := 30) hC hT))
  rintro _ h2 ⟨⟨a9, rfl, hM9⟩, hsc2⟩
  replace hsc := hsc2
  refine l_go (op := o_aload 648 2) rfl (fun _ _ => rfl) ?_
  refine l_call (op := o_callV 651 234 1 11) rfl (g_callVs hsc (show (lay 183).1 = 11 by decide) (by decide) rfl rfl rfl (Nat.le_of_ble_eq_true rfl)) ?_
  refine M_mono ?_ (M_sc hsc hM9)
  rintro _ h3 ⟨⟨rfl, hC3⟩, hsc3⟩
  refine l_ite (op := o_icmp 654 1382 (fun x y => x = y) (fun _ _ => inferInstance)) rfl g_icmp (fun c1 => ?_) (fun c1 => ?_)
  · exact hq _ _ _ hC3 hsc3
  · exact absurd rfl c1
set_option maxRecDepth 8000 in
theorem lw_c14 {T : Nat} {h : AHP} {f : Nat → Int32} {N c i : Nat} {x5 x6 : Option Value} {Q : Option Value → AHP → Prop} (hC : CI T h) (hT : T ≤ 600) (hsc : SC f N c h) (hi7 : i + 7 ≤ N) (hN : N ≤ 3584) (hq : ∀ h3 x5 x6, CI (T + 1) h3 → SC f N c h3 → TL_ 50 1382 [some (.ref 300000), some (.ref 1), some (.ref 183), some (.ref 201), some (.int (nI i)), x5, x6] [] h3 Q) : TL_ 50 656 [some (.ref 300000), some (.ref 1), some (.ref 183), some (.ref 201), some (.int (nI i)), x5, x6] [] h Q := by
  have hS := hC.1
  refine l_go (op := o_aload 657 1) rfl (fun _ _ => rfl) ?_
  refine l_call (op := o_callV 660 123 1 10) rfl (g_callVs hsc (show (lay 1).1 = 10 by decide) (by decide) rfl rfl rfl (Nat.le_of_ble_eq_true rfl)) ?_
  refine M_mono ?_ (M_sc hsc (p_last (d := 30) hC hT))
  rintro _ h2 ⟨⟨a9, rfl, hM9⟩, hsc2⟩
  replace hsc := hsc2
  refine l_go (op := o_aload 661 2) rfl (fun _ _ => rfl) ?_
  refine l_call (op := o_callV 664 232 1 11) rfl (g_callVs hsc (show (lay 183).1 = 11 by decide) (by decide) rfl rfl rfl (Nat.le_of_ble_eq_true rfl)) ?_
  refine M_mono ?_ (M_sc hsc hM9)
  rintro _ h3 ⟨⟨rfl, hC3⟩, hsc3⟩
  refine l_ite (op := o_icmp 667 1382 (fun x y => x = y) (fun _ _ => inferInstance)) rfl g_icmp (fun c1 => ?_) (fun c1 => ?_)
  · exact hq _ _ _ hC3 hsc3
  · exact absurd rfl c1
set_option maxRecDepth 8000 in
theorem lw_c15 {T : Nat} {h : AHP} {f : Nat → Int32} {N c i : Nat} {x5 x6 : Option Value} {Q : Option Value → AHP → Prop} (hC : CI T h) (hT : T ≤ 600) (hsc : SC f N c h) (hi7 : i + 7 ≤ N) (hN : N ≤ 3584) (hq : ∀ h3 x5 x6, CI (T + 1) h3 → SC f N c h3 → TL_ 50 1382 [some (.ref 300000), some (.ref 1), some (.ref 183), some (.ref 201), some (.int (nI i)), x5, x6] [] h3 Q) : TL_ 50 669 [some (.ref 300000), some (.ref 1), some (.ref 183), some (.ref 201), some (.int (nI i)), x5, x6] [] h Q := by
  have hS := hC.1
  refine l_go (op := o_aload 670 1) rfl (fun _ _ => rfl) ?_
  refine l_call (op := o_callV 673 124 1 10) rfl (g_callVs hsc (show (lay 1).1 = 10 by decide) (by decide) rfl rfl rfl (Nat.le_of_ble_eq_true rfl)) ?_
  refine M_mono ?_ (M_sc hsc (p_peak (d := 30) hC hT))
  rintro _ h2 ⟨⟨a9, rfl, hM9⟩, hsc2⟩
  replace hsc := hsc2
  refine l_go (op := o_aload 674 2) rfl (fun _ _ => rfl) ?_
  refine l_call (op := o_callV 677 239 1 11) rfl (g_callVs hsc (show (lay 183).1 = 11 by decide) (by decide) rfl rfl rfl (Nat.le_of_ble_eq_true rfl)) ?_
  refine M_mono ?_ (M_sc hsc hM9)
  rintro _ h3 ⟨⟨rfl, hC3⟩, hsc3⟩
  refine l_ite (op := o_icmp 680 1382 (fun x y => x = y) (fun _ _ => inferInstance)) rfl g_icmp (fun c1 => ?_) (fun c1 => ?_)
  · exact hq _ _ _ hC3 hsc3
  · exact absurd rfl c1
set_option maxRecDepth 8000 in
theorem lw_c16 {T : Nat} {h : AHP} {f : Nat → Int32} {N c i : Nat} {x5 x6 : Option Value} {Q : Option Value → AHP → Prop} (hC : CI T h) (hT : T ≤ 600) (hsc : SC f N c h) (hi7 : i + 7 ≤ N) (hN : N ≤ 3584) (hq : ∀ h3 x5 x6, CI (T + 1) h3 → SC f N c h3 → TL_ 50 1382 [some (.ref 300000), some (.ref 1), some (.ref 183), some (.ref 201), some (.int (nI i)), x5, x6] [] h3 Q) : TL_ 50 682 [some (.ref 300000), some (.ref 1), some (.ref 183), some (.ref 201), some (.int (nI i)), x5, x6] [] h Q := by
  have hS := hC.1
  refine l_go (op := o_aload 683 1) rfl (fun _ _ => rfl) ?_
  refine l_call (op := o_callV 686 125 1 10) rfl (g_callVs hsc (show (lay 1).1 = 10 by decide) (by decide) rfl rfl rfl (Nat.le_of_ble_eq_true rfl)) ?_
  refine M_mono ?_ (M_sc hsc (p_age (d := 30) hC hT))
  rintro _ h2 ⟨⟨a9, rfl, hM9⟩, hsc2⟩
  replace hsc := hsc2
  refine l_go (op := o_aload 687 2) rfl (fun _ _ => rfl) ?_
  refine l_call (op := o_callV 690 240 1 11) rfl (g_callVs hsc (show (lay 183).1 = 11 by decide) (by decide) rfl rfl rfl (Nat.le_of_ble_eq_true rfl)) ?_
  refine M_mono ?_ (M_sc hsc hM9)
  rintro _ h3 ⟨⟨rfl, hC3⟩, hsc3⟩
  refine l_ite (op := o_icmp 693 1382 (fun x y => x = y) (fun _ _ => inferInstance)) rfl g_icmp (fun c1 => ?_) (fun c1 => ?_)
  · exact hq _ _ _ hC3 hsc3
  · exact absurd rfl c1
set_option maxRecDepth 8000 in
theorem lw_c17 {T : Nat} {h : AHP} {f : Nat → Int32} {N c i : Nat} {x5 x6 : Option Value} {Q : Option Value → AHP → Prop} (hC : CI T h) (hT : T ≤ 600) (hsc : SC f N c h) (hi7 : i + 7 ≤ N) (hN : N ≤ 3584) (hq : ∀ h3 x5 x6, CI (T + 1) h3 → SC f N c h3 → TL_ 50 1382 [some (.ref 300000), some (.ref 1), some (.ref 183), some (.ref 201), some (.int (nI i)), x5, x6] [] h3 Q) : TL_ 50 695 [some (.ref 300000), some (.ref 1), some (.ref 183), some (.ref 201), some (.int (nI i)), x5, x6] [] h Q := by
  have hS := hC.1
  refine l_go (op := o_aload 696 1) rfl (fun _ _ => rfl) ?_
  refine l_go (op := o_aload 697 0) rfl (fun _ _ => rfl) ?_
  refine l_go (op := o_iload 699 4) rfl (fun _ _ => rfl) ?_
  refine l_go (op := o_ci 700 1) rfl (fun _ _ => rfl) ?_
  refine l_go (op := o_i2 701 (fun x y => x + y)) rfl (fun _ _ => rfl) ?_
  refine l_go (op := o_sld 702) rfl (g_sldN hsc (nIa rfl (nIl 1)) (by omega)) ?_
  refine l_call (op := o_callV 705 126 2 10) rfl (g_callVs hsc (show (lay 1).1 = 10 by decide) (by decide) rfl rfl rfl (Nat.le_of_ble_eq_true rfl)) ?_
  refine M_mono ?_ (M_sc hsc (p_move (d := 30) hC hT))
  rintro _ h2 ⟨⟨a9, rfl, hM9⟩, hsc2⟩
  replace hsc := hsc2
  refine l_go (op := o_aload 706 2) rfl (fun _ _ => rfl) ?_
  refine l_go (op := o_aload 707 0) rfl (fun _ _ => rfl) ?_
  refine l_go (op := o_iload 709 4) rfl (fun _ _ => rfl) ?_
  refine l_go (op := o_ci 710 1) rfl (fun _ _ => rfl) ?_
  refine l_go (op := o_i2 711 (fun x y => x + y)) rfl (fun _ _ => rfl) ?_
  refine l_go (op := o_sld 712) rfl (g_sldN hsc (nIa rfl (nIl 1)) (by omega)) ?_
  refine l_call (op := o_callV 715 241 2 11) rfl (g_callVs hsc (show (lay 183).1 = 11 by decide) (by decide) rfl rfl rfl (Nat.le_of_ble_eq_true rfl)) ?_
  refine M_mono ?_ (M_sc hsc hM9)
  rintro _ h3 ⟨⟨rfl, hC3⟩, hsc3⟩
  refine l_ite (op := o_icmp 718 1382 (fun x y => x = y) (fun _ _ => inferInstance)) rfl g_icmp (fun c1 => ?_) (fun c1 => ?_)
  · exact hq _ _ _ hC3 hsc3
  · exact absurd rfl c1
set_option maxRecDepth 8000 in
theorem lw_c18 {T : Nat} {h : AHP} {f : Nat → Int32} {N c i : Nat} {x5 x6 : Option Value} {Q : Option Value → AHP → Prop} (hC : CI T h) (hT : T ≤ 600) (hsc : SC f N c h) (hi7 : i + 7 ≤ N) (hN : N ≤ 3584) (hq : ∀ h3 x5 x6, CI (T + 1) h3 → SC f N c h3 → TL_ 50 1382 [some (.ref 300000), some (.ref 1), some (.ref 183), some (.ref 201), some (.int (nI i)), x5, x6] [] h3 Q) : TL_ 50 720 [some (.ref 300000), some (.ref 1), some (.ref 183), some (.ref 201), some (.int (nI i)), x5, x6] [] h Q := by
  have hS := hC.1
  refine l_go (op := o_aload 721 1) rfl (fun _ _ => rfl) ?_
  refine l_call (op := o_callV 724 127 1 10) rfl (g_callVs hsc (show (lay 1).1 = 10 by decide) (by decide) rfl rfl rfl (Nat.le_of_ble_eq_true rfl)) ?_
  refine M_mono ?_ (M_sc hsc (p_banks (d := 30) hC hT))
  rintro _ h2 ⟨⟨a9, rfl, hM9⟩, hsc2⟩
  replace hsc := hsc2
  refine l_go (op := o_aload 725 2) rfl (fun _ _ => rfl) ?_
  refine l_call (op := o_callV 728 243 1 11) rfl (g_callVs hsc (show (lay 183).1 = 11 by decide) (by decide) rfl rfl rfl (Nat.le_of_ble_eq_true rfl)) ?_
  refine M_mono ?_ (M_sc hsc hM9)
  rintro _ h3 ⟨⟨rfl, hC3⟩, hsc3⟩
  refine l_ite (op := o_icmp 731 1382 (fun x y => x = y) (fun _ _ => inferInstance)) rfl g_icmp (fun c1 => ?_) (fun c1 => ?_)
  · exact hq _ _ _ hC3 hsc3
  · exact absurd rfl c1
set_option maxRecDepth 8000 in
theorem lw_c19 {T : Nat} {h : AHP} {f : Nat → Int32} {N c i : Nat} {x5 x6 : Option Value} {Q : Option Value → AHP → Prop} (hC : CI T h) (hT : T ≤ 600) (hsc : SC f N c h) (hi7 : i + 7 ≤ N) (hN : N ≤ 3584) (hq : ∀ h3 x5 x6, CI (T + 1) h3 → SC f N c h3 → TL_ 50 1382 [some (.ref 300000), some (.ref 1), some (.ref 183), some (.ref 201), some (.int (nI i)), x5, x6] [] h3 Q) : TL_ 50 733 [some (.ref 300000), some (.ref 1), some (.ref 183), some (.ref 201), some (.int (nI i)), x5, x6] [] h Q := by
  have hS := hC.1
  refine l_go (op := o_aload 734 1) rfl (fun _ _ => rfl) ?_
  refine l_go (op := o_aload 735 0) rfl (fun _ _ => rfl) ?_
  refine l_go (op := o_iload 737 4) rfl (fun _ _ => rfl) ?_
  refine l_go (op := o_ci 738 1) rfl (fun _ _ => rfl) ?_
  refine l_go (op := o_i2 739 (fun x y => x + y)) rfl (fun _ _ => rfl) ?_
  refine l_go (op := o_sld 740) rfl (g_sldN hsc (nIa rfl (nIl 1)) (by omega)) ?_
  refine l_call (op := o_callV 743 128 2 10) rfl (g_callVs hsc (show (lay 1).1 = 10 by decide) (by decide) rfl rfl rfl (Nat.le_of_ble_eq_true rfl)) ?_
  refine M_mono ?_ (M_sc hsc (p_stir (d := 30) hC hT))
  rintro _ h2 ⟨⟨a9, rfl, hM9⟩, hsc2⟩
  replace hsc := hsc2
  refine l_go (op := o_aload 744 2) rfl (fun _ _ => rfl) ?_
  refine l_go (op := o_aload 745 0) rfl (fun _ _ => rfl) ?_
  refine l_go (op := o_iload 747 4) rfl (fun _ _ => rfl) ?_
  refine l_go (op := o_ci 748 1) rfl (fun _ _ => rfl) ?_
  refine l_go (op := o_i2 749 (fun x y => x + y)) rfl (fun _ _ => rfl) ?_
  refine l_go (op := o_sld 750) rfl (g_sldN hsc (nIa rfl (nIl 1)) (by omega)) ?_
  refine l_call (op := o_callV 753 244 2 11) rfl (g_callVs hsc (show (lay 183).1 = 11 by decide) (by decide) rfl rfl rfl (Nat.le_of_ble_eq_true rfl)) ?_
  refine M_mono ?_ (M_sc hsc hM9)
  rintro _ h3 ⟨⟨rfl, hC3⟩, hsc3⟩
  refine l_ite (op := o_icmp 756 1382 (fun x y => x = y) (fun _ _ => inferInstance)) rfl g_icmp (fun c1 => ?_) (fun c1 => ?_)
  · exact hq _ _ _ hC3 hsc3
  · exact absurd rfl c1
set_option maxRecDepth 8000 in
theorem lw_c20 {T : Nat} {h : AHP} {f : Nat → Int32} {N c i : Nat} {x5 x6 : Option Value} {Q : Option Value → AHP → Prop} (hC : CI T h) (hT : T ≤ 600) (hsc : SC f N c h) (hi7 : i + 7 ≤ N) (hN : N ≤ 3584) (hq : ∀ h3 x5 x6, CI (T + 1) h3 → SC f N c h3 → TL_ 50 1382 [some (.ref 300000), some (.ref 1), some (.ref 183), some (.ref 201), some (.int (nI i)), x5, x6] [] h3 Q) : TL_ 50 758 [some (.ref 300000), some (.ref 1), some (.ref 183), some (.ref 201), some (.int (nI i)), x5, x6] [] h Q := by
  have hS := hC.1
  refine l_go (op := o_aload 759 1) rfl (fun _ _ => rfl) ?_
  refine l_call (op := o_callV 762 129 1 10) rfl (g_callVs hsc (show (lay 1).1 = 10 by decide) (by decide) rfl rfl rfl (Nat.le_of_ble_eq_true rfl)) ?_
  refine M_mono ?_ (M_sc hsc (p_kindle (d := 30) hC hT))
  rintro _ h2 ⟨⟨a9, rfl, hM9⟩, hsc2⟩
  replace hsc := hsc2
  refine l_go (op := o_aload 763 2) rfl (fun _ _ => rfl) ?_
  refine l_call (op := o_callV 766 247 1 11) rfl (g_callVs hsc (show (lay 183).1 = 11 by decide) (by decide) rfl rfl rfl (Nat.le_of_ble_eq_true rfl)) ?_
  refine M_mono ?_ (M_sc hsc hM9)
  rintro _ h3 ⟨⟨rfl, hC3⟩, hsc3⟩
  refine l_ite (op := o_icmp 769 1382 (fun x y => x = y) (fun _ _ => inferInstance)) rfl g_icmp (fun c1 => ?_) (fun c1 => ?_)
  · exact hq _ _ _ hC3 hsc3
  · exact absurd rfl c1
set_option maxRecDepth 8000 in
theorem lw_c21 {T : Nat} {h : AHP} {f : Nat → Int32} {N c i : Nat} {x5 x6 : Option Value} {Q : Option Value → AHP → Prop} (hC : CI T h) (hT : T ≤ 600) (hsc : SC f N c h) (hi7 : i + 7 ≤ N) (hN : N ≤ 3584) (hq : ∀ h3 x5 x6, CI (T + 1) h3 → SC f N c h3 → TL_ 50 1382 [some (.ref 300000), some (.ref 1), some (.ref 183), some (.ref 201), some (.int (nI i)), x5, x6] [] h3 Q) : TL_ 50 771 [some (.ref 300000), some (.ref 1), some (.ref 183), some (.ref 201), some (.int (nI i)), x5, x6] [] h Q := by
  have hS := hC.1
  refine l_go (op := o_aload 772 1) rfl (fun _ _ => rfl) ?_
  refine l_go (op := o_aload 773 0) rfl (fun _ _ => rfl) ?_
  refine l_go (op := o_iload 775 4) rfl (fun _ _ => rfl) ?_
  refine l_go (op := o_ci 776 1) rfl (fun _ _ => rfl) ?_
  refine l_go (op := o_i2 777 (fun x y => x + y)) rfl (fun _ _ => rfl) ?_
  refine l_go (op := o_sld 778) rfl (g_sldN hsc (nIa rfl (nIl 1)) (by omega)) ?_
  refine l_call (op := o_callV 781 130 2 10) rfl (g_callVs hsc (show (lay 1).1 = 10 by decide) (by decide) rfl rfl rfl (Nat.le_of_ble_eq_true rfl)) ?_
  refine M_mono ?_ (M_sc hsc (p_save (d := 30) hC hT))
  rintro _ h2 ⟨⟨a9, rfl, hM9⟩, hsc2⟩
  replace hsc := hsc2
  refine l_go (op := o_aload 782 2) rfl (fun _ _ => rfl) ?_
  refine l_go (op := o_aload 783 0) rfl (fun _ _ => rfl) ?_
  refine l_go (op := o_iload 785 4) rfl (fun _ _ => rfl) ?_
  refine l_go (op := o_ci 786 1) rfl (fun _ _ => rfl) ?_
  refine l_go (op := o_i2 787 (fun x y => x + y)) rfl (fun _ _ => rfl) ?_
  refine l_go (op := o_sld 788) rfl (g_sldN hsc (nIa rfl (nIl 1)) (by omega)) ?_
  refine l_call (op := o_callV 791 248 2 11) rfl (g_callVs hsc (show (lay 183).1 = 11 by decide) (by decide) rfl rfl rfl (Nat.le_of_ble_eq_true rfl)) ?_
  refine M_mono ?_ (M_sc hsc hM9)
  rintro _ h3 ⟨⟨rfl, hC3⟩, hsc3⟩
  refine l_ite (op := o_icmp 794 1382 (fun x y => x = y) (fun _ _ => inferInstance)) rfl g_icmp (fun c1 => ?_) (fun c1 => ?_)
  · exact hq _ _ _ hC3 hsc3
  · exact absurd rfl c1
set_option maxRecDepth 8000 in
theorem lw_c22 {T : Nat} {h : AHP} {f : Nat → Int32} {N c i : Nat} {x5 x6 : Option Value} {Q : Option Value → AHP → Prop} (hC : CI T h) (hT : T ≤ 600) (hsc : SC f N c h) (hi7 : i + 7 ≤ N) (hN : N ≤ 3584) (hq : ∀ h3 x5 x6, CI (T + 1) h3 → SC f N c h3 → TL_ 50 1382 [some (.ref 300000), some (.ref 1), some (.ref 183), some (.ref 201), some (.int (nI i)), x5, x6] [] h3 Q) : TL_ 50 796 [some (.ref 300000), some (.ref 1), some (.ref 183), some (.ref 201), some (.int (nI i)), x5, x6] [] h Q := by
  have hS := hC.1
  refine l_go (op := o_aload 797 1) rfl (fun _ _ => rfl) ?_
  refine l_go (op := o_aload 798 0) rfl (fun _ _ => rfl) ?_
  refine l_go (op := o_iload 800 4) rfl (fun _ _ => rfl) ?_
  refine l_go (op := o_ci 801 1) rfl (fun _ _ => rfl) ?_
  refine l_go (op := o_i2 802 (fun x y => x + y)) rfl (fun _ _ => rfl) ?_
  refine l_go (op := o_sld 803) rfl (g_sldN hsc (nIa rfl (nIl 1)) (by omega)) ?_
  refine l_go (op := o_aload 804 0) rfl (fun _ _ => rfl) ?_
  refine l_go (op := o_iload 806 4) rfl (fun _ _ => rfl) ?_
  refine l_go (op := o_ci 807 2) rfl (fun _ _ => rfl) ?_
  refine l_go (op := o_i2 808 (fun x y => x + y)) rfl (fun _ _ => rfl) ?_
  refine l_go (op := o_sld 809) rfl (g_sldN hsc (nIa rfl (nIl 2)) (by omega)) ?_
  refine l_go (op := o_aload 810 0) rfl (fun _ _ => rfl) ?_
  refine l_go (op := o_iload 812 4) rfl (fun _ _ => rfl) ?_
  refine l_go (op := o_ci 813 3) rfl (fun _ _ => rfl) ?_
  refine l_go (op := o_i2 814 (fun x y => x + y)) rfl (fun _ _ => rfl) ?_
  refine l_go (op := o_sld 815) rfl (g_sldN hsc (nIa rfl (nIl 3)) (by omega)) ?_
  refine l_ite (op := o_if 818 822 (fun x => x = 0) (fun _ => inferInstance)) rfl g_if (fun c1 => ?_) (fun c1 => ?_)
  · refine l_go (op := o_ci 823 0) rfl (fun _ _ => rfl) ?_
    refine l_call (op := o_callV 826 131 4 10) rfl (g_callVs hsc (show (lay 1).1 = 10 by decide) (by decide) rfl rfl rfl (Nat.le_of_ble_eq_true rfl)) ?_
    refine M_mono ?_ (M_sc hsc (pp_tell (d := 30) hC hT (by decide)))
    rintro _ h2 ⟨⟨a9, rfl, hM9⟩, hsc2⟩
    replace hsc := hsc2
    refine l_go (op := o_aload 827 2) rfl (fun _ _ => rfl) ?_
    refine l_go (op := o_aload 828 0) rfl (fun _ _ => rfl) ?_
    refine l_go (op := o_iload 830 4) rfl (fun _ _ => rfl) ?_
    refine l_go (op := o_ci 831 1) rfl (fun _ _ => rfl) ?_
    refine l_go (op := o_i2 832 (fun x y => x + y)) rfl (fun _ _ => rfl) ?_
    refine l_go (op := o_sld 833) rfl (g_sldN hsc (nIa rfl (nIl 1)) (by omega)) ?_
    refine l_go (op := o_aload 834 0) rfl (fun _ _ => rfl) ?_
    refine l_go (op := o_iload 836 4) rfl (fun _ _ => rfl) ?_
    refine l_go (op := o_ci 837 2) rfl (fun _ _ => rfl) ?_
    refine l_go (op := o_i2 838 (fun x y => x + y)) rfl (fun _ _ => rfl) ?_
    refine l_go (op := o_sld 839) rfl (g_sldN hsc (nIa rfl (nIl 2)) (by omega)) ?_
    refine l_go (op := o_aload 840 0) rfl (fun _ _ => rfl) ?_
    refine l_go (op := o_iload 842 4) rfl (fun _ _ => rfl) ?_
    refine l_go (op := o_ci 843 3) rfl (fun _ _ => rfl) ?_
    refine l_go (op := o_i2 844 (fun x y => x + y)) rfl (fun _ _ => rfl) ?_
    refine l_go (op := o_sld 845) rfl (g_sldN hsc (nIa rfl (nIl 3)) (by omega)) ?_
    refine l_ite (op := o_if 848 852 (fun x => x = 0) (fun _ => inferInstance)) rfl g_if (fun c2 => ?_) (fun c2 => ?_)
    · refine l_go (op := o_ci 853 0) rfl (fun _ _ => rfl) ?_
      refine l_call (op := o_callV 856 249 4 11) rfl (g_callVs hsc (show (lay 183).1 = 11 by decide) (by decide) rfl rfl rfl (Nat.le_of_ble_eq_true rfl)) ?_
      refine M_mono ?_ (M_sc hsc hM9)
      rintro _ h3 ⟨⟨rfl, hC3⟩, hsc3⟩
      refine l_ite (op := o_icmp 859 1382 (fun x y => x = y) (fun _ _ => inferInstance)) rfl g_icmp (fun c3 => ?_) (fun c3 => ?_)
      · exact hq _ _ _ hC3 hsc3
      · exact absurd rfl c3
    · exact absurd c1 c2
  · refine l_go (op := o_ci 819 1) rfl (fun _ _ => rfl) ?_
    refine l_go (op := o_goto 823) rfl (fun _ _ => rfl) ?_
    refine l_call (op := o_callV 826 131 4 10) rfl (g_callVs hsc (show (lay 1).1 = 10 by decide) (by decide) rfl rfl rfl (Nat.le_of_ble_eq_true rfl)) ?_
    refine M_mono ?_ (M_sc hsc (pp_tell (d := 30) hC hT (by decide)))
    rintro _ h2 ⟨⟨a9, rfl, hM9⟩, hsc2⟩
    replace hsc := hsc2
    refine l_go (op := o_aload 827 2) rfl (fun _ _ => rfl) ?_
    refine l_go (op := o_aload 828 0) rfl (fun _ _ => rfl) ?_
    refine l_go (op := o_iload 830 4) rfl (fun _ _ => rfl) ?_
    refine l_go (op := o_ci 831 1) rfl (fun _ _ => rfl) ?_
    refine l_go (op := o_i2 832 (fun x y => x + y)) rfl (fun _ _ => rfl) ?_
    refine l_go (op := o_sld 833) rfl (g_sldN hsc (nIa rfl (nIl 1)) (by omega)) ?_
    refine l_go (op := o_aload 834 0) rfl (fun _ _ => rfl) ?_
    refine l_go (op := o_iload 836 4) rfl (fun _ _ => rfl) ?_
    refine l_go (op := o_ci 837 2) rfl (fun _ _ => rfl) ?_
    refine l_go (op := o_i2 838 (fun x y => x + y)) rfl (fun _ _ => rfl) ?_
    refine l_go (op := o_sld 839) rfl (g_sldN hsc (nIa rfl (nIl 2)) (by omega)) ?_
    refine l_go (op := o_aload 840 0) rfl (fun _ _ => rfl) ?_
    refine l_go (op := o_iload 842 4) rfl (fun _ _ => rfl) ?_
    refine l_go (op := o_ci 843 3) rfl (fun _ _ => rfl) ?_
    refine l_go (op := o_i2 844 (fun x y => x + y)) rfl (fun _ _ => rfl) ?_
    refine l_go (op := o_sld 845) rfl (g_sldN hsc (nIa rfl (nIl 3)) (by omega)) ?_
    refine l_ite (op := o_if 848 852 (fun x => x = 0) (fun _ => inferInstance)) rfl g_if (fun c4 => ?_) (fun c4 => ?_)
    · exact absurd c4 c1
    · refine l_go (op := o_ci 849 1) rfl (fun _ _ => rfl) ?_
      refine l_go (op := o_goto 853) rfl (fun _ _ => rfl) ?_
      refine l_call (op := o_callV 856 249 4 11) rfl (g_callVs hsc (show (lay 183).1 = 11 by decide) (by decide) rfl rfl rfl (Nat.le_of_ble_eq_true rfl)) ?_
      refine M_mono ?_ (M_sc hsc hM9)
      rintro _ h3 ⟨⟨rfl, hC3⟩, hsc3⟩
      refine l_ite (op := o_icmp 859 1382 (fun x y => x = y) (fun _ _ => inferInstance)) rfl g_icmp (fun c5 => ?_) (fun c5 => ?_)
      · exact hq _ _ _ hC3 hsc3
      · exact absurd rfl c5
set_option maxRecDepth 8000 in
theorem lw_c23 {T : Nat} {h : AHP} {f : Nat → Int32} {N c i : Nat} {x5 x6 : Option Value} {Q : Option Value → AHP → Prop} (hC : CI T h) (hT : T ≤ 600) (hsc : SC f N c h) (hi7 : i + 7 ≤ N) (hN : N ≤ 3584) (hq : ∀ h3 x5 x6, CI (T + 1) h3 → SC f N c h3 → TL_ 50 1382 [some (.ref 300000), some (.ref 1), some (.ref 183), some (.ref 201), some (.int (nI i)), x5, x6] [] h3 Q) : TL_ 50 861 [some (.ref 300000), some (.ref 1), some (.ref 183), some (.ref 201), some (.int (nI i)), x5, x6] [] h Q := by
  have hS := hC.1
  refine l_go (op := o_aload 862 1) rfl (fun _ _ => rfl) ?_
  refine l_call (op := o_callV 865 132 1 10) rfl (g_callVs hsc (show (lay 1).1 = 10 by decide) (by decide) rfl rfl rfl (Nat.le_of_ble_eq_true rfl)) ?_
  refine M_mono ?_ (M_sc hsc (p_which (d := 30) hC hT))
  rintro _ h2 ⟨⟨a9, rfl, hM9⟩, hsc2⟩
  replace hsc := hsc2
  refine l_go (op := o_aload 866 2) rfl (fun _ _ => rfl) ?_
  refine l_call (op := o_callV 869 252 1 11) rfl (g_callVs hsc (show (lay 183).1 = 11 by decide) (by decide) rfl rfl rfl (Nat.le_of_ble_eq_true rfl)) ?_
  refine M_mono ?_ (M_sc hsc hM9)
  rintro _ h3 ⟨⟨rfl, hC3⟩, hsc3⟩
  refine l_ite (op := o_icmp 872 1382 (fun x y => x = y) (fun _ _ => inferInstance)) rfl g_icmp (fun c1 => ?_) (fun c1 => ?_)
  · exact hq _ _ _ hC3 hsc3
  · exact absurd rfl c1
set_option maxRecDepth 8000 in
theorem lw_c24 {T : Nat} {h : AHP} {f : Nat → Int32} {N c i : Nat} {x5 x6 : Option Value} {Q : Option Value → AHP → Prop} (hC : CI T h) (hT : T ≤ 600) (hsc : SC f N c h) (hi7 : i + 7 ≤ N) (hN : N ≤ 3584) (hq : ∀ h3 x5 x6, CI (T + 1) h3 → SC f N c h3 → TL_ 50 1382 [some (.ref 300000), some (.ref 1), some (.ref 183), some (.ref 201), some (.int (nI i)), x5, x6] [] h3 Q) : TL_ 50 874 [some (.ref 300000), some (.ref 1), some (.ref 183), some (.ref 201), some (.int (nI i)), x5, x6] [] h Q := by
  have hS := hC.1
  refine l_go (op := o_aload 875 1) rfl (fun _ _ => rfl) ?_
  refine l_go (op := o_aload 876 0) rfl (fun _ _ => rfl) ?_
  refine l_go (op := o_iload 878 4) rfl (fun _ _ => rfl) ?_
  refine l_go (op := o_ci 879 1) rfl (fun _ _ => rfl) ?_
  refine l_go (op := o_i2 880 (fun x y => x + y)) rfl (fun _ _ => rfl) ?_
  refine l_go (op := o_sld 881) rfl (g_sldN hsc (nIa rfl (nIl 1)) (by omega)) ?_
  refine l_call (op := o_callV 884 133 2 10) rfl (g_callVs hsc (show (lay 1).1 = 10 by decide) (by decide) rfl rfl rfl (Nat.le_of_ble_eq_true rfl)) ?_
  refine M_mono ?_ (M_sc hsc (p_look (d := 30) hC hT))
  rintro _ h2 ⟨⟨a9, rfl, hM9⟩, hsc2⟩
  replace hsc := hsc2
  refine l_go (op := o_aload 885 2) rfl (fun _ _ => rfl) ?_
  refine l_go (op := o_aload 886 0) rfl (fun _ _ => rfl) ?_
  refine l_go (op := o_iload 888 4) rfl (fun _ _ => rfl) ?_
  refine l_go (op := o_ci 889 1) rfl (fun _ _ => rfl) ?_
  refine l_go (op := o_i2 890 (fun x y => x + y)) rfl (fun _ _ => rfl) ?_
  refine l_go (op := o_sld 891) rfl (g_sldN hsc (nIa rfl (nIl 1)) (by omega)) ?_
  refine l_call (op := o_callV 894 253 2 11) rfl (g_callVs hsc (show (lay 183).1 = 11 by decide) (by decide) rfl rfl rfl (Nat.le_of_ble_eq_true rfl)) ?_
  refine M_mono ?_ (M_sc hsc hM9)
  rintro _ h3 ⟨⟨rfl, hC3⟩, hsc3⟩
  refine l_ite (op := o_icmp 897 1382 (fun x y => x = y) (fun _ _ => inferInstance)) rfl g_icmp (fun c1 => ?_) (fun c1 => ?_)
  · exact hq _ _ _ hC3 hsc3
  · exact absurd rfl c1
set_option maxRecDepth 8000 in
theorem lw_c25 {T : Nat} {h : AHP} {f : Nat → Int32} {N c i : Nat} {x5 x6 : Option Value} {Q : Option Value → AHP → Prop} (hC : CI T h) (hT : T ≤ 600) (hsc : SC f N c h) (hi7 : i + 7 ≤ N) (hN : N ≤ 3584) (hq : ∀ h3 x5 x6, CI (T + 1) h3 → SC f N c h3 → TL_ 50 1382 [some (.ref 300000), some (.ref 1), some (.ref 183), some (.ref 201), some (.int (nI i)), x5, x6] [] h3 Q) : TL_ 50 899 [some (.ref 300000), some (.ref 1), some (.ref 183), some (.ref 201), some (.int (nI i)), x5, x6] [] h Q := by
  have hS := hC.1
  refine l_go (op := o_aload 900 1) rfl (fun _ _ => rfl) ?_
  refine l_go (op := o_aload 901 0) rfl (fun _ _ => rfl) ?_
  refine l_go (op := o_iload 903 4) rfl (fun _ _ => rfl) ?_
  refine l_go (op := o_ci 904 1) rfl (fun _ _ => rfl) ?_
  refine l_go (op := o_i2 905 (fun x y => x + y)) rfl (fun _ _ => rfl) ?_
  refine l_go (op := o_sld 906) rfl (g_sldN hsc (nIa rfl (nIl 1)) (by omega)) ?_
  refine l_go (op := o_aload 907 0) rfl (fun _ _ => rfl) ?_
  refine l_go (op := o_iload 909 4) rfl (fun _ _ => rfl) ?_
  refine l_go (op := o_ci 910 2) rfl (fun _ _ => rfl) ?_
  refine l_go (op := o_i2 911 (fun x y => x + y)) rfl (fun _ _ => rfl) ?_
  refine l_go (op := o_sld 912) rfl (g_sldN hsc (nIa rfl (nIl 2)) (by omega)) ?_
  refine l_go (op := o_aload 913 0) rfl (fun _ _ => rfl) ?_
  refine l_go (op := o_iload 915 4) rfl (fun _ _ => rfl) ?_
  refine l_go (op := o_ci 916 3) rfl (fun _ _ => rfl) ?_
  refine l_go (op := o_i2 917 (fun x y => x + y)) rfl (fun _ _ => rfl) ?_
  refine l_go (op := o_sld 918) rfl (g_sldN hsc (nIa rfl (nIl 3)) (by omega)) ?_
  refine l_call (op := o_callV 921 134 4 10) rfl (g_callVs hsc (show (lay 1).1 = 10 by decide) (by decide) rfl rfl rfl (Nat.le_of_ble_eq_true rfl)) ?_
  refine M_mono ?_ (M_sc hsc (p_chance (d := 30) hC hT))
  rintro _ h2 ⟨⟨a9, rfl, hM9⟩, hsc2⟩
  replace hsc := hsc2
  refine l_go (op := o_aload 922 2) rfl (fun _ _ => rfl) ?_
  refine l_go (op := o_aload 923 0) rfl (fun _ _ => rfl) ?_
  refine l_go (op := o_iload 925 4) rfl (fun _ _ => rfl) ?_
  refine l_go (op := o_ci 926 1) rfl (fun _ _ => rfl) ?_
  refine l_go (op := o_i2 927 (fun x y => x + y)) rfl (fun _ _ => rfl) ?_
  refine l_go (op := o_sld 928) rfl (g_sldN hsc (nIa rfl (nIl 1)) (by omega)) ?_
  refine l_go (op := o_aload 929 0) rfl (fun _ _ => rfl) ?_
  refine l_go (op := o_iload 931 4) rfl (fun _ _ => rfl) ?_
  refine l_go (op := o_ci 932 2) rfl (fun _ _ => rfl) ?_
  refine l_go (op := o_i2 933 (fun x y => x + y)) rfl (fun _ _ => rfl) ?_
  refine l_go (op := o_sld 934) rfl (g_sldN hsc (nIa rfl (nIl 2)) (by omega)) ?_
  refine l_go (op := o_aload 935 0) rfl (fun _ _ => rfl) ?_
  refine l_go (op := o_iload 937 4) rfl (fun _ _ => rfl) ?_
  refine l_go (op := o_ci 938 3) rfl (fun _ _ => rfl) ?_
  refine l_go (op := o_i2 939 (fun x y => x + y)) rfl (fun _ _ => rfl) ?_
  refine l_go (op := o_sld 940) rfl (g_sldN hsc (nIa rfl (nIl 3)) (by omega)) ?_
  refine l_call (op := o_callV 943 254 4 11) rfl (g_callVs hsc (show (lay 183).1 = 11 by decide) (by decide) rfl rfl rfl (Nat.le_of_ble_eq_true rfl)) ?_
  refine M_mono ?_ (M_sc hsc hM9)
  rintro _ h3 ⟨⟨rfl, hC3⟩, hsc3⟩
  refine l_ite (op := o_icmp 946 1382 (fun x y => x = y) (fun _ _ => inferInstance)) rfl g_icmp (fun c1 => ?_) (fun c1 => ?_)
  · exact hq _ _ _ hC3 hsc3
  · exact absurd rfl c1
set_option maxRecDepth 8000 in
theorem lw_c26 {T : Nat} {h : AHP} {f : Nat → Int32} {N c i : Nat} {x5 x6 : Option Value} {Q : Option Value → AHP → Prop} (hC : CI T h) (hT : T ≤ 600) (hsc : SC f N c h) (hi7 : i + 7 ≤ N) (hN : N ≤ 3584) (hq : ∀ h3 x5 x6, CI (T + 1) h3 → SC f N c h3 → TL_ 50 1382 [some (.ref 300000), some (.ref 1), some (.ref 183), some (.ref 201), some (.int (nI i)), x5, x6] [] h3 Q) : TL_ 50 948 [some (.ref 300000), some (.ref 1), some (.ref 183), some (.ref 201), some (.int (nI i)), x5, x6] [] h Q := by
  have hS := hC.1
  refine l_go (op := o_aload 949 1) rfl (fun _ _ => rfl) ?_
  refine l_go (op := o_aload 950 0) rfl (fun _ _ => rfl) ?_
  refine l_go (op := o_iload 952 4) rfl (fun _ _ => rfl) ?_
  refine l_go (op := o_ci 953 1) rfl (fun _ _ => rfl) ?_
  refine l_go (op := o_i2 954 (fun x y => x + y)) rfl (fun _ _ => rfl) ?_
  refine l_go (op := o_sld 955) rfl (g_sldN hsc (nIa rfl (nIl 1)) (by omega)) ?_
  refine l_call (op := o_callV 958 135 2 10) rfl (g_callVs hsc (show (lay 1).1 = 10 by decide) (by decide) rfl rfl rfl (Nat.le_of_ble_eq_true rfl)) ?_
  refine M_mono ?_ (M_sc hsc (p_touch (d := 30) hC hT))
  rintro _ h2 ⟨⟨a9, rfl, hM9⟩, hsc2⟩
  replace hsc := hsc2
  refine l_go (op := o_aload 959 2) rfl (fun _ _ => rfl) ?_
  refine l_go (op := o_aload 960 0) rfl (fun _ _ => rfl) ?_
  refine l_go (op := o_iload 962 4) rfl (fun _ _ => rfl) ?_
  refine l_go (op := o_ci 963 1) rfl (fun _ _ => rfl) ?_
  refine l_go (op := o_i2 964 (fun x y => x + y)) rfl (fun _ _ => rfl) ?_
  refine l_go (op := o_sld 965) rfl (g_sldN hsc (nIa rfl (nIl 1)) (by omega)) ?_
  refine l_call (op := o_callV 968 255 2 11) rfl (g_callVs hsc (show (lay 183).1 = 11 by decide) (by decide) rfl rfl rfl (Nat.le_of_ble_eq_true rfl)) ?_
  refine M_mono ?_ (M_sc hsc hM9)
  rintro _ h3 ⟨⟨rfl, hC3⟩, hsc3⟩
  refine l_ite (op := o_icmp 971 1382 (fun x y => x = y) (fun _ _ => inferInstance)) rfl g_icmp (fun c1 => ?_) (fun c1 => ?_)
  · exact hq _ _ _ hC3 hsc3
  · exact absurd rfl c1
set_option maxRecDepth 8000 in
theorem lw_c27 {T : Nat} {h : AHP} {f : Nat → Int32} {N c i : Nat} {x5 x6 : Option Value} {Q : Option Value → AHP → Prop} (hC : CI T h) (hT : T ≤ 600) (hsc : SC f N c h) (hi7 : i + 7 ≤ N) (hN : N ≤ 3584) (hq : ∀ h3 x5 x6, CI (T + 1) h3 → SC f N c h3 → TL_ 50 1382 [some (.ref 300000), some (.ref 1), some (.ref 183), some (.ref 201), some (.int (nI i)), x5, x6] [] h3 Q) : TL_ 50 973 [some (.ref 300000), some (.ref 1), some (.ref 183), some (.ref 201), some (.int (nI i)), x5, x6] [] h Q := by
  have hS := hC.1
  refine l_go (op := o_aload 974 1) rfl (fun _ _ => rfl) ?_
  refine l_go (op := o_aload 975 0) rfl (fun _ _ => rfl) ?_
  refine l_go (op := o_iload 977 4) rfl (fun _ _ => rfl) ?_
  refine l_go (op := o_ci 978 1) rfl (fun _ _ => rfl) ?_
  refine l_go (op := o_i2 979 (fun x y => x + y)) rfl (fun _ _ => rfl) ?_
  refine l_go (op := o_sld 980) rfl (g_sldN hsc (nIa rfl (nIl 1)) (by omega)) ?_
  refine l_call (op := o_callV 983 136 2 10) rfl (g_callVs hsc (show (lay 1).1 = 10 by decide) (by decide) rfl rfl rfl (Nat.le_of_ble_eq_true rfl)) ?_
  refine M_mono ?_ (M_sc hsc (p_hall (d := 30) hC hT))
  rintro _ h2 ⟨⟨a9, rfl, hM9⟩, hsc2⟩
  replace hsc := hsc2
  refine l_go (op := o_aload 984 2) rfl (fun _ _ => rfl) ?_
  refine l_go (op := o_aload 985 0) rfl (fun _ _ => rfl) ?_
  refine l_go (op := o_iload 987 4) rfl (fun _ _ => rfl) ?_
  refine l_go (op := o_ci 988 1) rfl (fun _ _ => rfl) ?_
  refine l_go (op := o_i2 989 (fun x y => x + y)) rfl (fun _ _ => rfl) ?_
  refine l_go (op := o_sld 990) rfl (g_sldN hsc (nIa rfl (nIl 1)) (by omega)) ?_
  refine l_call (op := o_callV 993 259 2 11) rfl (g_callVs hsc (show (lay 183).1 = 11 by decide) (by decide) rfl rfl rfl (Nat.le_of_ble_eq_true rfl)) ?_
  refine M_mono ?_ (M_sc hsc hM9)
  rintro _ h3 ⟨⟨rfl, hC3⟩, hsc3⟩
  refine l_ite (op := o_icmp 996 1382 (fun x y => x = y) (fun _ _ => inferInstance)) rfl g_icmp (fun c1 => ?_) (fun c1 => ?_)
  · exact hq _ _ _ hC3 hsc3
  · exact absurd rfl c1
set_option maxRecDepth 8000 in
theorem lw_c28 {T : Nat} {h : AHP} {f : Nat → Int32} {N c i : Nat} {x5 x6 : Option Value} {Q : Option Value → AHP → Prop} (hC : CI T h) (hT : T ≤ 600) (hsc : SC f N c h) (hi7 : i + 7 ≤ N) (hN : N ≤ 3584) (hq : ∀ h3 x5 x6, CI (T + 1) h3 → SC f N c h3 → TL_ 50 1382 [some (.ref 300000), some (.ref 1), some (.ref 183), some (.ref 201), some (.int (nI i)), x5, x6] [] h3 Q) : TL_ 50 998 [some (.ref 300000), some (.ref 1), some (.ref 183), some (.ref 201), some (.int (nI i)), x5, x6] [] h Q := by
  have hS := hC.1
  refine l_go (op := o_aload 999 1) rfl (fun _ _ => rfl) ?_
  refine l_call (op := o_callV 1002 137 1 10) rfl (g_callVs hsc (show (lay 1).1 = 10 by decide) (by decide) rfl rfl rfl (Nat.le_of_ble_eq_true rfl)) ?_
  refine M_mono ?_ (M_sc hsc (p_halls (d := 30) hC hT))
  rintro _ h2 ⟨⟨a9, rfl, hM9⟩, hsc2⟩
  replace hsc := hsc2
  refine l_go (op := o_aload 1003 2) rfl (fun _ _ => rfl) ?_
  refine l_call (op := o_callV 1006 260 1 11) rfl (g_callVs hsc (show (lay 183).1 = 11 by decide) (by decide) rfl rfl rfl (Nat.le_of_ble_eq_true rfl)) ?_
  refine M_mono ?_ (M_sc hsc hM9)
  rintro _ h3 ⟨⟨rfl, hC3⟩, hsc3⟩
  refine l_ite (op := o_icmp 1009 1382 (fun x y => x = y) (fun _ _ => inferInstance)) rfl g_icmp (fun c1 => ?_) (fun c1 => ?_)
  · exact hq _ _ _ hC3 hsc3
  · exact absurd rfl c1
set_option maxRecDepth 8000 in
theorem lw_c29 {T : Nat} {h : AHP} {f : Nat → Int32} {N c i : Nat} {x5 x6 : Option Value} {Q : Option Value → AHP → Prop} (hC : CI T h) (hT : T ≤ 600) (hsc : SC f N c h) (hi7 : i + 7 ≤ N) (hN : N ≤ 3584) (hq : ∀ h3 x5 x6, CI (T + 1) h3 → SC f N c h3 → TL_ 50 1382 [some (.ref 300000), some (.ref 1), some (.ref 183), some (.ref 201), some (.int (nI i)), x5, x6] [] h3 Q) : TL_ 50 1011 [some (.ref 300000), some (.ref 1), some (.ref 183), some (.ref 201), some (.int (nI i)), x5, x6] [] h Q := by
  have hS := hC.1
  refine l_go (op := o_aload 1012 1) rfl (fun _ _ => rfl) ?_
  refine l_call (op := o_callV 1015 138 1 10) rfl (g_callVs hsc (show (lay 1).1 = 10 by decide) (by decide) rfl rfl rfl (Nat.le_of_ble_eq_true rfl)) ?_
  refine M_mono ?_ (M_sc hsc (p_tower (d := 30) hC hT))
  rintro _ h2 ⟨⟨a9, rfl, hM9⟩, hsc2⟩
  replace hsc := hsc2
  refine l_go (op := o_aload 1016 2) rfl (fun _ _ => rfl) ?_
  refine l_call (op := o_callV 1019 261 1 11) rfl (g_callVs hsc (show (lay 183).1 = 11 by decide) (by decide) rfl rfl rfl (Nat.le_of_ble_eq_true rfl)) ?_
  refine M_mono ?_ (M_sc hsc hM9)
  rintro _ h3 ⟨⟨rfl, hC3⟩, hsc3⟩
  refine l_ite (op := o_icmp 1022 1382 (fun x y => x = y) (fun _ _ => inferInstance)) rfl g_icmp (fun c1 => ?_) (fun c1 => ?_)
  · exact hq _ _ _ hC3 hsc3
  · exact absurd rfl c1
set_option maxRecDepth 8000 in
theorem lw_c30 {T : Nat} {h : AHP} {f : Nat → Int32} {N c i : Nat} {x5 x6 : Option Value} {Q : Option Value → AHP → Prop} (hC : CI T h) (hT : T ≤ 600) (hsc : SC f N c h) (hi7 : i + 7 ≤ N) (hN : N ≤ 3584) (hq : ∀ h3 x5 x6, CI (T + 1) h3 → SC f N c h3 → TL_ 50 1382 [some (.ref 300000), some (.ref 1), some (.ref 183), some (.ref 201), some (.int (nI i)), x5, x6] [] h3 Q) : TL_ 50 1024 [some (.ref 300000), some (.ref 1), some (.ref 183), some (.ref 201), some (.int (nI i)), x5, x6] [] h Q := by
  have hS := hC.1
  refine l_go (op := o_aload 1025 1) rfl (fun _ _ => rfl) ?_
  refine l_go (op := o_aload 1026 0) rfl (fun _ _ => rfl) ?_
  refine l_go (op := o_iload 1028 4) rfl (fun _ _ => rfl) ?_
  refine l_go (op := o_ci 1029 1) rfl (fun _ _ => rfl) ?_
  refine l_go (op := o_i2 1030 (fun x y => x + y)) rfl (fun _ _ => rfl) ?_
  refine l_go (op := o_sld 1031) rfl (g_sldN hsc (nIa rfl (nIl 1)) (by omega)) ?_
  refine l_call (op := o_callV 1034 139 2 10) rfl (g_callVs hsc (show (lay 1).1 = 10 by decide) (by decide) rfl rfl rfl (Nat.le_of_ble_eq_true rfl)) ?_
  refine M_mono ?_ (M_sc hsc (p_alight (d := 30) hC hT))
  rintro _ h2 ⟨⟨a9, rfl, hM9⟩, hsc2⟩
  replace hsc := hsc2
  refine l_go (op := o_aload 1035 2) rfl (fun _ _ => rfl) ?_
  refine l_go (op := o_aload 1036 0) rfl (fun _ _ => rfl) ?_
  refine l_go (op := o_iload 1038 4) rfl (fun _ _ => rfl) ?_
  refine l_go (op := o_ci 1039 1) rfl (fun _ _ => rfl) ?_
  refine l_go (op := o_i2 1040 (fun x y => x + y)) rfl (fun _ _ => rfl) ?_
  refine l_go (op := o_sld 1041) rfl (g_sldN hsc (nIa rfl (nIl 1)) (by omega)) ?_
  refine l_call (op := o_callV 1044 262 2 11) rfl (g_callVs hsc (show (lay 183).1 = 11 by decide) (by decide) rfl rfl rfl (Nat.le_of_ble_eq_true rfl)) ?_
  refine M_mono ?_ (M_sc hsc hM9)
  rintro _ h3 ⟨⟨rfl, hC3⟩, hsc3⟩
  refine l_ite (op := o_icmp 1047 1382 (fun x y => x = y) (fun _ _ => inferInstance)) rfl g_icmp (fun c1 => ?_) (fun c1 => ?_)
  · exact hq _ _ _ hC3 hsc3
  · exact absurd rfl c1
set_option maxRecDepth 8000 in
theorem lw_c31 {T : Nat} {h : AHP} {f : Nat → Int32} {N c i : Nat} {x5 x6 : Option Value} {Q : Option Value → AHP → Prop} (hC : CI T h) (hT : T ≤ 600) (hsc : SC f N c h) (hi7 : i + 7 ≤ N) (hN : N ≤ 3584) (hq : ∀ h3 x5 x6, CI (T + 1) h3 → SC f N c h3 → TL_ 50 1382 [some (.ref 300000), some (.ref 1), some (.ref 183), some (.ref 201), some (.int (nI i)), x5, x6] [] h3 Q) : TL_ 50 1049 [some (.ref 300000), some (.ref 1), some (.ref 183), some (.ref 201), some (.int (nI i)), x5, x6] [] h Q := by
  have hS := hC.1
  refine l_go (op := o_aload 1050 1) rfl (fun _ _ => rfl) ?_
  refine l_go (op := o_aload 1051 0) rfl (fun _ _ => rfl) ?_
  refine l_go (op := o_iload 1053 4) rfl (fun _ _ => rfl) ?_
  refine l_go (op := o_ci 1054 1) rfl (fun _ _ => rfl) ?_
  refine l_go (op := o_i2 1055 (fun x y => x + y)) rfl (fun _ _ => rfl) ?_
  refine l_go (op := o_sld 1056) rfl (g_sldN hsc (nIa rfl (nIl 1)) (by omega)) ?_
  refine l_call (op := o_callV 1059 140 2 10) rfl (g_callVs hsc (show (lay 1).1 = 10 by decide) (by decide) rfl rfl rfl (Nat.le_of_ble_eq_true rfl)) ?_
  refine M_mono ?_ (M_sc hsc (p_caught (d := 30) hC hT))
  rintro _ h2 ⟨⟨a9, rfl, hM9⟩, hsc2⟩
  replace hsc := hsc2
  refine l_go (op := o_aload 1060 2) rfl (fun _ _ => rfl) ?_
  refine l_go (op := o_aload 1061 0) rfl (fun _ _ => rfl) ?_
  refine l_go (op := o_iload 1063 4) rfl (fun _ _ => rfl) ?_
  refine l_go (op := o_ci 1064 1) rfl (fun _ _ => rfl) ?_
  refine l_go (op := o_i2 1065 (fun x y => x + y)) rfl (fun _ _ => rfl) ?_
  refine l_go (op := o_sld 1066) rfl (g_sldN hsc (nIa rfl (nIl 1)) (by omega)) ?_
  refine l_call (op := o_callV 1069 235 2 11) rfl (g_callVs hsc (show (lay 183).1 = 11 by decide) (by decide) rfl rfl rfl (Nat.le_of_ble_eq_true rfl)) ?_
  refine M_mono ?_ (M_sc hsc hM9)
  rintro _ h3 ⟨⟨rfl, hC3⟩, hsc3⟩
  refine l_ite (op := o_icmp 1072 1382 (fun x y => x = y) (fun _ _ => inferInstance)) rfl g_icmp (fun c1 => ?_) (fun c1 => ?_)
  · exact hq _ _ _ hC3 hsc3
  · exact absurd rfl c1
set_option maxRecDepth 8000 in
theorem lw_c32 {T : Nat} {h : AHP} {f : Nat → Int32} {N c i : Nat} {x5 x6 : Option Value} {Q : Option Value → AHP → Prop} (hC : CI T h) (hT : T ≤ 600) (hsc : SC f N c h) (hi7 : i + 7 ≤ N) (hN : N ≤ 3584) (hq : ∀ h3 x5 x6, CI (T + 1) h3 → SC f N c h3 → TL_ 50 1382 [some (.ref 300000), some (.ref 1), some (.ref 183), some (.ref 201), some (.int (nI i)), x5, x6] [] h3 Q) : TL_ 50 1074 [some (.ref 300000), some (.ref 1), some (.ref 183), some (.ref 201), some (.int (nI i)), x5, x6] [] h Q := by
  have hS := hC.1
  refine l_go (op := o_aload 1075 1) rfl (fun _ _ => rfl) ?_
  refine l_go (op := o_aload 1076 0) rfl (fun _ _ => rfl) ?_
  refine l_go (op := o_iload 1078 4) rfl (fun _ _ => rfl) ?_
  refine l_go (op := o_ci 1079 1) rfl (fun _ _ => rfl) ?_
  refine l_go (op := o_i2 1080 (fun x y => x + y)) rfl (fun _ _ => rfl) ?_
  refine l_go (op := o_sld 1081) rfl (g_sldN hsc (nIa rfl (nIl 1)) (by omega)) ?_
  refine l_call (op := o_callV 1084 141 2 10) rfl (g_callVs hsc (show (lay 1).1 = 10 by decide) (by decide) rfl rfl rfl (Nat.le_of_ble_eq_true rfl)) ?_
  refine M_mono ?_ (M_sc hsc (p_ash (d := 30) hC hT))
  rintro _ h2 ⟨⟨a9, rfl, hM9⟩, hsc2⟩
  replace hsc := hsc2
  refine l_go (op := o_aload 1085 2) rfl (fun _ _ => rfl) ?_
  refine l_go (op := o_aload 1086 0) rfl (fun _ _ => rfl) ?_
  refine l_go (op := o_iload 1088 4) rfl (fun _ _ => rfl) ?_
  refine l_go (op := o_ci 1089 1) rfl (fun _ _ => rfl) ?_
  refine l_go (op := o_i2 1090 (fun x y => x + y)) rfl (fun _ _ => rfl) ?_
  refine l_go (op := o_sld 1091) rfl (g_sldN hsc (nIa rfl (nIl 1)) (by omega)) ?_
  refine l_call (op := o_callV 1094 236 2 11) rfl (g_callVs hsc (show (lay 183).1 = 11 by decide) (by decide) rfl rfl rfl (Nat.le_of_ble_eq_true rfl)) ?_
  refine M_mono ?_ (M_sc hsc hM9)
  rintro _ h3 ⟨⟨rfl, hC3⟩, hsc3⟩
  refine l_ite (op := o_icmp 1097 1382 (fun x y => x = y) (fun _ _ => inferInstance)) rfl g_icmp (fun c1 => ?_) (fun c1 => ?_)
  · exact hq _ _ _ hC3 hsc3
  · exact absurd rfl c1
set_option maxRecDepth 8000 in
theorem lw_c33 {T : Nat} {h : AHP} {f : Nat → Int32} {N c i : Nat} {x5 x6 : Option Value} {Q : Option Value → AHP → Prop} (hC : CI T h) (hT : T ≤ 600) (hsc : SC f N c h) (hi7 : i + 7 ≤ N) (hN : N ≤ 3584) (hq : ∀ h3 x5 x6, CI (T + 1) h3 → SC f N c h3 → TL_ 50 1382 [some (.ref 300000), some (.ref 1), some (.ref 183), some (.ref 201), some (.int (nI i)), x5, x6] [] h3 Q) : TL_ 50 1099 [some (.ref 300000), some (.ref 1), some (.ref 183), some (.ref 201), some (.int (nI i)), x5, x6] [] h Q := by
  have hS := hC.1
  refine l_go (op := o_aload 1100 1) rfl (fun _ _ => rfl) ?_
  refine l_call (op := o_callV 1103 142 1 10) rfl (g_callVs hsc (show (lay 1).1 = 10 by decide) (by decide) rfl rfl rfl (Nat.le_of_ble_eq_true rfl)) ?_
  refine M_mono ?_ (M_sc hsc (p_falls (d := 30) hC hT))
  rintro _ h2 ⟨⟨a9, rfl, hM9⟩, hsc2⟩
  replace hsc := hsc2
  refine l_go (op := o_aload 1104 2) rfl (fun _ _ => rfl) ?_
  refine l_call (op := o_callV 1107 237 1 11) rfl (g_callVs hsc (show (lay 183).1 = 11 by decide) (by decide) rfl rfl rfl (Nat.le_of_ble_eq_true rfl)) ?_
  refine M_mono ?_ (M_sc hsc hM9)
  rintro _ h3 ⟨⟨rfl, hC3⟩, hsc3⟩
  refine l_ite (op := o_icmp 1110 1382 (fun x y => x = y) (fun _ _ => inferInstance)) rfl g_icmp (fun c1 => ?_) (fun c1 => ?_)
  · exact hq _ _ _ hC3 hsc3
  · exact absurd rfl c1
set_option maxRecDepth 8000 in
theorem lw_c34 {T : Nat} {h : AHP} {f : Nat → Int32} {N c i : Nat} {x5 x6 : Option Value} {Q : Option Value → AHP → Prop} (hC : CI T h) (hT : T ≤ 600) (hsc : SC f N c h) (hi7 : i + 7 ≤ N) (hN : N ≤ 3584) (hq : ∀ h3 x5 x6, CI (T + 1) h3 → SC f N c h3 → TL_ 50 1382 [some (.ref 300000), some (.ref 1), some (.ref 183), some (.ref 201), some (.int (nI i)), x5, x6] [] h3 Q) : TL_ 50 1112 [some (.ref 300000), some (.ref 1), some (.ref 183), some (.ref 201), some (.int (nI i)), x5, x6] [] h Q := by
  have hS := hC.1
  refine l_go (op := o_aload 1113 1) rfl (fun _ _ => rfl) ?_
  refine l_go (op := o_aload 1114 0) rfl (fun _ _ => rfl) ?_
  refine l_go (op := o_iload 1116 4) rfl (fun _ _ => rfl) ?_
  refine l_go (op := o_ci 1117 1) rfl (fun _ _ => rfl) ?_
  refine l_go (op := o_i2 1118 (fun x y => x + y)) rfl (fun _ _ => rfl) ?_
  refine l_go (op := o_sld 1119) rfl (g_sldN hsc (nIa rfl (nIl 1)) (by omega)) ?_
  refine l_call (op := o_callV 1122 143 2 10) rfl (g_callVs hsc (show (lay 1).1 = 10 by decide) (by decide) rfl rfl rfl (Nat.le_of_ble_eq_true rfl)) ?_
  refine M_mono ?_ (M_sc hsc (p_spare (d := 30) hC hT))
  rintro _ h2 ⟨⟨a9, rfl, hM9⟩, hsc2⟩
  replace hsc := hsc2
  refine l_go (op := o_aload 1123 2) rfl (fun _ _ => rfl) ?_
  refine l_go (op := o_aload 1124 0) rfl (fun _ _ => rfl) ?_
  refine l_go (op := o_iload 1126 4) rfl (fun _ _ => rfl) ?_
  refine l_go (op := o_ci 1127 1) rfl (fun _ _ => rfl) ?_
  refine l_go (op := o_i2 1128 (fun x y => x + y)) rfl (fun _ _ => rfl) ?_
  refine l_go (op := o_sld 1129) rfl (g_sldN hsc (nIa rfl (nIl 1)) (by omega)) ?_
  refine l_call (op := o_callV 1132 238 2 11) rfl (g_callVs hsc (show (lay 183).1 = 11 by decide) (by decide) rfl rfl rfl (Nat.le_of_ble_eq_true rfl)) ?_
  refine M_mono ?_ (M_sc hsc hM9)
  rintro _ h3 ⟨⟨rfl, hC3⟩, hsc3⟩
  refine l_ite (op := o_icmp 1135 1382 (fun x y => x = y) (fun _ _ => inferInstance)) rfl g_icmp (fun c1 => ?_) (fun c1 => ?_)
  · exact hq _ _ _ hC3 hsc3
  · exact absurd rfl c1
set_option maxRecDepth 8000 in
theorem lw_c35 {T : Nat} {h : AHP} {f : Nat → Int32} {N c i : Nat} {x5 x6 : Option Value} {Q : Option Value → AHP → Prop} (hC : CI T h) (hT : T ≤ 600) (hsc : SC f N c h) (hi7 : i + 7 ≤ N) (hN : N ≤ 3584) (hq : ∀ h3 x5 x6, CI (T + 1) h3 → SC f N c h3 → TL_ 50 1382 [some (.ref 300000), some (.ref 1), some (.ref 183), some (.ref 201), some (.int (nI i)), x5, x6] [] h3 Q) : TL_ 50 1137 [some (.ref 300000), some (.ref 1), some (.ref 183), some (.ref 201), some (.int (nI i)), x5, x6] [] h Q := by
  have hS := hC.1
  refine l_go (op := o_aload 1138 1) rfl (fun _ _ => rfl) ?_
  refine l_call (op := o_callV 1141 144 1 10) rfl (g_callVs hsc (show (lay 1).1 = 10 by decide) (by decide) rfl rfl rfl (Nat.le_of_ble_eq_true rfl)) ?_
  refine M_mono ?_ (M_sc hsc (p_lone (d := 30) hC hT))
  rintro _ h2 ⟨⟨a9, rfl, hM9⟩, hsc2⟩
  replace hsc := hsc2
  refine l_go (op := o_aload 1142 2) rfl (fun _ _ => rfl) ?_
  refine l_call (op := o_callV 1145 256 1 11) rfl (g_callVs hsc (show (lay 183).1 = 11 by decide) (by decide) rfl rfl rfl (Nat.le_of_ble_eq_true rfl)) ?_
  refine M_mono ?_ (M_sc hsc hM9)
  rintro _ h3 ⟨⟨rfl, hC3⟩, hsc3⟩
  refine l_ite (op := o_icmp 1148 1382 (fun x y => x = y) (fun _ _ => inferInstance)) rfl g_icmp (fun c1 => ?_) (fun c1 => ?_)
  · exact hq _ _ _ hC3 hsc3
  · exact absurd rfl c1
set_option maxRecDepth 8000 in
theorem lw_c36 {T : Nat} {h : AHP} {f : Nat → Int32} {N c i : Nat} {x5 x6 : Option Value} {Q : Option Value → AHP → Prop} (hC : CI T h) (hT : T ≤ 600) (hsc : SC f N c h) (hi7 : i + 7 ≤ N) (hN : N ≤ 3584) (hq : ∀ h3 x5 x6, CI (T + 1) h3 → SC f N c h3 → TL_ 50 1382 [some (.ref 300000), some (.ref 1), some (.ref 183), some (.ref 201), some (.int (nI i)), x5, x6] [] h3 Q) : TL_ 50 1150 [some (.ref 300000), some (.ref 1), some (.ref 183), some (.ref 201), some (.int (nI i)), x5, x6] [] h Q := by
  have hS := hC.1
  refine l_go (op := o_aload 1151 1) rfl (fun _ _ => rfl) ?_
  refine l_call (op := o_callV 1154 145 1 10) rfl (g_callVs hsc (show (lay 1).1 = 10 by decide) (by decide) rfl rfl rfl (Nat.le_of_ble_eq_true rfl)) ?_
  refine M_mono ?_ (M_sc hsc (p_warmest (d := 30) hC hT))
  rintro _ h2 ⟨⟨a9, rfl, hM9⟩, hsc2⟩
  replace hsc := hsc2
  refine l_go (op := o_aload 1155 2) rfl (fun _ _ => rfl) ?_
  refine l_call (op := o_callV 1158 257 1 11) rfl (g_callVs hsc (show (lay 183).1 = 11 by decide) (by decide) rfl rfl rfl (Nat.le_of_ble_eq_true rfl)) ?_
  refine M_mono ?_ (M_sc hsc hM9)
  rintro _ h3 ⟨⟨rfl, hC3⟩, hsc3⟩
  refine l_ite (op := o_icmp 1161 1382 (fun x y => x = y) (fun _ _ => inferInstance)) rfl g_icmp (fun c1 => ?_) (fun c1 => ?_)
  · exact hq _ _ _ hC3 hsc3
  · exact absurd rfl c1
set_option maxRecDepth 8000 in
theorem lw_c38 {T : Nat} {h : AHP} {f : Nat → Int32} {N c i : Nat} {x5 x6 : Option Value} {Q : Option Value → AHP → Prop} (hC : CI T h) (hT : T ≤ 600) (hsc : SC f N c h) (hi7 : i + 7 ≤ N) (hN : N ≤ 3584) (hq : ∀ h3 x5 x6, CI (T + 1) h3 → SC f N c h3 → TL_ 50 1382 [some (.ref 300000), some (.ref 1), some (.ref 183), some (.ref 201), some (.int (nI i)), x5, x6] [] h3 Q) : TL_ 50 1255 [some (.ref 300000), some (.ref 1), some (.ref 183), some (.ref 201), some (.int (nI i)), x5, x6] [] h Q := by
  have hS := hC.1
  refine l_go (op := o_aload 1256 1) rfl (fun _ _ => rfl) ?_
  refine l_go (op := o_aload 1257 0) rfl (fun _ _ => rfl) ?_
  refine l_go (op := o_iload 1259 4) rfl (fun _ _ => rfl) ?_
  refine l_go (op := o_ci 1260 1) rfl (fun _ _ => rfl) ?_
  refine l_go (op := o_i2 1261 (fun x y => x + y)) rfl (fun _ _ => rfl) ?_
  refine l_go (op := o_sld 1262) rfl (g_sldN hsc (nIa rfl (nIl 1)) (by omega)) ?_
  refine l_go (op := o_aload 1263 0) rfl (fun _ _ => rfl) ?_
  refine l_go (op := o_iload 1265 4) rfl (fun _ _ => rfl) ?_
  refine l_go (op := o_ci 1266 2) rfl (fun _ _ => rfl) ?_
  refine l_go (op := o_i2 1267 (fun x y => x + y)) rfl (fun _ _ => rfl) ?_
  refine l_go (op := o_sld 1268) rfl (g_sldN hsc (nIa rfl (nIl 2)) (by omega)) ?_
  refine l_go (op := o_aload 1269 0) rfl (fun _ _ => rfl) ?_
  refine l_go (op := o_iload 1271 4) rfl (fun _ _ => rfl) ?_
  refine l_go (op := o_ci 1272 3) rfl (fun _ _ => rfl) ?_
  refine l_go (op := o_i2 1273 (fun x y => x + y)) rfl (fun _ _ => rfl) ?_
  refine l_go (op := o_sld 1274) rfl (g_sldN hsc (nIa rfl (nIl 3)) (by omega)) ?_
  refine l_call (op := o_callV 1277 146 4 10) rfl (g_callVs hsc (show (lay 1).1 = 10 by decide) (by decide) rfl rfl rfl (Nat.le_of_ble_eq_true rfl)) ?_
  refine M_mono ?_ (M_sc hsc (p_winters (d := 30) hC hT))
  rintro _ h2 ⟨⟨a9, rfl, hM9⟩, hsc2⟩
  replace hsc := hsc2
  refine l_go (op := o_aload 1278 2) rfl (fun _ _ => rfl) ?_
  refine l_go (op := o_aload 1279 0) rfl (fun _ _ => rfl) ?_
  refine l_go (op := o_iload 1281 4) rfl (fun _ _ => rfl) ?_
  refine l_go (op := o_ci 1282 1) rfl (fun _ _ => rfl) ?_
  refine l_go (op := o_i2 1283 (fun x y => x + y)) rfl (fun _ _ => rfl) ?_
  refine l_go (op := o_sld 1284) rfl (g_sldN hsc (nIa rfl (nIl 1)) (by omega)) ?_
  refine l_go (op := o_aload 1285 0) rfl (fun _ _ => rfl) ?_
  refine l_go (op := o_iload 1287 4) rfl (fun _ _ => rfl) ?_
  refine l_go (op := o_ci 1288 2) rfl (fun _ _ => rfl) ?_
  refine l_go (op := o_i2 1289 (fun x y => x + y)) rfl (fun _ _ => rfl) ?_
  refine l_go (op := o_sld 1290) rfl (g_sldN hsc (nIa rfl (nIl 2)) (by omega)) ?_
  refine l_go (op := o_aload 1291 0) rfl (fun _ _ => rfl) ?_
  refine l_go (op := o_iload 1293 4) rfl (fun _ _ => rfl) ?_
  refine l_go (op := o_ci 1294 3) rfl (fun _ _ => rfl) ?_
  refine l_go (op := o_i2 1295 (fun x y => x + y)) rfl (fun _ _ => rfl) ?_
  refine l_go (op := o_sld 1296) rfl (g_sldN hsc (nIa rfl (nIl 3)) (by omega)) ?_
  refine l_call (op := o_callV 1299 267 4 11) rfl (g_callVs hsc (show (lay 183).1 = 11 by decide) (by decide) rfl rfl rfl (Nat.le_of_ble_eq_true rfl)) ?_
  refine M_mono ?_ (M_sc hsc hM9)
  rintro _ h3 ⟨⟨rfl, hC3⟩, hsc3⟩
  refine l_ite (op := o_icmp 1302 1382 (fun x y => x = y) (fun _ _ => inferInstance)) rfl g_icmp (fun c1 => ?_) (fun c1 => ?_)
  · exact hq _ _ _ hC3 hsc3
  · exact absurd rfl c1
set_option maxRecDepth 8000 in
theorem lw_c39 {T : Nat} {h : AHP} {f : Nat → Int32} {N c i : Nat} {x5 x6 : Option Value} {Q : Option Value → AHP → Prop} (hC : CI T h) (hT : T ≤ 600) (hsc : SC f N c h) (hi7 : i + 7 ≤ N) (hN : N ≤ 3584) (hq : ∀ h3 x5 x6, CI (T + 1) h3 → SC f N c h3 → TL_ 50 1382 [some (.ref 300000), some (.ref 1), some (.ref 183), some (.ref 201), some (.int (nI i)), x5, x6] [] h3 Q) : TL_ 50 1304 [some (.ref 300000), some (.ref 1), some (.ref 183), some (.ref 201), some (.int (nI i)), x5, x6] [] h Q := by
  have hS := hC.1
  refine l_go (op := o_aload 1305 1) rfl (fun _ _ => rfl) ?_
  refine l_go (op := o_aload 1306 0) rfl (fun _ _ => rfl) ?_
  refine l_go (op := o_iload 1308 4) rfl (fun _ _ => rfl) ?_
  refine l_go (op := o_ci 1309 1) rfl (fun _ _ => rfl) ?_
  refine l_go (op := o_i2 1310 (fun x y => x + y)) rfl (fun _ _ => rfl) ?_
  refine l_go (op := o_sld 1311) rfl (g_sldN hsc (nIa rfl (nIl 1)) (by omega)) ?_
  refine l_go (op := o_aload 1312 0) rfl (fun _ _ => rfl) ?_
  refine l_go (op := o_iload 1314 4) rfl (fun _ _ => rfl) ?_
  refine l_go (op := o_ci 1315 2) rfl (fun _ _ => rfl) ?_
  refine l_go (op := o_i2 1316 (fun x y => x + y)) rfl (fun _ _ => rfl) ?_
  refine l_go (op := o_sld 1317) rfl (g_sldN hsc (nIa rfl (nIl 2)) (by omega)) ?_
  refine l_ite (op := o_if 1320 1324 (fun x => x = 0) (fun _ => inferInstance)) rfl g_if (fun c1 => ?_) (fun c1 => ?_)
  · refine l_go (op := o_ci 1325 0) rfl (fun _ _ => rfl) ?_
    refine l_call (op := o_callV 1328 147 3 10) rfl (g_callVs hsc (show (lay 1).1 = 10 by decide) (by decide) rfl rfl rfl (Nat.le_of_ble_eq_true rfl)) ?_
    refine M_mono ?_ (M_sc hsc (p_mark0 (d := 30) hC hT))
    rintro _ h2 ⟨⟨a9, rfl, hM9⟩, hsc2⟩
    replace hsc := hsc2
    refine l_go (op := o_aload 1329 2) rfl (fun _ _ => rfl) ?_
    refine l_go (op := o_aload 1330 0) rfl (fun _ _ => rfl) ?_
    refine l_go (op := o_iload 1332 4) rfl (fun _ _ => rfl) ?_
    refine l_go (op := o_ci 1333 1) rfl (fun _ _ => rfl) ?_
    refine l_go (op := o_i2 1334 (fun x y => x + y)) rfl (fun _ _ => rfl) ?_
    refine l_go (op := o_sld 1335) rfl (g_sldN hsc (nIa rfl (nIl 1)) (by omega)) ?_
    refine l_go (op := o_aload 1336 0) rfl (fun _ _ => rfl) ?_
    refine l_go (op := o_iload 1338 4) rfl (fun _ _ => rfl) ?_
    refine l_go (op := o_ci 1339 2) rfl (fun _ _ => rfl) ?_
    refine l_go (op := o_i2 1340 (fun x y => x + y)) rfl (fun _ _ => rfl) ?_
    refine l_go (op := o_sld 1341) rfl (g_sldN hsc (nIa rfl (nIl 2)) (by omega)) ?_
    refine l_ite (op := o_if 1344 1348 (fun x => x = 0) (fun _ => inferInstance)) rfl g_if (fun c2 => ?_) (fun c2 => ?_)
    · refine l_go (op := o_ci 1349 0) rfl (fun _ _ => rfl) ?_
      refine l_call (op := o_callV 1352 268 3 11) rfl (g_callVs hsc (show (lay 183).1 = 11 by decide) (by decide) rfl rfl rfl (Nat.le_of_ble_eq_true rfl)) ?_
      refine M_mono ?_ (M_sc hsc hM9)
      rintro _ h3 ⟨⟨rfl, hC3⟩, hsc3⟩
      refine l_ite (op := o_icmp 1355 1382 (fun x y => x = y) (fun _ _ => inferInstance)) rfl g_icmp (fun c3 => ?_) (fun c3 => ?_)
      · exact hq _ _ _ hC3 hsc3
      · exact absurd rfl c3
    · exact absurd c1 c2
  · refine l_go (op := o_ci 1321 1) rfl (fun _ _ => rfl) ?_
    refine l_go (op := o_goto 1325) rfl (fun _ _ => rfl) ?_
    refine l_call (op := o_callV 1328 147 3 10) rfl (g_callVs hsc (show (lay 1).1 = 10 by decide) (by decide) rfl rfl rfl (Nat.le_of_ble_eq_true rfl)) ?_
    refine M_mono ?_ (M_sc hsc (p_mark1 (d := 30) hC hT))
    rintro _ h2 ⟨⟨a9, rfl, hM9⟩, hsc2⟩
    replace hsc := hsc2
    refine l_go (op := o_aload 1329 2) rfl (fun _ _ => rfl) ?_
    refine l_go (op := o_aload 1330 0) rfl (fun _ _ => rfl) ?_
    refine l_go (op := o_iload 1332 4) rfl (fun _ _ => rfl) ?_
    refine l_go (op := o_ci 1333 1) rfl (fun _ _ => rfl) ?_
    refine l_go (op := o_i2 1334 (fun x y => x + y)) rfl (fun _ _ => rfl) ?_
    refine l_go (op := o_sld 1335) rfl (g_sldN hsc (nIa rfl (nIl 1)) (by omega)) ?_
    refine l_go (op := o_aload 1336 0) rfl (fun _ _ => rfl) ?_
    refine l_go (op := o_iload 1338 4) rfl (fun _ _ => rfl) ?_
    refine l_go (op := o_ci 1339 2) rfl (fun _ _ => rfl) ?_
    refine l_go (op := o_i2 1340 (fun x y => x + y)) rfl (fun _ _ => rfl) ?_
    refine l_go (op := o_sld 1341) rfl (g_sldN hsc (nIa rfl (nIl 2)) (by omega)) ?_
    refine l_ite (op := o_if 1344 1348 (fun x => x = 0) (fun _ => inferInstance)) rfl g_if (fun c4 => ?_) (fun c4 => ?_)
    · exact absurd c4 c1
    · refine l_go (op := o_ci 1345 1) rfl (fun _ _ => rfl) ?_
      refine l_go (op := o_goto 1349) rfl (fun _ _ => rfl) ?_
      refine l_call (op := o_callV 1352 268 3 11) rfl (g_callVs hsc (show (lay 183).1 = 11 by decide) (by decide) rfl rfl rfl (Nat.le_of_ble_eq_true rfl)) ?_
      refine M_mono ?_ (M_sc hsc hM9)
      rintro _ h3 ⟨⟨rfl, hC3⟩, hsc3⟩
      refine l_ite (op := o_icmp 1355 1382 (fun x y => x = y) (fun _ _ => inferInstance)) rfl g_icmp (fun c5 => ?_) (fun c5 => ?_)
      · exact hq _ _ _ hC3 hsc3
      · exact absurd rfl c5
set_option maxRecDepth 8000 in
theorem lw_c40 {T : Nat} {h : AHP} {f : Nat → Int32} {N c i : Nat} {x5 x6 : Option Value} {Q : Option Value → AHP → Prop} (hC : CI T h) (hT : T ≤ 600) (hsc : SC f N c h) (hi7 : i + 7 ≤ N) (hN : N ≤ 3584) (hq : ∀ h3 x5 x6, CI (T + 1) h3 → SC f N c h3 → TL_ 50 1382 [some (.ref 300000), some (.ref 1), some (.ref 183), some (.ref 201), some (.int (nI i)), x5, x6] [] h3 Q) : TL_ 50 1357 [some (.ref 300000), some (.ref 1), some (.ref 183), some (.ref 201), some (.int (nI i)), x5, x6] [] h Q := by
  have hS := hC.1
  refine l_go (op := o_aload 1358 1) rfl (fun _ _ => rfl) ?_
  refine l_go (op := o_aload 1359 0) rfl (fun _ _ => rfl) ?_
  refine l_go (op := o_iload 1361 4) rfl (fun _ _ => rfl) ?_
  refine l_go (op := o_ci 1362 1) rfl (fun _ _ => rfl) ?_
  refine l_go (op := o_i2 1363 (fun x y => x + y)) rfl (fun _ _ => rfl) ?_
  refine l_go (op := o_sld 1364) rfl (g_sldN hsc (nIa rfl (nIl 1)) (by omega)) ?_
  refine l_call (op := o_callV 1367 148 2 10) rfl (g_callVs hsc (show (lay 1).1 = 10 by decide) (by decide) rfl rfl rfl (Nat.le_of_ble_eq_true rfl)) ?_
  refine M_mono ?_ (M_sc hsc (p_count (d := 30) hC hT))
  rintro _ h2 ⟨⟨a9, rfl, hM9⟩, hsc2⟩
  replace hsc := hsc2
  refine l_go (op := o_aload 1368 2) rfl (fun _ _ => rfl) ?_
  refine l_go (op := o_aload 1369 0) rfl (fun _ _ => rfl) ?_
  refine l_go (op := o_iload 1371 4) rfl (fun _ _ => rfl) ?_
  refine l_go (op := o_ci 1372 1) rfl (fun _ _ => rfl) ?_
  refine l_go (op := o_i2 1373 (fun x y => x + y)) rfl (fun _ _ => rfl) ?_
  refine l_go (op := o_sld 1374) rfl (g_sldN hsc (nIa rfl (nIl 1)) (by omega)) ?_
  refine l_call (op := o_callV 1377 269 2 11) rfl (g_callVs hsc (show (lay 183).1 = 11 by decide) (by decide) rfl rfl rfl (Nat.le_of_ble_eq_true rfl)) ?_
  refine M_mono ?_ (M_sc hsc hM9)
  rintro _ h3 ⟨⟨rfl, hC3⟩, hsc3⟩
  refine l_ite (op := o_icmp 1380 1382 (fun x y => x = y) (fun _ _ => inferInstance)) rfl g_icmp (fun c1 => ?_) (fun c1 => ?_)
  · exact hq _ _ _ hC3 hsc3
  · exact absurd rfl c1
