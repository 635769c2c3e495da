/-! ===== the class: the next token, whole ===== -/
set_option maxRecDepth 8000 in
theorem c_next2 {d : Nat} {h : AHP} {ch : Nat → Nat} {len p q : Nat} (hS : Std h) (hCH : CHr (h.1 3) ch len) (hlen : len ≤ 1000) (hl : h.1 2 1 = nI len) (hb : h.1 2 7 = nI p) (hp : p ≤ len) (eq : rnE iB ch (len - p) p = q) (hq1 : q ≤ len) (h0 : q < len) (hL : ¬ iL (ch q) = true) (hD : iD (ch q) = true) {e : Nat} (ee : rnE iD ch (len - q) q = e) (h8 : e - q ≤ 4) : MM (d + 1) 97 [.ref 2] h (fun v h2 => v = none ∧ Tf h h2 ∧ TKp h2 (tokA ch len q)) := by
  refine ⟨Nat.le_of_ble_eq_true rfl, ?_⟩
  have et : tokA ch len q = (2, q, numN ch (e - q) q 0, [], e) := by
    unfold tokA
    rw [if_neg (by omega), if_neg hL, if_pos hD, ee, if_pos h8]
  have he := rnE_le (P := iD) (ch := ch) (len - q) q
  rw [ee] at he
  refine t_go (op := o_aload 1 0) (fe_X9_toNext 0) (fun _ _ => rfl) ?_
  refine t_go (op := o_getI 4 8 1) (fe_X9_toNext 1) (g_getI hS (show (lay 2).1 = 8 by decide) (by decide)) ?_
  rw [hl]
  refine t_go (op := o_ci 7 1000) (fe_X9_toNext 4) (fun _ _ => rfl) ?_
  refine t_go (op := o_min 10) (fe_X9_toNext 7) (g_min (Nat.le_of_ble_eq_true rfl)) ?_
  rw [show (if (1000 : Int32) < nI len then (1000 : Int32) else nI len) = nI len from if_neg (nI_nlt (a := 1000) (by omega) (by omega))]
  refine t_go (op := o_istore 11 1) (fe_X9_toNext 10) (fun _ _ => rfl) ?_
  refine t_go (op := o_ci 12 0) (fe_X9_toNext 11) (fun _ _ => rfl) ?_
  refine t_go (op := o_aload 13 0) (fe_X9_toNext 12) (fun _ _ => rfl) ?_
  refine t_go (op := o_getI 16 8 7) (fe_X9_toNext 13) (g_getI hS (show (lay 2).1 = 8 by decide) (by decide)) ?_
  rw [hb]
  refine t_go (op := o_max 19) (fe_X9_toNext 16) (g_max (Nat.le_of_ble_eq_true rfl)) ?_
  rw [show (if (0 : Int32) < nI p then nI p else 0) = nI p from max0 (by omega)]
  refine t_go (op := o_istore 20 2) (fe_X9_toNext 19) (fun _ _ => rfl) ?_
  refine lc_blank hS hCH hlen (len - p) p () (by omega) ?_
  rw [eq]
  refine t_go (op := o_aload 44 0) (fe_X9_toNext 43) (fun _ _ => rfl) ?_
  refine t_go (op := o_iload 45 2) (fe_X9_toNext 44) (fun _ _ => rfl) ?_
  refine t_go (op := o_putI 48 8 3) (fe_X9_toNext 45) (g_putI hS (show (lay 2).1 = 8 by decide) (by decide)) ?_
  refine t_go (op := o_aload 49 0) (fe_X9_toNext 48) (fun _ _ => rfl) ?_
  refine t_go (op := o_ci 50 0) (fe_X9_toNext 49) (fun _ _ => rfl) ?_
  refine t_go (op := o_putI 53 8 4) (fe_X9_toNext 50) (g_putI hS (show (lay 2).1 = 8 by decide) (by decide)) ?_
  refine t_go (op := o_aload 54 0) (fe_X9_toNext 53) (fun _ _ => rfl) ?_
  refine t_go (op := o_cl 55 0) (fe_X9_toNext 54) (fun _ _ => rfl) ?_
  refine t_go (op := o_putJ 58 8 5) (fe_X9_toNext 55) (g_putJ hS (show (lay 2).1 = 8 by decide) (by decide)) ?_
  refine t_go (op := o_iload 59 2) (fe_X9_toNext 58) (fun _ _ => rfl) ?_
  refine t_go (op := o_iload 60 1) (fe_X9_toNext 59) (fun _ _ => rfl) ?_
  refine t_ite (op := o_icmp 63 71 (fun x y => x < y) (fun _ _ => inferInstance)) (fe_X9_toNext 60) g_icmp (fun c1 => ?_) (fun c1 => ?_)
  · refine t_go (op := o_aload 72 0) (fe_X9_toNext 71) (fun _ _ => rfl) ?_
    refine t_go (op := o_getR 75 8 0) (fe_X9_toNext 72) (g_getR hS (show (lay 2).1 = 8 by decide) (by decide) (fr_8_0 hS) (by decide)) ?_
    refine t_go (op := o_iload 76 2) (fe_X9_toNext 75) (fun _ _ => rfl) ?_
    refine t_go (op := o_iald 77) (fe_X9_toNext 76) (g_ialdN hS (show lay 3 = (20, 1000) by decide) rfl (by omega) (by decide)) ?_
    rw [show (sJ (sI (sI h 2 3 (nI q)) 2 4 0) 2 5 0).1 3 q = nI (ch q) from (hCH q (by omega)).1]
    refine t_call (op := o_callS 80 100 1) (fe_X9_toNext 77) (g_callS rfl rfl rfl (Nat.le_of_ble_eq_true rfl)) ?_
    refine M_eq (c_isLetter (c := ch q) (by have := (hCH q (by omega)).2; omega)) ?_
    refine t_ite (op := o_if 83 146 (fun x => x = 0) (fun _ => inferInstance)) (fe_X9_toNext 80) g_if (fun c2 => ?_) (fun c2 => ?_)
    · replace c2 := b2i_z c2
      refine t_go (op := o_aload 147 0) (fe_X9_toNext 146) (fun _ _ => rfl) ?_
      refine t_go (op := o_getR 150 8 0) (fe_X9_toNext 147) (g_getR hS (show (lay 2).1 = 8 by decide) (by decide) (fr_8_0 hS) (by decide)) ?_
      refine t_go (op := o_iload 151 2) (fe_X9_toNext 150) (fun _ _ => rfl) ?_
      refine t_go (op := o_iald 152) (fe_X9_toNext 151) (g_ialdN hS (show lay 3 = (20, 1000) by decide) rfl (by omega) (by decide)) ?_
      rw [show (sJ (sI (sI h 2 3 (nI q)) 2 4 0) 2 5 0).1 3 q = nI (ch q) from (hCH q (by omega)).1]
      refine t_call (op := o_callS 155 101 1) (fe_X9_toNext 152) (g_callS rfl rfl rfl (Nat.le_of_ble_eq_true rfl)) ?_
      refine M_eq (c_isDigit (c := ch q) (by have := (hCH q (by omega)).2; omega)) ?_
      refine t_ite (op := o_if 158 224 (fun x => x = 0) (fun _ => inferInstance)) (fe_X9_toNext 155) g_if (fun c3 => ?_) (fun c3 => ?_)
      · exact absurd hD (b2i_z c3)
      · replace c3 := b2i_nn c3
        have hq2 : sI (sJ (sI (sI h 2 3 (nI q)) 2 4 0) 2 5 0) 2 4 (nI (numN ch (q - q) q 0)) = (sJ (sI (sI h 2 3 (nI q)) 2 4 0) 2 5 0) := by
          rw [Nat.sub_self]
          have := sI_id (k := (sJ (sI (sI h 2 3 (nI q)) 2 4 0) 2 5 0)) (a := 2) (i := 4)
          rw [show ((sJ (sI (sI h 2 3 (nI q)) 2 4 0) 2 5 0)).1 2 4 = nI 0 from by simp [sI, sJ, up2]; rfl] at this
          exact this
        refine T_heap hq2 ?_
        refine lc_digs (k := (sJ (sI (sI h 2 3 (nI q)) 2 4 0) 2 5 0)) hS hCH hlen (len - q) q () (by omega) (Nat.le_refl _) fun e2 he2 ee2 => ?_
        have e9 : e = e2 := (ee2.trans ee).symm
        subst e9
        refine t_go (op := o_aload 203 0) (fe_X9_toNext 202) (fun _ _ => rfl) ?_
        refine t_go (op := o_iload 204 2) (fe_X9_toNext 203) (fun _ _ => rfl) ?_
        refine t_go (op := o_aload 205 0) (fe_X9_toNext 204) (fun _ _ => rfl) ?_
        refine t_go (op := o_getI 208 8 3) (fe_X9_toNext 205) (g_getI hS (show (lay 2).1 = 8 by decide) (by decide)) ?_
        rw [show (sI (sJ (sI (sI h 2 3 (nI q)) 2 4 0) 2 5 0) 2 4 (nI (numN ch (e - q) q 0))).1 2 3 = nI q from by simp [sI, sJ, up2]]
        refine t_go (op := o_i2 209 (fun x y => x - y)) (fe_X9_toNext 208) (fun _ _ => rfl) ?_
        refine t_go (op := o_ci 210 4) (fe_X9_toNext 209) (fun _ _ => rfl) ?_
        refine t_ite (op := o_icmp 213 217 (fun x y => x ≤ y) (fun _ _ => inferInstance)) (fe_X9_toNext 210) g_icmp (fun c4 => ?_) (fun c4 => ?_)
        · refine t_go (op := o_ci 218 3) (fe_X9_toNext 217) (fun _ _ => rfl) ?_
          refine t_go (op := o_putI 221 8 2) (fe_X9_toNext 218) (g_putI hS (show (lay 2).1 = 8 by decide) (by decide)) ?_
          refine t_go (op := o_goto 256) (fe_X9_toNext 221) (fun _ _ => rfl) ?_
          refine t_go (op := o_aload 257 0) (fe_X9_toNext 256) (fun _ _ => rfl) ?_
          refine t_go (op := o_iload 258 2) (fe_X9_toNext 257) (fun _ _ => rfl) ?_
          refine t_go (op := o_putI 261 8 7) (fe_X9_toNext 258) (g_putI hS (show (lay 2).1 = 8 by decide) (by decide)) ?_
          refine t_go (op := o_aload 262 0) (fe_X9_toNext 261) (fun _ _ => rfl) ?_
          refine t_go (op := o_aload 263 0) (fe_X9_toNext 262) (fun _ _ => rfl) ?_
          refine t_go (op := o_getI 266 8 2) (fe_X9_toNext 263) (g_getI hS (show (lay 2).1 = 8 by decide) (by decide)) ?_
          rw [show (sI (sI (sI (sJ (sI (sI h 2 3 (nI q)) 2 4 0) 2 5 0) 2 4 (nI (numN ch (e - q) q 0))) 2 2 3) 2 7 (nI e)).1 2 2 = 3 from by simp [sI, sJ, up2]]
          refine t_go (op := o_ci 267 2) (fe_X9_toNext 266) (fun _ _ => rfl) ?_
          refine t_ite (op := o_icmp 280 270 (fun x y => x = y) (fun _ _ => inferInstance)) (fe_X9_toNext 267) g_icmp (fun c5 => ?_) (fun c5 => ?_)
          · exact absurd c5 (by decide)
          · clear c5
            refine t_go (op := o_gets 283 200024) (fe_X9_toNext 280) (fun _ _ => rfl) ?_
            refine t_go (op := o_putR 286 8 6) (fe_X9_toNext 283) (g_putR hS (show (lay 2).1 = 8 by decide) (by decide) (by decide)) ?_
            skip
            refine t_ret (op := o_vret) (fe_X9_toNext 286) (fun _ _ => rfl) ?_
            rw [show tokA ch len q = _ from et]
            refine ⟨rfl, ⟨rfl, fun a i hai => ?_, fun a ha => ?_, fun a ha => ?_, ?_⟩, ?_, ?_, fun hq => ?_, fun hq => ?_, ?_, ?_⟩
            · simp only [sI, sJ, sR, up2]
              by_cases h1 : a = 2
              · subst h1
                have h2 : ¬ i = 6 := fun e => hai ⟨rfl, e⟩
                simp [h2]
              · simp [h1]
            · funext i; simp [sI, sJ, sR, up2, ha]
            · funext i; simp [sI, sJ, sR, up2, ha]
            · simp [sI, sJ, sR, up2]
            · simp [sI, sJ, sR, up2]; try rfl
            · simp [sI, sJ, sR, up2]
            · first | (rcases hq with hq | hq <;> cases hq; done) | simp [sI, sJ, sR, up2]
            · first | (cases hq; done) | simp [sI, sJ, sR, up2]
            · simp [sI, sJ, sR, up2]
            · simp [sI, sJ, sR, up2]
        · exact absurd (by show nI e - nI q ≤ 4; rw [nIs (a := e) (b := q) rfl rfl (by omega)]; exact nI_le (b := 4) h8 (by omega)) c4
    · exact absurd (b2i_nn c2) hL
  · exact absurd (nI_lt (show q < len by omega) (by omega)) c1
set_option maxRecDepth 8000 in
theorem c_next2b {d : Nat} {h : AHP} {ch : Nat → Nat} {len p q : Nat} (hS : Std h) (hCH : CHr (h.1 3) ch len) (hlen : len ≤ 1000) (hl : h.1 2 1 = nI len) (hb : h.1 2 7 = nI p) (hp : p ≤ len) (eq : rnE iB ch (len - p) p = q) (hq1 : q ≤ len) (h0 : q < len) (hL : ¬ iL (ch q) = true) (hD : iD (ch q) = true) {e : Nat} (ee : rnE iD ch (len - q) q = e) (h8 : ¬ e - q ≤ 4) : MM (d + 1) 97 [.ref 2] h (fun v h2 => v = none ∧ Tf h h2 ∧ TKp h2 (tokA ch len q)) := by
  refine ⟨Nat.le_of_ble_eq_true rfl, ?_⟩
  have et : tokA ch len q = (4, q, 0, [], e) := by
    unfold tokA
    rw [if_neg (by omega), if_neg hL, if_pos hD, ee, if_neg h8]
  have he := rnE_le (P := iD) (ch := ch) (len - q) q
  rw [ee] at he
  refine t_go (op := o_aload 1 0) (fe_X9_toNext 0) (fun _ _ => rfl) ?_
  refine t_go (op := o_getI 4 8 1) (fe_X9_toNext 1) (g_getI hS (show (lay 2).1 = 8 by decide) (by decide)) ?_
  rw [hl]
  refine t_go (op := o_ci 7 1000) (fe_X9_toNext 4) (fun _ _ => rfl) ?_
  refine t_go (op := o_min 10) (fe_X9_toNext 7) (g_min (Nat.le_of_ble_eq_true rfl)) ?_
  rw [show (if (1000 : Int32) < nI len then (1000 : Int32) else nI len) = nI len from if_neg (nI_nlt (a := 1000) (by omega) (by omega))]
  refine t_go (op := o_istore 11 1) (fe_X9_toNext 10) (fun _ _ => rfl) ?_
  refine t_go (op := o_ci 12 0) (fe_X9_toNext 11) (fun _ _ => rfl) ?_
  refine t_go (op := o_aload 13 0) (fe_X9_toNext 12) (fun _ _ => rfl) ?_
  refine t_go (op := o_getI 16 8 7) (fe_X9_toNext 13) (g_getI hS (show (lay 2).1 = 8 by decide) (by decide)) ?_
  rw [hb]
  refine t_go (op := o_max 19) (fe_X9_toNext 16) (g_max (Nat.le_of_ble_eq_true rfl)) ?_
  rw [show (if (0 : Int32) < nI p then nI p else 0) = nI p from max0 (by omega)]
  refine t_go (op := o_istore 20 2) (fe_X9_toNext 19) (fun _ _ => rfl) ?_
  refine lc_blank hS hCH hlen (len - p) p () (by omega) ?_
  rw [eq]
  refine t_go (op := o_aload 44 0) (fe_X9_toNext 43) (fun _ _ => rfl) ?_
  refine t_go (op := o_iload 45 2) (fe_X9_toNext 44) (fun _ _ => rfl) ?_
  refine t_go (op := o_putI 48 8 3) (fe_X9_toNext 45) (g_putI hS (show (lay 2).1 = 8 by decide) (by decide)) ?_
  refine t_go (op := o_aload 49 0) (fe_X9_toNext 48) (fun _ _ => rfl) ?_
  refine t_go (op := o_ci 50 0) (fe_X9_toNext 49) (fun _ _ => rfl) ?_
  refine t_go (op := o_putI 53 8 4) (fe_X9_toNext 50) (g_putI hS (show (lay 2).1 = 8 by decide) (by decide)) ?_
  refine t_go (op := o_aload 54 0) (fe_X9_toNext 53) (fun _ _ => rfl) ?_
  refine t_go (op := o_cl 55 0) (fe_X9_toNext 54) (fun _ _ => rfl) ?_
  refine t_go (op := o_putJ 58 8 5) (fe_X9_toNext 55) (g_putJ hS (show (lay 2).1 = 8 by decide) (by decide)) ?_
  refine t_go (op := o_iload 59 2) (fe_X9_toNext 58) (fun _ _ => rfl) ?_
  refine t_go (op := o_iload 60 1) (fe_X9_toNext 59) (fun _ _ => rfl) ?_
  refine t_ite (op := o_icmp 63 71 (fun x y => x < y) (fun _ _ => inferInstance)) (fe_X9_toNext 60) g_icmp (fun c1 => ?_) (fun c1 => ?_)
  · refine t_go (op := o_aload 72 0) (fe_X9_toNext 71) (fun _ _ => rfl) ?_
    refine t_go (op := o_getR 75 8 0) (fe_X9_toNext 72) (g_getR hS (show (lay 2).1 = 8 by decide) (by decide) (fr_8_0 hS) (by decide)) ?_
    refine t_go (op := o_iload 76 2) (fe_X9_toNext 75) (fun _ _ => rfl) ?_
    refine t_go (op := o_iald 77) (fe_X9_toNext 76) (g_ialdN hS (show lay 3 = (20, 1000) by decide) rfl (by omega) (by decide)) ?_
    rw [show (sJ (sI (sI h 2 3 (nI q)) 2 4 0) 2 5 0).1 3 q = nI (ch q) from (hCH q (by omega)).1]
    refine t_call (op := o_callS 80 100 1) (fe_X9_toNext 77) (g_callS rfl rfl rfl (Nat.le_of_ble_eq_true rfl)) ?_
    refine M_eq (c_isLetter (c := ch q) (by have := (hCH q (by omega)).2; omega)) ?_
    refine t_ite (op := o_if 83 146 (fun x => x = 0) (fun _ => inferInstance)) (fe_X9_toNext 80) g_if (fun c2 => ?_) (fun c2 => ?_)
    · replace c2 := b2i_z c2
      refine t_go (op := o_aload 147 0) (fe_X9_toNext 146) (fun _ _ => rfl) ?_
      refine t_go (op := o_getR 150 8 0) (fe_X9_toNext 147) (g_getR hS (show (lay 2).1 = 8 by decide) (by decide) (fr_8_0 hS) (by decide)) ?_
      refine t_go (op := o_iload 151 2) (fe_X9_toNext 150) (fun _ _ => rfl) ?_
      refine t_go (op := o_iald 152) (fe_X9_toNext 151) (g_ialdN hS (show lay 3 = (20, 1000) by decide) rfl (by omega) (by decide)) ?_
      rw [show (sJ (sI (sI h 2 3 (nI q)) 2 4 0) 2 5 0).1 3 q = nI (ch q) from (hCH q (by omega)).1]
      refine t_call (op := o_callS 155 101 1) (fe_X9_toNext 152) (g_callS rfl rfl rfl (Nat.le_of_ble_eq_true rfl)) ?_
      refine M_eq (c_isDigit (c := ch q) (by have := (hCH q (by omega)).2; omega)) ?_
      refine t_ite (op := o_if 158 224 (fun x => x = 0) (fun _ => inferInstance)) (fe_X9_toNext 155) g_if (fun c3 => ?_) (fun c3 => ?_)
      · exact absurd hD (b2i_z c3)
      · replace c3 := b2i_nn c3
        have hq2 : sI (sJ (sI (sI h 2 3 (nI q)) 2 4 0) 2 5 0) 2 4 (nI (numN ch (q - q) q 0)) = (sJ (sI (sI h 2 3 (nI q)) 2 4 0) 2 5 0) := by
          rw [Nat.sub_self]
          have := sI_id (k := (sJ (sI (sI h 2 3 (nI q)) 2 4 0) 2 5 0)) (a := 2) (i := 4)
          rw [show ((sJ (sI (sI h 2 3 (nI q)) 2 4 0) 2 5 0)).1 2 4 = nI 0 from by simp [sI, sJ, up2]; rfl] at this
          exact this
        refine T_heap hq2 ?_
        refine lc_digs (k := (sJ (sI (sI h 2 3 (nI q)) 2 4 0) 2 5 0)) hS hCH hlen (len - q) q () (by omega) (Nat.le_refl _) fun e2 he2 ee2 => ?_
        have e9 : e = e2 := (ee2.trans ee).symm
        subst e9
        refine t_go (op := o_aload 203 0) (fe_X9_toNext 202) (fun _ _ => rfl) ?_
        refine t_go (op := o_iload 204 2) (fe_X9_toNext 203) (fun _ _ => rfl) ?_
        refine t_go (op := o_aload 205 0) (fe_X9_toNext 204) (fun _ _ => rfl) ?_
        refine t_go (op := o_getI 208 8 3) (fe_X9_toNext 205) (g_getI hS (show (lay 2).1 = 8 by decide) (by decide)) ?_
        rw [show (sI (sJ (sI (sI h 2 3 (nI q)) 2 4 0) 2 5 0) 2 4 (nI (numN ch (e - q) q 0))).1 2 3 = nI q from by simp [sI, sJ, up2]]
        refine t_go (op := o_i2 209 (fun x y => x - y)) (fe_X9_toNext 208) (fun _ _ => rfl) ?_
        refine t_go (op := o_ci 210 4) (fe_X9_toNext 209) (fun _ _ => rfl) ?_
        refine t_ite (op := o_icmp 213 217 (fun x y => x ≤ y) (fun _ _ => inferInstance)) (fe_X9_toNext 210) g_icmp (fun c4 => ?_) (fun c4 => ?_)
        · exact absurd (le_nI (a := e - q) (b := 4) (by omega) (by decide) (by rw [← nIs (a := e) (b := q) rfl rfl (by omega)]; exact c4)) h8
        · refine t_go (op := o_ci 214 1) (fe_X9_toNext 213) (fun _ _ => rfl) ?_
          refine t_go (op := o_goto 218) (fe_X9_toNext 214) (fun _ _ => rfl) ?_
          refine t_go (op := o_putI 221 8 2) (fe_X9_toNext 218) (g_putI hS (show (lay 2).1 = 8 by decide) (by decide)) ?_
          refine t_go (op := o_goto 256) (fe_X9_toNext 221) (fun _ _ => rfl) ?_
          refine t_go (op := o_aload 257 0) (fe_X9_toNext 256) (fun _ _ => rfl) ?_
          refine t_go (op := o_iload 258 2) (fe_X9_toNext 257) (fun _ _ => rfl) ?_
          refine t_go (op := o_putI 261 8 7) (fe_X9_toNext 258) (g_putI hS (show (lay 2).1 = 8 by decide) (by decide)) ?_
          refine t_go (op := o_aload 262 0) (fe_X9_toNext 261) (fun _ _ => rfl) ?_
          refine t_go (op := o_aload 263 0) (fe_X9_toNext 262) (fun _ _ => rfl) ?_
          refine t_go (op := o_getI 266 8 2) (fe_X9_toNext 263) (g_getI hS (show (lay 2).1 = 8 by decide) (by decide)) ?_
          rw [show (sI (sI (sI (sJ (sI (sI h 2 3 (nI q)) 2 4 0) 2 5 0) 2 4 (nI (numN ch (e - q) q 0))) 2 2 1) 2 7 (nI e)).1 2 2 = 1 from by simp [sI, sJ, up2]]
          refine t_go (op := o_ci 267 2) (fe_X9_toNext 266) (fun _ _ => rfl) ?_
          refine t_ite (op := o_icmp 280 270 (fun x y => x = y) (fun _ _ => inferInstance)) (fe_X9_toNext 267) g_icmp (fun c5 => ?_) (fun c5 => ?_)
          · exact absurd c5 (by decide)
          · clear c5
            refine t_go (op := o_gets 283 200024) (fe_X9_toNext 280) (fun _ _ => rfl) ?_
            refine t_go (op := o_putR 286 8 6) (fe_X9_toNext 283) (g_putR hS (show (lay 2).1 = 8 by decide) (by decide) (by decide)) ?_
            skip
            refine t_ret (op := o_vret) (fe_X9_toNext 286) (fun _ _ => rfl) ?_
            rw [show tokA ch len q = _ from et]
            refine ⟨rfl, ⟨rfl, fun a i hai => ?_, fun a ha => ?_, fun a ha => ?_, ?_⟩, ?_, ?_, fun hq => ?_, fun hq => ?_, ?_, ?_⟩
            · simp only [sI, sJ, sR, up2]
              by_cases h1 : a = 2
              · subst h1
                have h2 : ¬ i = 6 := fun e => hai ⟨rfl, e⟩
                simp [h2]
              · simp [h1]
            · funext i; simp [sI, sJ, sR, up2, ha]
            · funext i; simp [sI, sJ, sR, up2, ha]
            · simp [sI, sJ, sR, up2]
            · simp [sI, sJ, sR, up2]; try rfl
            · simp [sI, sJ, sR, up2]
            · first | (rcases hq with hq | hq <;> cases hq; done) | simp [sI, sJ, sR, up2]
            · first | (cases hq; done) | simp [sI, sJ, sR, up2]
            · simp [sI, sJ, sR, up2]
            · simp [sI, sJ, sR, up2]
    · exact absurd (b2i_nn c2) hL
  · exact absurd (nI_lt (show q < len by omega) (by omega)) c1
set_option maxRecDepth 8000 in
theorem c_next3 {d : Nat} {h : AHP} {ch : Nat → Nat} {len p q : Nat} (hS : Std h) (hCH : CHr (h.1 3) ch len) (hlen : len ≤ 1000) (hl : h.1 2 1 = nI len) (hb : h.1 2 7 = nI p) (hp : p ≤ len) (eq : rnE iB ch (len - p) p = q) (hq1 : q ≤ len) (h0 : q < len) (hL : ¬ iL (ch q) = true) (hD : ¬ iD (ch q) = true) (hG : iG (ch q) = true) : MM (d + 1) 97 [.ref 2] h (fun v h2 => v = none ∧ Tf h h2 ∧ TKp h2 (tokA ch len q)) := by
  refine ⟨Nat.le_of_ble_eq_true rfl, ?_⟩
  have et : tokA ch len q = (3, q, ch q, [], q + 1) := by
    unfold tokA
    rw [if_neg (by omega), if_neg hL, if_neg hD, if_pos hG]
  refine t_go (op := o_aload 1 0) (fe_X9_toNext 0) (fun _ _ => rfl) ?_
  refine t_go (op := o_getI 4 8 1) (fe_X9_toNext 1) (g_getI hS (show (lay 2).1 = 8 by decide) (by decide)) ?_
  rw [hl]
  refine t_go (op := o_ci 7 1000) (fe_X9_toNext 4) (fun _ _ => rfl) ?_
  refine t_go (op := o_min 10) (fe_X9_toNext 7) (g_min (Nat.le_of_ble_eq_true rfl)) ?_
  rw [show (if (1000 : Int32) < nI len then (1000 : Int32) else nI len) = nI len from if_neg (nI_nlt (a := 1000) (by omega) (by omega))]
  refine t_go (op := o_istore 11 1) (fe_X9_toNext 10) (fun _ _ => rfl) ?_
  refine t_go (op := o_ci 12 0) (fe_X9_toNext 11) (fun _ _ => rfl) ?_
  refine t_go (op := o_aload 13 0) (fe_X9_toNext 12) (fun _ _ => rfl) ?_
  refine t_go (op := o_getI 16 8 7) (fe_X9_toNext 13) (g_getI hS (show (lay 2).1 = 8 by decide) (by decide)) ?_
  rw [hb]
  refine t_go (op := o_max 19) (fe_X9_toNext 16) (g_max (Nat.le_of_ble_eq_true rfl)) ?_
  rw [show (if (0 : Int32) < nI p then nI p else 0) = nI p from max0 (by omega)]
  refine t_go (op := o_istore 20 2) (fe_X9_toNext 19) (fun _ _ => rfl) ?_
  refine lc_blank hS hCH hlen (len - p) p () (by omega) ?_
  rw [eq]
  refine t_go (op := o_aload 44 0) (fe_X9_toNext 43) (fun _ _ => rfl) ?_
  refine t_go (op := o_iload 45 2) (fe_X9_toNext 44) (fun _ _ => rfl) ?_
  refine t_go (op := o_putI 48 8 3) (fe_X9_toNext 45) (g_putI hS (show (lay 2).1 = 8 by decide) (by decide)) ?_
  refine t_go (op := o_aload 49 0) (fe_X9_toNext 48) (fun _ _ => rfl) ?_
  refine t_go (op := o_ci 50 0) (fe_X9_toNext 49) (fun _ _ => rfl) ?_
  refine t_go (op := o_putI 53 8 4) (fe_X9_toNext 50) (g_putI hS (show (lay 2).1 = 8 by decide) (by decide)) ?_
  refine t_go (op := o_aload 54 0) (fe_X9_toNext 53) (fun _ _ => rfl) ?_
  refine t_go (op := o_cl 55 0) (fe_X9_toNext 54) (fun _ _ => rfl) ?_
  refine t_go (op := o_putJ 58 8 5) (fe_X9_toNext 55) (g_putJ hS (show (lay 2).1 = 8 by decide) (by decide)) ?_
  refine t_go (op := o_iload 59 2) (fe_X9_toNext 58) (fun _ _ => rfl) ?_
  refine t_go (op := o_iload 60 1) (fe_X9_toNext 59) (fun _ _ => rfl) ?_
  refine t_ite (op := o_icmp 63 71 (fun x y => x < y) (fun _ _ => inferInstance)) (fe_X9_toNext 60) g_icmp (fun c1 => ?_) (fun c1 => ?_)
  · refine t_go (op := o_aload 72 0) (fe_X9_toNext 71) (fun _ _ => rfl) ?_
    refine t_go (op := o_getR 75 8 0) (fe_X9_toNext 72) (g_getR hS (show (lay 2).1 = 8 by decide) (by decide) (fr_8_0 hS) (by decide)) ?_
    refine t_go (op := o_iload 76 2) (fe_X9_toNext 75) (fun _ _ => rfl) ?_
    refine t_go (op := o_iald 77) (fe_X9_toNext 76) (g_ialdN hS (show lay 3 = (20, 1000) by decide) rfl (by omega) (by decide)) ?_
    rw [show (sJ (sI (sI h 2 3 (nI q)) 2 4 0) 2 5 0).1 3 q = nI (ch q) from (hCH q (by omega)).1]
    refine t_call (op := o_callS 80 100 1) (fe_X9_toNext 77) (g_callS rfl rfl rfl (Nat.le_of_ble_eq_true rfl)) ?_
    refine M_eq (c_isLetter (c := ch q) (by have := (hCH q (by omega)).2; omega)) ?_
    refine t_ite (op := o_if 83 146 (fun x => x = 0) (fun _ => inferInstance)) (fe_X9_toNext 80) g_if (fun c2 => ?_) (fun c2 => ?_)
    · replace c2 := b2i_z c2
      refine t_go (op := o_aload 147 0) (fe_X9_toNext 146) (fun _ _ => rfl) ?_
      refine t_go (op := o_getR 150 8 0) (fe_X9_toNext 147) (g_getR hS (show (lay 2).1 = 8 by decide) (by decide) (fr_8_0 hS) (by decide)) ?_
      refine t_go (op := o_iload 151 2) (fe_X9_toNext 150) (fun _ _ => rfl) ?_
      refine t_go (op := o_iald 152) (fe_X9_toNext 151) (g_ialdN hS (show lay 3 = (20, 1000) by decide) rfl (by omega) (by decide)) ?_
      rw [show (sJ (sI (sI h 2 3 (nI q)) 2 4 0) 2 5 0).1 3 q = nI (ch q) from (hCH q (by omega)).1]
      refine t_call (op := o_callS 155 101 1) (fe_X9_toNext 152) (g_callS rfl rfl rfl (Nat.le_of_ble_eq_true rfl)) ?_
      refine M_eq (c_isDigit (c := ch q) (by have := (hCH q (by omega)).2; omega)) ?_
      refine t_ite (op := o_if 158 224 (fun x => x = 0) (fun _ => inferInstance)) (fe_X9_toNext 155) g_if (fun c3 => ?_) (fun c3 => ?_)
      · replace c3 := b2i_z c3
        refine t_go (op := o_aload 225 0) (fe_X9_toNext 224) (fun _ _ => rfl) ?_
        refine t_go (op := o_aload 226 0) (fe_X9_toNext 225) (fun _ _ => rfl) ?_
        refine t_go (op := o_getR 229 8 0) (fe_X9_toNext 226) (g_getR hS (show (lay 2).1 = 8 by decide) (by decide) (fr_8_0 hS) (by decide)) ?_
        refine t_go (op := o_iload 230 2) (fe_X9_toNext 229) (fun _ _ => rfl) ?_
        refine t_go (op := o_iald 231) (fe_X9_toNext 230) (g_ialdN hS (show lay 3 = (20, 1000) by decide) rfl (by omega) (by decide)) ?_
        rw [show (sJ (sI (sI h 2 3 (nI q)) 2 4 0) 2 5 0).1 3 q = nI (ch q) from (hCH q (by omega)).1]
        refine t_go (op := o_putI 234 8 4) (fe_X9_toNext 231) (g_putI hS (show (lay 2).1 = 8 by decide) (by decide)) ?_
        refine t_go (op := o_aload 235 0) (fe_X9_toNext 234) (fun _ _ => rfl) ?_
        refine t_go (op := o_aload 236 0) (fe_X9_toNext 235) (fun _ _ => rfl) ?_
        refine t_go (op := o_getI 239 8 4) (fe_X9_toNext 236) (g_getI hS (show (lay 2).1 = 8 by decide) (by decide)) ?_
        rw [show (sI (sJ (sI (sI h 2 3 (nI q)) 2 4 0) 2 5 0) 2 4 (nI (ch q))).1 2 4 = nI (ch q) from sI_eq]
        refine t_call (op := o_callS 242 102 1) (fe_X9_toNext 239) (g_callS rfl rfl rfl (Nat.le_of_ble_eq_true rfl)) ?_
        refine M_eq (c_isOwnSign (c := ch q) (by have := (hCH q (by omega)).2; omega)) ?_
        refine t_ite (op := o_if 245 249 (fun x => x = 0) (fun _ => inferInstance)) (fe_X9_toNext 242) g_if (fun c4 => ?_) (fun c4 => ?_)
        · exact absurd hG (b2i_z c4)
        · replace c4 := b2i_nn c4
          refine t_go (op := o_ci 246 4) (fe_X9_toNext 245) (fun _ _ => rfl) ?_
          refine t_go (op := o_goto 250) (fe_X9_toNext 246) (fun _ _ => rfl) ?_
          refine t_go (op := o_putI 253 8 2) (fe_X9_toNext 250) (g_putI hS (show (lay 2).1 = 8 by decide) (by decide)) ?_
          refine t_go (op := o_iinc 256 2 1) (fe_X9_toNext 253) (fun _ _ => rfl) ?_
          rw [nI_1]
          refine t_go (op := o_aload 257 0) (fe_X9_toNext 256) (fun _ _ => rfl) ?_
          refine t_go (op := o_iload 258 2) (fe_X9_toNext 257) (fun _ _ => rfl) ?_
          refine t_go (op := o_putI 261 8 7) (fe_X9_toNext 258) (g_putI hS (show (lay 2).1 = 8 by decide) (by decide)) ?_
          refine t_go (op := o_aload 262 0) (fe_X9_toNext 261) (fun _ _ => rfl) ?_
          refine t_go (op := o_aload 263 0) (fe_X9_toNext 262) (fun _ _ => rfl) ?_
          refine t_go (op := o_getI 266 8 2) (fe_X9_toNext 263) (g_getI hS (show (lay 2).1 = 8 by decide) (by decide)) ?_
          rw [show (sI (sI (sI (sJ (sI (sI h 2 3 (nI q)) 2 4 0) 2 5 0) 2 4 (nI (ch q))) 2 2 4) 2 7 (nI (q + 1))).1 2 2 = 4 from by simp [sI, sJ, up2]]
          refine t_go (op := o_ci 267 2) (fe_X9_toNext 266) (fun _ _ => rfl) ?_
          refine t_ite (op := o_icmp 280 270 (fun x y => x = y) (fun _ _ => inferInstance)) (fe_X9_toNext 267) g_icmp (fun c5 => ?_) (fun c5 => ?_)
          · exact absurd c5 (by decide)
          · clear c5
            refine t_go (op := o_gets 283 200024) (fe_X9_toNext 280) (fun _ _ => rfl) ?_
            refine t_go (op := o_putR 286 8 6) (fe_X9_toNext 283) (g_putR hS (show (lay 2).1 = 8 by decide) (by decide) (by decide)) ?_
            skip
            refine t_ret (op := o_vret) (fe_X9_toNext 286) (fun _ _ => rfl) ?_
            rw [show tokA ch len q = _ from et]
            refine ⟨rfl, ⟨rfl, fun a i hai => ?_, fun a ha => ?_, fun a ha => ?_, ?_⟩, ?_, ?_, fun hq => ?_, fun hq => ?_, ?_, ?_⟩
            · simp only [sI, sJ, sR, up2]
              by_cases h1 : a = 2
              · subst h1
                have h2 : ¬ i = 6 := fun e => hai ⟨rfl, e⟩
                simp [h2]
              · simp [h1]
            · funext i; simp [sI, sJ, sR, up2, ha]
            · funext i; simp [sI, sJ, sR, up2, ha]
            · simp [sI, sJ, sR, up2]
            · simp [sI, sJ, sR, up2]; try rfl
            · simp [sI, sJ, sR, up2]
            · first | (rcases hq with hq | hq <;> cases hq; done) | simp [sI, sJ, sR, up2]
            · first | (cases hq; done) | simp [sI, sJ, sR, up2]
            · simp [sI, sJ, sR, up2]
            · simp [sI, sJ, sR, up2]
      · exact absurd (b2i_nn c3) hD
    · exact absurd (b2i_nn c2) hL
  · exact absurd (nI_lt (show q < len by omega) (by omega)) c1
set_option maxRecDepth 8000 in
theorem c_next4 {d : Nat} {h : AHP} {ch : Nat → Nat} {len p q : Nat} (hS : Std h) (hCH : CHr (h.1 3) ch len) (hlen : len ≤ 1000) (hl : h.1 2 1 = nI len) (hb : h.1 2 7 = nI p) (hp : p ≤ len) (eq : rnE iB ch (len - p) p = q) (hq1 : q ≤ len) (h0 : q < len) (hL : ¬ iL (ch q) = true) (hD : ¬ iD (ch q) = true) (hG : ¬ iG (ch q) = true) : MM (d + 1) 97 [.ref 2] h (fun v h2 => v = none ∧ Tf h h2 ∧ TKp h2 (tokA ch len q)) := by
  refine ⟨Nat.le_of_ble_eq_true rfl, ?_⟩
  have et : tokA ch len q = (4, q, 0, [], q + 1) := by
    unfold tokA
    rw [if_neg (by omega), if_neg hL, if_neg hD, if_neg hG]
  refine t_go (op := o_aload 1 0) (fe_X9_toNext 0) (fun _ _ => rfl) ?_
  refine t_go (op := o_getI 4 8 1) (fe_X9_toNext 1) (g_getI hS (show (lay 2).1 = 8 by decide) (by decide)) ?_
  rw [hl]
  refine t_go (op := o_ci 7 1000) (fe_X9_toNext 4) (fun _ _ => rfl) ?_
  refine t_go (op := o_min 10) (fe_X9_toNext 7) (g_min (Nat.le_of_ble_eq_true rfl)) ?_
  rw [show (if (1000 : Int32) < nI len then (1000 : Int32) else nI len) = nI len from if_neg (nI_nlt (a := 1000) (by omega) (by omega))]
  refine t_go (op := o_istore 11 1) (fe_X9_toNext 10) (fun _ _ => rfl) ?_
  refine t_go (op := o_ci 12 0) (fe_X9_toNext 11) (fun _ _ => rfl) ?_
  refine t_go (op := o_aload 13 0) (fe_X9_toNext 12) (fun _ _ => rfl) ?_
  refine t_go (op := o_getI 16 8 7) (fe_X9_toNext 13) (g_getI hS (show (lay 2).1 = 8 by decide) (by decide)) ?_
  rw [hb]
  refine t_go (op := o_max 19) (fe_X9_toNext 16) (g_max (Nat.le_of_ble_eq_true rfl)) ?_
  rw [show (if (0 : Int32) < nI p then nI p else 0) = nI p from max0 (by omega)]
  refine t_go (op := o_istore 20 2) (fe_X9_toNext 19) (fun _ _ => rfl) ?_
  refine lc_blank hS hCH hlen (len - p) p () (by omega) ?_
  rw [eq]
  refine t_go (op := o_aload 44 0) (fe_X9_toNext 43) (fun _ _ => rfl) ?_
  refine t_go (op := o_iload 45 2) (fe_X9_toNext 44) (fun _ _ => rfl) ?_
  refine t_go (op := o_putI 48 8 3) (fe_X9_toNext 45) (g_putI hS (show (lay 2).1 = 8 by decide) (by decide)) ?_
  refine t_go (op := o_aload 49 0) (fe_X9_toNext 48) (fun _ _ => rfl) ?_
  refine t_go (op := o_ci 50 0) (fe_X9_toNext 49) (fun _ _ => rfl) ?_
  refine t_go (op := o_putI 53 8 4) (fe_X9_toNext 50) (g_putI hS (show (lay 2).1 = 8 by decide) (by decide)) ?_
  refine t_go (op := o_aload 54 0) (fe_X9_toNext 53) (fun _ _ => rfl) ?_
  refine t_go (op := o_cl 55 0) (fe_X9_toNext 54) (fun _ _ => rfl) ?_
  refine t_go (op := o_putJ 58 8 5) (fe_X9_toNext 55) (g_putJ hS (show (lay 2).1 = 8 by decide) (by decide)) ?_
  refine t_go (op := o_iload 59 2) (fe_X9_toNext 58) (fun _ _ => rfl) ?_
  refine t_go (op := o_iload 60 1) (fe_X9_toNext 59) (fun _ _ => rfl) ?_
  refine t_ite (op := o_icmp 63 71 (fun x y => x < y) (fun _ _ => inferInstance)) (fe_X9_toNext 60) g_icmp (fun c1 => ?_) (fun c1 => ?_)
  · refine t_go (op := o_aload 72 0) (fe_X9_toNext 71) (fun _ _ => rfl) ?_
    refine t_go (op := o_getR 75 8 0) (fe_X9_toNext 72) (g_getR hS (show (lay 2).1 = 8 by decide) (by decide) (fr_8_0 hS) (by decide)) ?_
    refine t_go (op := o_iload 76 2) (fe_X9_toNext 75) (fun _ _ => rfl) ?_
    refine t_go (op := o_iald 77) (fe_X9_toNext 76) (g_ialdN hS (show lay 3 = (20, 1000) by decide) rfl (by omega) (by decide)) ?_
    rw [show (sJ (sI (sI h 2 3 (nI q)) 2 4 0) 2 5 0).1 3 q = nI (ch q) from (hCH q (by omega)).1]
    refine t_call (op := o_callS 80 100 1) (fe_X9_toNext 77) (g_callS rfl rfl rfl (Nat.le_of_ble_eq_true rfl)) ?_
    refine M_eq (c_isLetter (c := ch q) (by have := (hCH q (by omega)).2; omega)) ?_
    refine t_ite (op := o_if 83 146 (fun x => x = 0) (fun _ => inferInstance)) (fe_X9_toNext 80) g_if (fun c2 => ?_) (fun c2 => ?_)
    · replace c2 := b2i_z c2
      refine t_go (op := o_aload 147 0) (fe_X9_toNext 146) (fun _ _ => rfl) ?_
      refine t_go (op := o_getR 150 8 0) (fe_X9_toNext 147) (g_getR hS (show (lay 2).1 = 8 by decide) (by decide) (fr_8_0 hS) (by decide)) ?_
      refine t_go (op := o_iload 151 2) (fe_X9_toNext 150) (fun _ _ => rfl) ?_
      refine t_go (op := o_iald 152) (fe_X9_toNext 151) (g_ialdN hS (show lay 3 = (20, 1000) by decide) rfl (by omega) (by decide)) ?_
      rw [show (sJ (sI (sI h 2 3 (nI q)) 2 4 0) 2 5 0).1 3 q = nI (ch q) from (hCH q (by omega)).1]
      refine t_call (op := o_callS 155 101 1) (fe_X9_toNext 152) (g_callS rfl rfl rfl (Nat.le_of_ble_eq_true rfl)) ?_
      refine M_eq (c_isDigit (c := ch q) (by have := (hCH q (by omega)).2; omega)) ?_
      refine t_ite (op := o_if 158 224 (fun x => x = 0) (fun _ => inferInstance)) (fe_X9_toNext 155) g_if (fun c3 => ?_) (fun c3 => ?_)
      · replace c3 := b2i_z c3
        refine t_go (op := o_aload 225 0) (fe_X9_toNext 224) (fun _ _ => rfl) ?_
        refine t_go (op := o_aload 226 0) (fe_X9_toNext 225) (fun _ _ => rfl) ?_
        refine t_go (op := o_getR 229 8 0) (fe_X9_toNext 226) (g_getR hS (show (lay 2).1 = 8 by decide) (by decide) (fr_8_0 hS) (by decide)) ?_
        refine t_go (op := o_iload 230 2) (fe_X9_toNext 229) (fun _ _ => rfl) ?_
        refine t_go (op := o_iald 231) (fe_X9_toNext 230) (g_ialdN hS (show lay 3 = (20, 1000) by decide) rfl (by omega) (by decide)) ?_
        rw [show (sJ (sI (sI h 2 3 (nI q)) 2 4 0) 2 5 0).1 3 q = nI (ch q) from (hCH q (by omega)).1]
        refine t_go (op := o_putI 234 8 4) (fe_X9_toNext 231) (g_putI hS (show (lay 2).1 = 8 by decide) (by decide)) ?_
        refine t_go (op := o_aload 235 0) (fe_X9_toNext 234) (fun _ _ => rfl) ?_
        refine t_go (op := o_aload 236 0) (fe_X9_toNext 235) (fun _ _ => rfl) ?_
        refine t_go (op := o_getI 239 8 4) (fe_X9_toNext 236) (g_getI hS (show (lay 2).1 = 8 by decide) (by decide)) ?_
        rw [show (sI (sJ (sI (sI h 2 3 (nI q)) 2 4 0) 2 5 0) 2 4 (nI (ch q))).1 2 4 = nI (ch q) from sI_eq]
        refine t_call (op := o_callS 242 102 1) (fe_X9_toNext 239) (g_callS rfl rfl rfl (Nat.le_of_ble_eq_true rfl)) ?_
        refine M_eq (c_isOwnSign (c := ch q) (by have := (hCH q (by omega)).2; omega)) ?_
        refine t_ite (op := o_if 245 249 (fun x => x = 0) (fun _ => inferInstance)) (fe_X9_toNext 242) g_if (fun c4 => ?_) (fun c4 => ?_)
        · replace c4 := b2i_z c4
          refine t_go (op := o_ci 250 1) (fe_X9_toNext 249) (fun _ _ => rfl) ?_
          refine t_go (op := o_putI 253 8 2) (fe_X9_toNext 250) (g_putI hS (show (lay 2).1 = 8 by decide) (by decide)) ?_
          refine t_go (op := o_iinc 256 2 1) (fe_X9_toNext 253) (fun _ _ => rfl) ?_
          rw [nI_1]
          refine t_go (op := o_aload 257 0) (fe_X9_toNext 256) (fun _ _ => rfl) ?_
          refine t_go (op := o_iload 258 2) (fe_X9_toNext 257) (fun _ _ => rfl) ?_
          refine t_go (op := o_putI 261 8 7) (fe_X9_toNext 258) (g_putI hS (show (lay 2).1 = 8 by decide) (by decide)) ?_
          refine t_go (op := o_aload 262 0) (fe_X9_toNext 261) (fun _ _ => rfl) ?_
          refine t_go (op := o_aload 263 0) (fe_X9_toNext 262) (fun _ _ => rfl) ?_
          refine t_go (op := o_getI 266 8 2) (fe_X9_toNext 263) (g_getI hS (show (lay 2).1 = 8 by decide) (by decide)) ?_
          rw [show (sI (sI (sI (sJ (sI (sI h 2 3 (nI q)) 2 4 0) 2 5 0) 2 4 (nI (ch q))) 2 2 1) 2 7 (nI (q + 1))).1 2 2 = 1 from by simp [sI, sJ, up2]]
          refine t_go (op := o_ci 267 2) (fe_X9_toNext 266) (fun _ _ => rfl) ?_
          refine t_ite (op := o_icmp 280 270 (fun x y => x = y) (fun _ _ => inferInstance)) (fe_X9_toNext 267) g_icmp (fun c5 => ?_) (fun c5 => ?_)
          · exact absurd c5 (by decide)
          · clear c5
            refine t_go (op := o_gets 283 200024) (fe_X9_toNext 280) (fun _ _ => rfl) ?_
            refine t_go (op := o_putR 286 8 6) (fe_X9_toNext 283) (g_putR hS (show (lay 2).1 = 8 by decide) (by decide) (by decide)) ?_
            skip
            refine t_ret (op := o_vret) (fe_X9_toNext 286) (fun _ _ => rfl) ?_
            rw [show tokA ch len q = _ from et]
            refine ⟨rfl, ⟨rfl, fun a i hai => ?_, fun a ha => ?_, fun a ha => ?_, ?_⟩, ?_, ?_, fun hq => ?_, fun hq => ?_, ?_, ?_⟩
            · simp only [sI, sJ, sR, up2]
              by_cases h1 : a = 2
              · subst h1
                have h2 : ¬ i = 6 := fun e => hai ⟨rfl, e⟩
                simp [h2]
              · simp [h1]
            · funext i; simp [sI, sJ, sR, up2, ha]
            · funext i; simp [sI, sJ, sR, up2, ha]
            · simp [sI, sJ, sR, up2]
            · simp [sI, sJ, sR, up2]; try rfl
            · simp [sI, sJ, sR, up2]
            · first | (rcases hq with hq | hq <;> cases hq; done) | simp [sI, sJ, sR, up2]
            · first | (cases hq; done) | simp [sI, sJ, sR, up2]
            · simp [sI, sJ, sR, up2]
            · simp [sI, sJ, sR, up2]
        · exact absurd (b2i_nn c4) hG
      · exact absurd (b2i_nn c3) hD
    · exact absurd (b2i_nn c2) hL
  · exact absurd (nI_lt (show q < len by omega) (by omega)) c1
theorem c_next {d : Nat} {h : AHP} {ch : Nat → Nat} {len p : Nat} (hS : Std h) (hCH : CHr (h.1 3) ch len) (hlen : len ≤ 1000) (hl : h.1 2 1 = nI len) (hb : h.1 2 7 = nI p) (hp : p ≤ len) : MM (d + 1) 97 [.ref 2] h (fun v h2 => v = none ∧ Tf h h2 ∧ TKp h2 (tokN ch len p)) := by
  obtain ⟨q, eq⟩ : ∃ q, rnE iB ch (len - p) p = q := ⟨_, rfl⟩
  have hq := rnE_le (P := iB) (ch := ch) (len - p) p
  rw [eq] at hq
  unfold tokN
  rw [eq]
  rcases Nat.lt_or_ge q len with h0 | h0
  · by_cases hL : iL (ch q) = true
    · by_cases h8 : rnE iL ch (len - q) q - q ≤ 8
      · exact c_next1 hS hCH hlen hl hb hp eq (by omega) h0 hL rfl h8
      · exact c_next1b hS hCH hlen hl hb hp eq (by omega) h0 hL rfl h8
    · by_cases hD : iD (ch q) = true
      · by_cases h8 : rnE iD ch (len - q) q - q ≤ 4
        · exact c_next2 hS hCH hlen hl hb hp eq (by omega) h0 hL hD rfl h8
        · exact c_next2b hS hCH hlen hl hb hp eq (by omega) h0 hL hD rfl h8
      · by_cases hG : iG (ch q) = true
        · exact c_next3 hS hCH hlen hl hb hp eq (by omega) h0 hL hD hG
        · exact c_next4 hS hCH hlen hl hb hp eq (by omega) h0 hL hD hG
  · exact c_next0 hS hCH hlen hl hb hp eq (by omega) (by omega)
/-- the tape stands at token i -/
def CU (h : AHP) (ch : Nat → Nat) (len i : Nat) : Prop := CHr (h.1 3) ch len ∧ len ≤ 1000 ∧ h.1 2 1 = nI len ∧ TKp h (tkT ch len i)
theorem c_toNext {d : Nat} {h : AHP} {ch : Nat → Nat} {len i : Nat} (hS : Std h) (hC : CU h ch len i) : MM (d + 1) 97 [.ref 2] h (fun v h2 => v = none ∧ Tf h h2 ∧ CU h2 ch len (i + 1)) := by
  obtain ⟨h1, h2, h3, h4⟩ := hC
  refine M_mono ?_ (c_next hS h1 h2 h3 h4.2.2.2.2.2 (posT_le (i + 1)))
  rintro _ k ⟨rfl, hT, hk⟩
  exact ⟨rfl, hT, by rw [hT.2.2.2.1 3 (by decide)]; exact h1, h2, hT.2.2.2.2.trans h3, hk⟩
theorem c_toFirst {d : Nat} {h : AHP} {ch : Nat → Nat} {len : Nat} (hS : Std h) (h1 : CHr (h.1 3) ch len) (h2 : len ≤ 1000) (h3 : h.1 2 1 = nI len) : MM (d + 2) 96 [.ref 2] h (fun v k2 => v = none ∧ Tf h k2 ∧ CU k2 ch len 0) := by
  refine ⟨Nat.le_of_ble_eq_true rfl, ?_⟩
  refine t_go (op := o_aload 1 0) (fe_X9_toFirst 0) (fun _ _ => rfl) ?_
  refine t_go (op := o_ci 2 0) (fe_X9_toFirst 1) (fun _ _ => rfl) ?_
  refine t_go (op := o_putI 5 8 7) (fe_X9_toFirst 2) (g_putI hS (show (lay 2).1 = 8 by decide) (by decide)) ?_
  refine t_go (op := o_aload 6 0) (fe_X9_toFirst 5) (fun _ _ => rfl) ?_
  refine t_call (op := o_callV 9 97 1 8) (fe_X9_toFirst 6) (g_callV hS (show (lay 2).1 = 8 by decide) (by decide) rfl rfl rfl (Nat.le_of_ble_eq_true rfl)) ?_
  refine M_mono ?_ (c_next (h := sI h 2 7 0) (p := 0) hS h1 h2 h3 sI_eq (Nat.zero_le _))
  rintro _ k ⟨rfl, hT, hk⟩
  refine t_ret (op := o_vret) (fe_X9_toFirst 9) (fun _ _ => rfl) ?_
  have hT0 : Tf h (sI h 2 7 0) := ⟨rfl, fun _ _ _ => rfl, fun _ _ => rfl, fun a ha => sI_ne ha, sI_nr (by decide)⟩
  exact ⟨rfl, hT0.tr hT, by rw [(hT0.tr hT).2.2.2.1 3 (by decide)]; exact h1, h2, (hT0.tr hT).2.2.2.2.trans h3, hk⟩
