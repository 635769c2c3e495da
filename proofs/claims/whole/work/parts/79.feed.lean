/-! ===== feed ===== -/
def bC (v : Int64) (s : Int32) : Int32 := Int64.toInt32 ((fun x y : Int64 => x &&& y) ((fun (x : Int64) (y : Int32) => (x.toUInt64 >>> (y.toInt64.toUInt64 &&& Int64.toUInt64 63)).toInt64) v s) 255)
def bR (v : Int64) (s : Int32) : Int32 := (fun x y : Int32 => x &&& y) (Int64.toInt32 ((fun (x : Int64) (y : Int32) => x >>> (y.toInt64 &&& 63)) v s)) 255
theorem u_sh : ∀ j, j < 8 → (UInt64.mod ((nI (8 * j)).toInt64.toUInt64 &&& Int64.toUInt64 63) 64).toBitVec.toNat = 8 * j := by decide +kernel
theorem s_sh : ∀ j, j < 8 → (((nI (8 * j)).toInt64 &&& 63).toBitVec.smod 64).toNat = 8 * j := by decide +kernel
theorem b64u {v : Int64} {j i : Nat} (hj : j < 8) : ((v.toUInt64 >>> ((nI (8 * j)).toInt64.toUInt64 &&& Int64.toUInt64 63)).toInt64).toBitVec.getLsbD i = v.toBitVec.getLsbD (8 * j + i) := by
  show (v.toBitVec >>> (UInt64.mod ((nI (8 * j)).toInt64.toUInt64 &&& Int64.toUInt64 63) 64).toBitVec.toNat).getLsbD i = _
  rw [u_sh j hj, BitVec.getLsbD_ushiftRight]
theorem b64s {v : Int64} {j i : Nat} (hj : j < 8) (hi : i < 8) : (v >>> ((nI (8 * j)).toInt64 &&& 63)).toBitVec.getLsbD i = v.toBitVec.getLsbD (8 * j + i) := by
  rw [Int64.toBitVec_shiftRight]
  show (v.toBitVec.sshiftRight (((nI (8 * j)).toInt64 &&& 63).toBitVec.smod 64).toNat).getLsbD i = _
  rw [s_sh j hj, BitVec.getLsbD_sshiftRight]
  simp [show i < 64 by omega, show 8 * j + i < 64 by omega]
theorem m255 : ∀ i, i < 32 → (255 : Int64).toBitVec.getLsbD i = decide (i < 8) := by decide +kernel
theorem n255 : ∀ i, i < 32 → bt 255 i = decide (i < 8) := by decide +kernel
theorem byte_eq {v : Int64} {j : Nat} (hj : j < 8) : bC v (nI (8 * j)) = bR v (nI (8 * j)) := by
  refine b_ext fun i hi => ?_
  unfold bC bR
  dsimp only
  rw [b_and, n255 i hi]
  unfold bt
  show (((v.toUInt64 >>> ((nI (8 * j)).toInt64.toUInt64 &&& Int64.toUInt64 63)).toInt64 &&& 255).toBitVec.signExtend 32).getLsbD i = (((v >>> ((nI (8 * j)).toInt64 &&& 63)).toBitVec.signExtend 32).getLsbD i && decide (i < 8))
  rw [BitVec.getLsbD_signExtend, BitVec.getLsbD_signExtend, Int64.toBitVec_and, BitVec.getLsbD_and, b64u hj, m255 i hi]
  by_cases h8 : i < 8
  · rw [b64s hj h8]; simp [h8, hi, show i < 64 by omega]
  · simp [h8, hi]; omega
def jS : Nat → Int32
  | 0 => -8
  | j + 1 => nI (8 * j)
theorem jS_1 : ∀ j, j < 8 → nI (8 * j) + (-8) = jS j := by decide +kernel
def okB (b : Int32) : Prop := b = 10 ∨ (¬ b < 32 ∧ ¬ 126 < b)
noncomputable def putS (b : Int32) (s : (Nat → Int32) × Nat) : (Nat → Int32) × Nat := @ite _ (okB b ∧ s.2 < 1000) (Classical.propDecidable _) (fup s.1 s.2 b, s.2 + 1) s
noncomputable def putB (v : Int64) : Nat → ((Nat → Int32) × Nat) → (Nat → Int32) × Nat
  | 0, s => s
  | j + 1, s => putB v j (putS (bR v (nI (8 * j))) s)
def tH (h : AHP) (a b c : Nat) (r : Nat → Int32) (L : Nat) : AHP := rowI (sI h a b (nI L)) c r
theorem tH_len {h : AHP} {a b c L : Nat} {r : Nat → Int32} (hac : a ≠ c) : (tH h a b c r L).1 a b = nI L := by unfold tH; rw [rowI_ne hac, sI_eq]
theorem tH_up {h : AHP} {a b c L : Nat} {r : Nat → Int32} {x : Int32} (hac : a ≠ c) : sI (sI (tH h a b c r L) c L x) a b (nI L + 1) = tH h a b c (fup r L x) (L + 1) := by
  unfold tH
  rw [rowI_up, nI_1]
  refine AHP_ext (fun d j => ?_) rfl
  simp only [sI, up2, rowI, row2]
  by_cases h1 : d = a
  · subst h1
    by_cases q : j = b
    · simp [hac, q]
    · simp [hac, q]
  · by_cases h2 : d = c
    · subst h2; simp [h1]
    · simp [h1, h2]
theorem put_le {v : Int64} : ∀ (j : Nat) (s : (Nat → Int32) × Nat), s.2 ≤ 1000 → (putB v j s).2 ≤ 1000 := by
  intro j
  induction j with
  | zero => intro s h; exact h
  | succ j ih =>
    intro s h
    rw [putB]
    refine ih _ ?_
    unfold putS
    split
    · rename_i q; have := q.2; show s.2 + 1 ≤ 1000; omega
    · exact h
theorem lt1000 {L : Nat} (hL : L ≤ 1000) (h : ¬ (1000 : Int32) ≤ nI L) : L < 1000 := Classical.byContradiction fun q => h (nI_le (a := 1000) (by omega) (by omega))
theorem lc_put {d : Nat} {h : AHP} {v : Int64} (hS : Std h) {Q : Option Value → AHP → Prop} : ∀ (j : Nat) (r : Nat → Int32) (L : Nat) (x4 x5 : Option Value), j ≤ 8 → L ≤ 1000 → Q none (tH h 2 1 3 (putB v j (r, L)).1 (putB v j (r, L)).2) → TT d 94 3 [some (.ref 2), some (.long v), none, some (.int (jS j)), x4, x5] [] (tH h 2 1 3 r L) Q := by
  intro j
  induction j with
  | zero =>
    intro r L x4 x5 _ hL hq
    refine t_go (op := o_iload 4 3) (fe_X9_put 3) (fun _ _ => rfl) ?_
    refine t_ite (op := o_if 7 87 (fun x => x < 0) (fun _ => inferInstance)) (fe_X9_put 4) g_if (fun c1 => ?_) (fun c1 => ?_)
    · clear c1
      refine t_ret (op := o_vret) (fe_X9_put 87) (fun _ _ => rfl) ?_
      exact hq
    · exact absurd (by decide) c1
  | succ j ih =>
    intro r L x4 x5 hj hL hq
    rw [show jS (j + 1) = nI (8 * j) from rfl]
    have hb : bC v (nI (8 * j)) = bR v (nI (8 * j)) := byte_eq (by omega)
    refine t_go (op := o_iload 4 3) (fe_X9_put 3) (fun _ _ => rfl) ?_
    refine t_ite (op := o_if 7 87 (fun x => x < 0) (fun _ => inferInstance)) (fe_X9_put 4) g_if (fun c1 => ?_) (fun c1 => ?_)
    · exact absurd c1 (nI_pos (by omega))
    · clear c1
      refine t_go (op := o_lload 8 1) (fe_X9_put 7) (fun _ _ => rfl) ?_
      refine t_go (op := o_iload 9 3) (fe_X9_put 8) (fun _ _ => rfl) ?_
      refine t_go (op := o_lsh 10 (fun x y => (x.toUInt64 >>> (y.toInt64.toUInt64 &&& Int64.toUInt64 63)).toInt64)) (fe_X9_put 9) (fun _ _ => rfl) ?_
      refine t_go (op := o_cl 13 255) (fe_X9_put 10) (fun _ _ => rfl) ?_
      refine t_go (op := o_l2 14 (fun x y => x &&& y)) (fe_X9_put 13) (fun _ _ => rfl) ?_
      refine t_go (op := o_l2i 15) (fe_X9_put 14) (fun _ _ => rfl) ?_
      rw [show Int64.toInt32 ((fun x y : Int64 => x &&& y) ((fun (x : Int64) (y : Int32) => (x.toUInt64 >>> (y.toInt64.toUInt64 &&& Int64.toUInt64 63)).toInt64) v (nI (8 * j))) 255) = bR v (nI (8 * j)) from hb]
      refine t_go (op := o_istore 17 4) (fe_X9_put 15) (fun _ _ => rfl) ?_
      refine t_go (op := o_iload 19 4) (fe_X9_put 17) (fun _ _ => rfl) ?_
      refine t_go (op := o_ci 21 10) (fe_X9_put 19) (fun _ _ => rfl) ?_
      refine t_ite (op := o_icmp 24 38 (fun x y => x = y) (fun _ _ => inferInstance)) (fe_X9_put 21) g_icmp (fun c2 => ?_) (fun c2 => ?_)
      · refine t_go (op := o_ci 39 1) (fe_X9_put 38) (fun _ _ => rfl) ?_
        refine t_go (op := o_goto 43) (fe_X9_put 39) (fun _ _ => rfl) ?_
        refine t_go (op := o_istore 45 5) (fe_X9_put 43) (fun _ _ => rfl) ?_
        refine t_go (op := o_iload 47 5) (fe_X9_put 45) (fun _ _ => rfl) ?_
        refine t_ite (op := o_if 50 81 (fun x => x = 0) (fun _ => inferInstance)) (fe_X9_put 47) g_if (fun c3 => ?_) (fun c3 => ?_)
        · exact absurd c3 (by decide)
        · clear c3
          refine t_go (op := o_aload 51 0) (fe_X9_put 50) (fun _ _ => rfl) ?_
          refine t_go (op := o_getI 54 8 1) (fe_X9_put 51) (g_getI hS (show (lay 2).1 = 8 by decide) (by decide)) ?_
          rw [show (tH h 2 1 3 r L).1 2 1 = nI L from tH_len (by decide)]
          refine t_go (op := o_ci 57 1000) (fe_X9_put 54) (fun _ _ => rfl) ?_
          refine t_ite (op := o_icmp 60 81 (fun x y => y ≤ x) (fun _ _ => inferInstance)) (fe_X9_put 57) g_icmp (fun c4 => ?_) (fun c4 => ?_)
          · refine t_go (op := o_iinc 84 3 (-8)) (fe_X9_put 81) (fun _ _ => rfl) ?_
            refine t_go (op := o_goto 3) (fe_X9_put 84) (fun _ _ => rfl) ?_
            rw [putB] at hq
            rw [show putS (bR v (nI (8 * j))) (r, L) = _ from if_neg (fun q => by have := le_nI (a := 1000) (b := L) (by decide) (by omega) c4; have := q.2; omega)] at hq
            rw [jS_1 j (by omega)]
            exact ih r L _ _ (by omega) hL hq
          · refine t_go (op := o_aload 61 0) (fe_X9_put 60) (fun _ _ => rfl) ?_
            refine t_go (op := o_getR 64 8 0) (fe_X9_put 61) (g_getR hS (show (lay 2).1 = 8 by decide) (by decide) (fr_8_0 hS) (by decide)) ?_
            refine t_go (op := o_aload 65 0) (fe_X9_put 64) (fun _ _ => rfl) ?_
            refine t_go (op := o_getI 68 8 1) (fe_X9_put 65) (g_getI hS (show (lay 2).1 = 8 by decide) (by decide)) ?_
            rw [show (tH h 2 1 3 r L).1 2 1 = nI L from tH_len (by decide)]
            refine t_go (op := o_iload 70 4) (fe_X9_put 68) (fun _ _ => rfl) ?_
            refine t_go (op := o_iast 71) (fe_X9_put 70) (g_iastN hS (show lay 3 = (20, 1000) by decide) rfl (lt1000 hL (by assumption)) (by decide)) ?_
            refine t_go (op := o_aload 72 0) (fe_X9_put 71) (fun _ _ => rfl) ?_
            refine t_go (op := o_dupA 73) (fe_X9_put 72) (fun _ _ => rfl) ?_
            refine t_go (op := o_getI 76 8 1) (fe_X9_put 73) (g_getI hS (show (lay 2).1 = 8 by decide) (by decide)) ?_
            rw [show (sI (tH h 2 1 3 r L) 3 L (bR v (nI (8 * j)))).1 2 1 = nI L from by rw [sI_ne (by decide)]; exact tH_len (by decide)]
            refine t_go (op := o_ci 77 1) (fe_X9_put 76) (fun _ _ => rfl) ?_
            refine t_go (op := o_i2 78 (fun x y => x + y)) (fe_X9_put 77) (fun _ _ => rfl) ?_
            refine t_go (op := o_putI 81 8 1) (fe_X9_put 78) (g_putI hS (show (lay 2).1 = 8 by decide) (by decide)) ?_
            refine t_go (op := o_iinc 84 3 (-8)) (fe_X9_put 81) (fun _ _ => rfl) ?_
            refine t_go (op := o_goto 3) (fe_X9_put 84) (fun _ _ => rfl) ?_
            rw [putB] at hq
            rw [show putS (bR v (nI (8 * j))) (r, L) = _ from if_pos ⟨Or.inl c2, lt1000 hL c4⟩] at hq
            rw [show sI (sI (tH h 2 1 3 r L) 3 L (bR v (nI (8 * j)))) 2 1 ((fun x y : Int32 => x + y) (nI L) 1) = tH h 2 1 3 (fup r L (bR v (nI (8 * j)))) (L + 1) from tH_up (by decide)]
            rw [jS_1 j (by omega)]
            exact ih _ _ _ _ (by omega) (by have := lt1000 hL c4; omega) hq
      · refine t_go (op := o_iload 26 4) (fe_X9_put 24) (fun _ _ => rfl) ?_
        refine t_go (op := o_ci 28 32) (fe_X9_put 26) (fun _ _ => rfl) ?_
        refine t_ite (op := o_icmp 31 42 (fun x y => x < y) (fun _ _ => inferInstance)) (fe_X9_put 28) g_icmp (fun c5 => ?_) (fun c5 => ?_)
        · refine t_go (op := o_ci 43 0) (fe_X9_put 42) (fun _ _ => rfl) ?_
          refine t_go (op := o_istore 45 5) (fe_X9_put 43) (fun _ _ => rfl) ?_
          refine t_go (op := o_iload 47 5) (fe_X9_put 45) (fun _ _ => rfl) ?_
          refine t_ite (op := o_if 50 81 (fun x => x = 0) (fun _ => inferInstance)) (fe_X9_put 47) g_if (fun c6 => ?_) (fun c6 => ?_)
          · clear c6
            refine t_go (op := o_iinc 84 3 (-8)) (fe_X9_put 81) (fun _ _ => rfl) ?_
            refine t_go (op := o_goto 3) (fe_X9_put 84) (fun _ _ => rfl) ?_
            rw [putB] at hq
            rw [show putS (bR v (nI (8 * j))) (r, L) = _ from if_neg (fun q => q.1.elim c2 (fun z => z.1 c5))] at hq
            rw [jS_1 j (by omega)]
            exact ih r L _ _ (by omega) hL hq
          · exact absurd (by decide) c6
        · refine t_go (op := o_iload 33 4) (fe_X9_put 31) (fun _ _ => rfl) ?_
          refine t_go (op := o_ci 35 126) (fe_X9_put 33) (fun _ _ => rfl) ?_
          refine t_ite (op := o_icmp 38 42 (fun x y => y < x) (fun _ _ => inferInstance)) (fe_X9_put 35) g_icmp (fun c7 => ?_) (fun c7 => ?_)
          · refine t_go (op := o_ci 43 0) (fe_X9_put 42) (fun _ _ => rfl) ?_
            refine t_go (op := o_istore 45 5) (fe_X9_put 43) (fun _ _ => rfl) ?_
            refine t_go (op := o_iload 47 5) (fe_X9_put 45) (fun _ _ => rfl) ?_
            refine t_ite (op := o_if 50 81 (fun x => x = 0) (fun _ => inferInstance)) (fe_X9_put 47) g_if (fun c8 => ?_) (fun c8 => ?_)
            · clear c8
              refine t_go (op := o_iinc 84 3 (-8)) (fe_X9_put 81) (fun _ _ => rfl) ?_
              refine t_go (op := o_goto 3) (fe_X9_put 84) (fun _ _ => rfl) ?_
              rw [putB] at hq
              rw [show putS (bR v (nI (8 * j))) (r, L) = _ from if_neg (fun q => q.1.elim c2 (fun z => z.2 c7))] at hq
              rw [jS_1 j (by omega)]
              exact ih r L _ _ (by omega) hL hq
            · exact absurd (by decide) c8
          · refine t_go (op := o_ci 39 1) (fe_X9_put 38) (fun _ _ => rfl) ?_
            refine t_go (op := o_goto 43) (fe_X9_put 39) (fun _ _ => rfl) ?_
            refine t_go (op := o_istore 45 5) (fe_X9_put 43) (fun _ _ => rfl) ?_
            refine t_go (op := o_iload 47 5) (fe_X9_put 45) (fun _ _ => rfl) ?_
            refine t_ite (op := o_if 50 81 (fun x => x = 0) (fun _ => inferInstance)) (fe_X9_put 47) g_if (fun c9 => ?_) (fun c9 => ?_)
            · exact absurd c9 (by decide)
            · clear c9
              refine t_go (op := o_aload 51 0) (fe_X9_put 50) (fun _ _ => rfl) ?_
              refine t_go (op := o_getI 54 8 1) (fe_X9_put 51) (g_getI hS (show (lay 2).1 = 8 by decide) (by decide)) ?_
              rw [show (tH h 2 1 3 r L).1 2 1 = nI L from tH_len (by decide)]
              refine t_go (op := o_ci 57 1000) (fe_X9_put 54) (fun _ _ => rfl) ?_
              refine t_ite (op := o_icmp 60 81 (fun x y => y ≤ x) (fun _ _ => inferInstance)) (fe_X9_put 57) g_icmp (fun c10 => ?_) (fun c10 => ?_)
              · refine t_go (op := o_iinc 84 3 (-8)) (fe_X9_put 81) (fun _ _ => rfl) ?_
                refine t_go (op := o_goto 3) (fe_X9_put 84) (fun _ _ => rfl) ?_
                rw [putB] at hq
                rw [show putS (bR v (nI (8 * j))) (r, L) = _ from if_neg (fun q => by have := le_nI (a := 1000) (b := L) (by decide) (by omega) c10; have := q.2; omega)] at hq
                rw [jS_1 j (by omega)]
                exact ih r L _ _ (by omega) hL hq
              · refine t_go (op := o_aload 61 0) (fe_X9_put 60) (fun _ _ => rfl) ?_
                refine t_go (op := o_getR 64 8 0) (fe_X9_put 61) (g_getR hS (show (lay 2).1 = 8 by decide) (by decide) (fr_8_0 hS) (by decide)) ?_
                refine t_go (op := o_aload 65 0) (fe_X9_put 64) (fun _ _ => rfl) ?_
                refine t_go (op := o_getI 68 8 1) (fe_X9_put 65) (g_getI hS (show (lay 2).1 = 8 by decide) (by decide)) ?_
                rw [show (tH h 2 1 3 r L).1 2 1 = nI L from tH_len (by decide)]
                refine t_go (op := o_iload 70 4) (fe_X9_put 68) (fun _ _ => rfl) ?_
                refine t_go (op := o_iast 71) (fe_X9_put 70) (g_iastN hS (show lay 3 = (20, 1000) by decide) rfl (lt1000 hL (by assumption)) (by decide)) ?_
                refine t_go (op := o_aload 72 0) (fe_X9_put 71) (fun _ _ => rfl) ?_
                refine t_go (op := o_dupA 73) (fe_X9_put 72) (fun _ _ => rfl) ?_
                refine t_go (op := o_getI 76 8 1) (fe_X9_put 73) (g_getI hS (show (lay 2).1 = 8 by decide) (by decide)) ?_
                rw [show (sI (tH h 2 1 3 r L) 3 L (bR v (nI (8 * j)))).1 2 1 = nI L from by rw [sI_ne (by decide)]; exact tH_len (by decide)]
                refine t_go (op := o_ci 77 1) (fe_X9_put 76) (fun _ _ => rfl) ?_
                refine t_go (op := o_i2 78 (fun x y => x + y)) (fe_X9_put 77) (fun _ _ => rfl) ?_
                refine t_go (op := o_putI 81 8 1) (fe_X9_put 78) (g_putI hS (show (lay 2).1 = 8 by decide) (by decide)) ?_
                refine t_go (op := o_iinc 84 3 (-8)) (fe_X9_put 81) (fun _ _ => rfl) ?_
                refine t_go (op := o_goto 3) (fe_X9_put 84) (fun _ _ => rfl) ?_
                rw [putB] at hq
                rw [show putS (bR v (nI (8 * j))) (r, L) = _ from if_pos ⟨Or.inr ⟨c5, c7⟩, lt1000 hL c10⟩] at hq
                rw [show sI (sI (tH h 2 1 3 r L) 3 L (bR v (nI (8 * j)))) 2 1 ((fun x y : Int32 => x + y) (nI L) 1) = tH h 2 1 3 (fup r L (bR v (nI (8 * j)))) (L + 1) from tH_up (by decide)]
                rw [jS_1 j (by omega)]
                exact ih _ _ _ _ (by omega) (by have := lt1000 hL c10; omega) hq
theorem lr_lay {d : Nat} {h : AHP} {v : Int64} (hS : Std h) {Q : Option Value → AHP → Prop} : ∀ (j : Nat) (r : Nat → Int32) (L : Nat) (x4 : Option Value), j ≤ 8 → L ≤ 1000 → Q none (tH h 183 2 184 (putB v j (r, L)).1 (putB v j (r, L)).2) → TT d 159 3 [some (.ref 183), some (.long v), none, some (.int (jS j)), x4] [] (tH h 183 2 184 r L) Q := by
  intro j
  induction j with
  | zero =>
    intro r L x4 _ hL hq
    refine t_go (op := o_iload 4 3) (fe_X12_lay 3) (fun _ _ => rfl) ?_
    refine t_ite (op := o_if 7 75 (fun x => x < 0) (fun _ => inferInstance)) (fe_X12_lay 4) g_if (fun c1 => ?_) (fun c1 => ?_)
    · clear c1
      refine t_ret (op := o_vret) (fe_X12_lay 75) (fun _ _ => rfl) ?_
      exact hq
    · exact absurd (by decide) c1
  | succ j ih =>
    intro r L x4 hj hL hq
    rw [show jS (j + 1) = nI (8 * j) from rfl]
    have hb : bR v (nI (8 * j)) = bR v (nI (8 * j)) := rfl
    refine t_go (op := o_iload 4 3) (fe_X12_lay 3) (fun _ _ => rfl) ?_
    refine t_ite (op := o_if 7 75 (fun x => x < 0) (fun _ => inferInstance)) (fe_X12_lay 4) g_if (fun c1 => ?_) (fun c1 => ?_)
    · exact absurd c1 (nI_pos (by omega))
    · clear c1
      refine t_go (op := o_lload 8 1) (fe_X12_lay 7) (fun _ _ => rfl) ?_
      refine t_go (op := o_iload 9 3) (fe_X12_lay 8) (fun _ _ => rfl) ?_
      refine t_go (op := o_lsh 10 (fun x y => x >>> (y.toInt64 &&& 63))) (fe_X12_lay 9) (fun _ _ => rfl) ?_
      refine t_go (op := o_l2i 11) (fe_X12_lay 10) (fun _ _ => rfl) ?_
      refine t_go (op := o_ci 14 255) (fe_X12_lay 11) (fun _ _ => rfl) ?_
      refine t_go (op := o_i2 15 (fun x y => x &&& y)) (fe_X12_lay 14) (fun _ _ => rfl) ?_
      rw [show (fun x y : Int32 => x &&& y) (Int64.toInt32 ((fun (x : Int64) (y : Int32) => x >>> (y.toInt64 &&& 63)) v (nI (8 * j)))) 255 = bR v (nI (8 * j)) from hb]
      refine t_go (op := o_istore 17 4) (fe_X12_lay 15) (fun _ _ => rfl) ?_
      refine t_go (op := o_iload 19 4) (fe_X12_lay 17) (fun _ _ => rfl) ?_
      refine t_go (op := o_ci 21 10) (fe_X12_lay 19) (fun _ _ => rfl) ?_
      refine t_ite (op := o_icmp 24 38 (fun x y => x = y) (fun _ _ => inferInstance)) (fe_X12_lay 21) g_icmp (fun c2 => ?_) (fun c2 => ?_)
      · refine t_go (op := o_aload 39 0) (fe_X12_lay 38) (fun _ _ => rfl) ?_
        refine t_go (op := o_getI 42 11 2) (fe_X12_lay 39) (g_getI hS (show (lay 183).1 = 11 by decide) (by decide)) ?_
        rw [show (tH h 183 2 184 r L).1 183 2 = nI L from tH_len (by decide)]
        refine t_go (op := o_ci 45 1000) (fe_X12_lay 42) (fun _ _ => rfl) ?_
        refine t_ite (op := o_icmp 48 69 (fun x y => y ≤ x) (fun _ _ => inferInstance)) (fe_X12_lay 45) g_icmp (fun c3 => ?_) (fun c3 => ?_)
        · refine t_go (op := o_iinc 72 3 (-8)) (fe_X12_lay 69) (fun _ _ => rfl) ?_
          refine t_go (op := o_goto 3) (fe_X12_lay 72) (fun _ _ => rfl) ?_
          rw [putB] at hq
          rw [show putS (bR v (nI (8 * j))) (r, L) = _ from if_neg (fun q => by have := le_nI (a := 1000) (b := L) (by decide) (by omega) c3; have := q.2; omega)] at hq
          rw [jS_1 j (by omega)]
          exact ih r L _ (by omega) hL hq
        · refine t_go (op := o_aload 49 0) (fe_X12_lay 48) (fun _ _ => rfl) ?_
          refine t_go (op := o_getR 52 11 1) (fe_X12_lay 49) (g_getR hS (show (lay 183).1 = 11 by decide) (by decide) (fr_11_1 hS) (by decide)) ?_
          refine t_go (op := o_aload 53 0) (fe_X12_lay 52) (fun _ _ => rfl) ?_
          refine t_go (op := o_getI 56 11 2) (fe_X12_lay 53) (g_getI hS (show (lay 183).1 = 11 by decide) (by decide)) ?_
          rw [show (tH h 183 2 184 r L).1 183 2 = nI L from tH_len (by decide)]
          refine t_go (op := o_iload 58 4) (fe_X12_lay 56) (fun _ _ => rfl) ?_
          refine t_go (op := o_iast 59) (fe_X12_lay 58) (g_iastN hS (show lay 184 = (20, 1000) by decide) rfl (lt1000 hL (by assumption)) (by decide)) ?_
          refine t_go (op := o_aload 60 0) (fe_X12_lay 59) (fun _ _ => rfl) ?_
          refine t_go (op := o_dupA 61) (fe_X12_lay 60) (fun _ _ => rfl) ?_
          refine t_go (op := o_getI 64 11 2) (fe_X12_lay 61) (g_getI hS (show (lay 183).1 = 11 by decide) (by decide)) ?_
          rw [show (sI (tH h 183 2 184 r L) 184 L (bR v (nI (8 * j)))).1 183 2 = nI L from by rw [sI_ne (by decide)]; exact tH_len (by decide)]
          refine t_go (op := o_ci 65 1) (fe_X12_lay 64) (fun _ _ => rfl) ?_
          refine t_go (op := o_i2 66 (fun x y => x + y)) (fe_X12_lay 65) (fun _ _ => rfl) ?_
          refine t_go (op := o_putI 69 11 2) (fe_X12_lay 66) (g_putI hS (show (lay 183).1 = 11 by decide) (by decide)) ?_
          refine t_go (op := o_iinc 72 3 (-8)) (fe_X12_lay 69) (fun _ _ => rfl) ?_
          refine t_go (op := o_goto 3) (fe_X12_lay 72) (fun _ _ => rfl) ?_
          rw [putB] at hq
          rw [show putS (bR v (nI (8 * j))) (r, L) = _ from if_pos ⟨Or.inl c2, lt1000 hL c3⟩] at hq
          rw [show sI (sI (tH h 183 2 184 r L) 184 L (bR v (nI (8 * j)))) 183 2 ((fun x y : Int32 => x + y) (nI L) 1) = tH h 183 2 184 (fup r L (bR v (nI (8 * j)))) (L + 1) from tH_up (by decide)]
          rw [jS_1 j (by omega)]
          exact ih _ _ _ (by omega) (by have := lt1000 hL c3; omega) hq
      · refine t_go (op := o_iload 26 4) (fe_X12_lay 24) (fun _ _ => rfl) ?_
        refine t_go (op := o_ci 28 32) (fe_X12_lay 26) (fun _ _ => rfl) ?_
        refine t_ite (op := o_icmp 31 69 (fun x y => x < y) (fun _ _ => inferInstance)) (fe_X12_lay 28) g_icmp (fun c4 => ?_) (fun c4 => ?_)
        · refine t_go (op := o_iinc 72 3 (-8)) (fe_X12_lay 69) (fun _ _ => rfl) ?_
          refine t_go (op := o_goto 3) (fe_X12_lay 72) (fun _ _ => rfl) ?_
          rw [putB] at hq
          rw [show putS (bR v (nI (8 * j))) (r, L) = _ from if_neg (fun q => q.1.elim c2 (fun z => z.1 c4))] at hq
          rw [jS_1 j (by omega)]
          exact ih r L _ (by omega) hL hq
        · refine t_go (op := o_iload 33 4) (fe_X12_lay 31) (fun _ _ => rfl) ?_
          refine t_go (op := o_ci 35 126) (fe_X12_lay 33) (fun _ _ => rfl) ?_
          refine t_ite (op := o_icmp 38 69 (fun x y => y < x) (fun _ _ => inferInstance)) (fe_X12_lay 35) g_icmp (fun c5 => ?_) (fun c5 => ?_)
          · refine t_go (op := o_iinc 72 3 (-8)) (fe_X12_lay 69) (fun _ _ => rfl) ?_
            refine t_go (op := o_goto 3) (fe_X12_lay 72) (fun _ _ => rfl) ?_
            rw [putB] at hq
            rw [show putS (bR v (nI (8 * j))) (r, L) = _ from if_neg (fun q => q.1.elim c2 (fun z => z.2 c5))] at hq
            rw [jS_1 j (by omega)]
            exact ih r L _ (by omega) hL hq
          · refine t_go (op := o_aload 39 0) (fe_X12_lay 38) (fun _ _ => rfl) ?_
            refine t_go (op := o_getI 42 11 2) (fe_X12_lay 39) (g_getI hS (show (lay 183).1 = 11 by decide) (by decide)) ?_
            rw [show (tH h 183 2 184 r L).1 183 2 = nI L from tH_len (by decide)]
            refine t_go (op := o_ci 45 1000) (fe_X12_lay 42) (fun _ _ => rfl) ?_
            refine t_ite (op := o_icmp 48 69 (fun x y => y ≤ x) (fun _ _ => inferInstance)) (fe_X12_lay 45) g_icmp (fun c6 => ?_) (fun c6 => ?_)
            · refine t_go (op := o_iinc 72 3 (-8)) (fe_X12_lay 69) (fun _ _ => rfl) ?_
              refine t_go (op := o_goto 3) (fe_X12_lay 72) (fun _ _ => rfl) ?_
              rw [putB] at hq
              rw [show putS (bR v (nI (8 * j))) (r, L) = _ from if_neg (fun q => by have := le_nI (a := 1000) (b := L) (by decide) (by omega) c6; have := q.2; omega)] at hq
              rw [jS_1 j (by omega)]
              exact ih r L _ (by omega) hL hq
            · refine t_go (op := o_aload 49 0) (fe_X12_lay 48) (fun _ _ => rfl) ?_
              refine t_go (op := o_getR 52 11 1) (fe_X12_lay 49) (g_getR hS (show (lay 183).1 = 11 by decide) (by decide) (fr_11_1 hS) (by decide)) ?_
              refine t_go (op := o_aload 53 0) (fe_X12_lay 52) (fun _ _ => rfl) ?_
              refine t_go (op := o_getI 56 11 2) (fe_X12_lay 53) (g_getI hS (show (lay 183).1 = 11 by decide) (by decide)) ?_
              rw [show (tH h 183 2 184 r L).1 183 2 = nI L from tH_len (by decide)]
              refine t_go (op := o_iload 58 4) (fe_X12_lay 56) (fun _ _ => rfl) ?_
              refine t_go (op := o_iast 59) (fe_X12_lay 58) (g_iastN hS (show lay 184 = (20, 1000) by decide) rfl (lt1000 hL (by assumption)) (by decide)) ?_
              refine t_go (op := o_aload 60 0) (fe_X12_lay 59) (fun _ _ => rfl) ?_
              refine t_go (op := o_dupA 61) (fe_X12_lay 60) (fun _ _ => rfl) ?_
              refine t_go (op := o_getI 64 11 2) (fe_X12_lay 61) (g_getI hS (show (lay 183).1 = 11 by decide) (by decide)) ?_
              rw [show (sI (tH h 183 2 184 r L) 184 L (bR v (nI (8 * j)))).1 183 2 = nI L from by rw [sI_ne (by decide)]; exact tH_len (by decide)]
              refine t_go (op := o_ci 65 1) (fe_X12_lay 64) (fun _ _ => rfl) ?_
              refine t_go (op := o_i2 66 (fun x y => x + y)) (fe_X12_lay 65) (fun _ _ => rfl) ?_
              refine t_go (op := o_putI 69 11 2) (fe_X12_lay 66) (g_putI hS (show (lay 183).1 = 11 by decide) (by decide)) ?_
              refine t_go (op := o_iinc 72 3 (-8)) (fe_X12_lay 69) (fun _ _ => rfl) ?_
              refine t_go (op := o_goto 3) (fe_X12_lay 72) (fun _ _ => rfl) ?_
              rw [putB] at hq
              rw [show putS (bR v (nI (8 * j))) (r, L) = _ from if_pos ⟨Or.inr ⟨c4, c5⟩, lt1000 hL c6⟩] at hq
              rw [show sI (sI (tH h 183 2 184 r L) 184 L (bR v (nI (8 * j)))) 183 2 ((fun x y : Int32 => x + y) (nI L) 1) = tH h 183 2 184 (fup r L (bR v (nI (8 * j)))) (L + 1) from tH_up (by decide)]
              rw [jS_1 j (by omega)]
              exact ih _ _ _ (by omega) (by have := lt1000 hL c6; omega) hq
theorem m_put {d : Nat} {h : AHP} {x : Int64} {r : Nat → Int32} {L : Nat} (hS : Std h) (hL : L ≤ 1000) : MM d 94 [.ref 2, .long x] (tH h 2 1 3 r L) (fun v h2 => v = none ∧ h2 = tH h 2 1 3 (putB x 8 (r, L)).1 (putB x 8 (r, L)).2) := by
  refine ⟨Nat.le_of_ble_eq_true rfl, ?_⟩
  refine t_go (op := o_ci 2 56) (fe_X9_put 0) (fun _ _ => rfl) ?_
  refine t_go (op := o_istore 3 3) (fe_X9_put 2) (fun _ _ => rfl) ?_
  exact lc_put hS 8 r L _ _ (by omega) hL ⟨rfl, rfl⟩
theorem r_lay {d : Nat} {h : AHP} {x : Int64} {r : Nat → Int32} {L : Nat} (hS : Std h) (hL : L ≤ 1000) : MM d 159 [.ref 183, .long x] (tH h 183 2 184 r L) (fun v h2 => v = none ∧ h2 = tH h 183 2 184 (putB x 8 (r, L)).1 (putB x 8 (r, L)).2) := by
  refine ⟨Nat.le_of_ble_eq_true rfl, ?_⟩
  refine t_go (op := o_ci 2 56) (fe_X12_lay 0) (fun _ _ => rfl) ?_
  refine t_go (op := o_istore 3 3) (fe_X12_lay 2) (fun _ _ => rfl) ?_
  exact lr_lay hS 8 r L _ (by omega) hL ⟨rfl, rfl⟩
