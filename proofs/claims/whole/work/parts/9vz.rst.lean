/-! ===== rests at the machine ===== -/
def muL : MR := (RL, yL_law, cL_law, 7, some .boolean)
def muR : MR := (RX11, yX11_rests, cX11_rests, 7, some .int)
theorem we_0 : Cond.methodLink RX11 256 yX11_isGain ∈ WSg := wdm 1000 (by decide +kernel) (by decide +kernel)
theorem we_1 : Cond.static yX11_isGain ∈ WSg := wdm 1001 (by decide +kernel) (by decide +kernel)
theorem we_2 : Cond.methodLink RX11 262 yX11_isAtRest ∈ WSg := wdm 1064 (by decide +kernel) (by decide +kernel)
theorem we_3 : Cond.static yX11_isAtRest ∈ WSg := wdm 1065 (by decide +kernel) (by decide +kernel)
theorem we_4 : Cond.code yX11_isGain cX11_isGain 1 (some .boolean) ∈ WSg := wdm 1002 (by decide +kernel) (by decide +kernel)
theorem we_5 : Cond.code yX11_isAtRest cX11_isAtRest 6 (some .boolean) ∈ WSg := wdm 1066 (by decide +kernel) (by decide +kernel)
theorem we_6 : Cond.code yX11_rests cX11_rests 7 (some .int) ∈ WSg := wdm 999 (by decide +kernel) (by decide +kernel)
theorem ce_gain : CalOK (mt 153) 1 := (⟨we_4, wd_908, by decide, by decide +kernel⟩ : CalOK mu_X11_isGain 1)
theorem ce_rest : CalOK (mt 154) 4 := (⟨we_5, wd_908, by decide, by decide +kernel⟩ : CalOK mu_X11_isAtRest 4)
section RST
variable {w : WD} {l : Launch} {d : Nat} {p : Program} {e : Env} {R : Room} {s : State} {m : MethodId} {args : Array Value} {below : List Frame} {meth : Method} {c : Code} {n0 : Nat} {Z : State → Prop} {h : AHP} {a b g x : Int32}
set_option maxRecDepth 8000 in
theorem wr_loop (hcx : Cx w muR (d + 3) p R s m args meth c) (hrm : h.2.2.2 ≤ R.cells + n0 ∧ sl h.2.2.2 ≤ R.slots + sl n0) : ∀ (j k : Nat) (n : Int32), k + j = 4 → (∀ v, rsL a b g x j k n = some v → ∀ pc ls, (pc = 64 ∨ pc = 90) → WP w l muR p e R s m args below meth c n0 Z pc ls [.int v] h) → (rsL a b g x j k n = none → ∀ ls, WP w l muR p e R s m args below meth c n0 Z 80 ls [] h) → WP w l muR p e R s m args below meth c n0 Z 35 [some (.ref 1), some (.int a), some (.int b), some (.int g), some (.int x), some (.int n), some (.int (nI k))] [] h := by
  intro j
  induction j with
  | zero =>
    intro k n hk hR hT
    have e4 : k = 4 := by omega
    subst e4
    refine zp_iload hcx dX11_rests_35 rfl ?_
    refine zp_iconst hcx (v := 4) (by decide) dX11_rests_37 ?_
    refine zp_icmp_ge hcx (tgt := 74) (by decide) dX11_rests_38 (fun _ => ?_) (fun q => absurd (by decide) q)
    refine zp_iload hcx dX11_rests_74 rfl ?_
    refine zp_iconst hcx (v := -1) (by decide) dX11_rests_76 ?_
    refine zp_icmp_eq hcx (tgt := 88) (by decide) dX11_rests_77 (fun q => ?_) (fun q => ?_)
    · refine zp_iload hcx dX11_rests_88 rfl ?_
      exact hR n (if_pos q) 90 _ (Or.inr rfl)
    · exact hT (if_neg q) _
  | succ j ih =>
    intro k n hk hR hT
    have hk4 : k < 4 := by omega
    rw [rsL] at hR hT
    refine zp_iload hcx dX11_rests_35 rfl ?_
    refine zp_iconst hcx (v := 4) (by decide) dX11_rests_37 ?_
    refine zp_icmp_ge hcx (tgt := 74) (by decide) dX11_rests_38 (fun q => absurd q (nI_ge (b := 4) hk4 (by decide))) (fun _ => ?_)
    refine zp_iload_n hcx (i := 1) rfl dX11_rests_41 rfl ?_
    refine zp_iload_n hcx (i := 2) rfl dX11_rests_42 rfl ?_
    refine zp_iload_n hcx (i := 3) rfl dX11_rests_43 rfl ?_
    refine zp_iload hcx dX11_rests_44 rfl ?_
    refine zp_callS hcx (k := 154) (as := [.int a, .int b, .int g, .int (nI k)]) (rest := []) rfl ce_rest we_2 we_3 dX11_rests_46 (met_MM (c_isAtRest hk4)) rfl rfl (by decide) hrm ?_
    have hN : ∀ ls2, ls2 = [some (.ref 1), some (.int a), some (.int b), some (.int g), some (.int x), some (.int n), some (.int (nI k))] → ¬ atR a b g k = true → WP w l muR p e R s m args below meth c n0 Z 68 ls2 [] h := by
      intro ls2 e2 hA
      subst e2
      rw [if_neg hA] at hR hT
      refine zp_iinc hcx (v := 1) (by decide) dX11_rests_68 rfl ?_
      refine zp_goto hcx (tgt := 35) (by decide) dX11_rests_71 ?_
      have q := ih (k + 1) n (by omega) hR hT
      rw [← nI_1] at q
      exact q
    refine zp_if_ne hcx (tgt := 55) (by decide) dX11_rests_49 (fun q => ?_) (fun q => ?_)
    · have hA := b2i_nn q
      rw [if_pos hA] at hR hT
      refine zp_iload hcx dX11_rests_55 rfl ?_
      refine zp_iload hcx dX11_rests_57 rfl ?_
      refine zp_icmp_ne hcx (tgt := 65) (by decide) dX11_rests_59 (fun q => ?_) (fun q => ?_)
      · rw [if_neg q] at hR hT
        refine zp_iinc hcx (v := 1) (by decide) dX11_rests_65 rfl ?_
        refine zp_iinc hcx (v := 1) (by decide) dX11_rests_68 rfl ?_
        refine zp_goto hcx (tgt := 35) (by decide) dX11_rests_71 ?_
        have q := ih (k + 1) (n + 1) (by omega) hR hT
        rw [← nI_1] at q
        exact q
      · rw [if_pos q] at hR
        refine zp_iload hcx dX11_rests_62 rfl ?_
        exact hR (nI k) rfl 64 _ (Or.inl rfl)
    · refine zp_goto hcx (tgt := 68) (by decide) dX11_rests_52 ?_
      exact hN _ rfl (b2i_z q)
set_option maxRecDepth 8000 in
theorem wr_all (hcx : Cx w muR (d + 3) p R s m args meth c) (hrm : h.2.2.2 ≤ R.cells + n0 ∧ sl h.2.2.2 ≤ R.slots + sl n0) (hR : ∀ v, rsV a b g x = some v → ∀ pc ls, (pc = 64 ∨ pc = 90) → WP w l muR p e R s m args below meth c n0 Z pc ls [.int v] h) (hT : rsV a b g x = none → ∀ pc ls, (pc = 21 ∨ pc = 80) → WP w l muR p e R s m args below meth c n0 Z pc ls [] h) : WP w l muR p e R s m args below meth c n0 Z 0 [some (.ref 1), some (.int a), some (.int b), some (.int g), some (.int x), none, none] [] h := by
  have gn : ∀ q : Int32, MetM w l (mt 153) (d + 2) [.int q] h (some (.int (b2i (gnP q = true))), h) := fun q => met_MM c_isGain
  refine zp_iload_n hcx (i := 1) rfl dX11_rests_0 rfl ?_
  refine zp_callS hcx (k := 153) (as := [.int a]) (rest := []) rfl ce_gain we_0 we_1 dX11_rests_1 (gn a) rfl rfl (by decide) hrm ?_
  refine zp_if_eq hcx (tgt := 21) (by decide) dX11_rests_4 (fun q => ?_) (fun q1 => ?_)
  · have hA := b2i_z q
    exact hT (by rw [rsV, Bool.eq_false_iff.mpr hA]; rfl) 21 _ (Or.inl rfl)
  refine zp_iload_n hcx (i := 2) rfl dX11_rests_7 rfl ?_
  refine zp_callS hcx (k := 153) (as := [.int b]) (rest := []) rfl ce_gain we_0 we_1 dX11_rests_8 (gn b) rfl rfl (by decide) hrm ?_
  refine zp_if_eq hcx (tgt := 21) (by decide) dX11_rests_11 (fun q => ?_) (fun q2 => ?_)
  · have hA := b2i_z q
    exact hT (by rw [rsV, Bool.eq_false_iff.mpr hA, Bool.and_false]; rfl) 21 _ (Or.inl rfl)
  refine zp_iload_n hcx (i := 3) rfl dX11_rests_14 rfl ?_
  refine zp_callS hcx (k := 153) (as := [.int g]) (rest := []) rfl ce_gain we_0 we_1 dX11_rests_15 (gn g) rfl rfl (by decide) hrm ?_
  refine zp_if_ne hcx (tgt := 29) (by decide) dX11_rests_18 (fun q3 => ?_) (fun q => ?_)
  · have e1 := b2i_nn q1
    have e2 := b2i_nn q2
    have e3 := b2i_nn q3
    have ev : rsV a b g x = rsL a b g x 4 0 0 := by rw [rsV, e1, e2, e3]; rfl
    refine zp_iconst hcx (v := 0) (by decide) dX11_rests_29 ?_
    refine zp_istore hcx dX11_rests_30 (show 5 < 7 by decide) ?_
    refine zp_iconst hcx (v := 0) (by decide) dX11_rests_32 ?_
    refine zp_istore hcx dX11_rests_33 (show 6 < 7 by decide) ?_
    exact wr_loop hcx hrm 4 0 0 rfl (fun v hv => hR v (ev.trans hv)) (fun hv ls => hT (ev.trans hv) 80 ls (Or.inr rfl))
  · have hA := b2i_z q
    exact hT (by rw [rsV, Bool.eq_false_iff.mpr hA, Bool.and_false]; rfl) 21 _ (Or.inl rfl)
end RST
/-! ===== the class's rests: its contract, either way ===== -/
theorem wsW_H {w : WD} {h : AHP} (h1 : 201 ≤ h.2.2.2) : wsW w (rsH h) = wsW w h := by
  have e1 : min (h.2.2.2 + 1) NT = NT := Nat.min_eq_right (show 201 ≤ h.2.2.2 + 1 by omega)
  have e2 : min h.2.2.2 NT = NT := Nat.min_eq_right (show 201 ≤ h.2.2.2 by omega)
  show (List.range (min (h.2.2.2 + 1) NT)).map (fun j => (w.1 + j, en w h (j + 1))) = (List.range (min h.2.2.2 NT)).map (fun j => (w.1 + j, en w h (j + 1)))
  rw [e1, e2]
theorem Hold_H {w : WD} {h : AHP} {H H1 : Heap} (h1 : 201 ≤ h.2.2.2) (h2 : h.2.2.2 < 80000) (hH : Hold w h H) (hz : H.size < H1.size) (hk : ∀ q : Nat, q < H.size → H1[q]? = H[q]?) : Hold w (rsH h) H1 := by
  obtain ⟨a1, a2, a3, a4, a5⟩ := hH
  refine ⟨?_, ?_, fun q hq => ?_, ?_, a5⟩
  · show w.1 + (h.2.2.2 + 1) ≤ H1.size
    omega
  · rw [wsW_H h1]
    exact fun k q hq => (a2 k q hq).kept (hk _ (a2 k q hq).lt)
  · rw [hk q (by omega)]; exact a3 q hq
  · show h.2.2.2 + 1 < 90000
    omega
theorem sl_H {h : AHP} (h1 : 201 ≤ h.2.2.2) : sl (h.2.2.2 + 1) = sl h.2.2.2 + 8 := by
  rw [sl_succ, lay_big (by omega)]
def asR (a b g x : Int32) : List Value := [.ref 1, .int a, .int b, .int g, .int x]
theorem vr_S {w : WD} {l : Launch} {d : Nat} {h : AHP} {a b g x v : Int32} (hv : rsV a b g x = some v) : MetM w l muR (d + 3) (asR a b g x) h (some (.int v), h) := by
  refine Met.ofW (cc := cX11_rests) (maxL := 7) (ret := some .int) (by decide) rfl ?_
  intro p e s m args below meth c s₁ B hml hpc
  obtain ⟨rfl, hSt, hH, hsz⟩ := hpc
  have hts := atoms_spec (ws := wsM muR) B.pre
  rw [lg_entry_eq]
  refine wr_all (w := w) (d := d) (n0 := h.2.2.2) (h := h) (a := a) (b := b) (g := g) (x := x) ⟨B.exec, B.bytes, hml, findClass_of_methodNamed B.named, fun x hx => hts x (List.mem_cons_of_mem _ hx), hSt, B.returns, B.notSynchronized, ⟨Nat.le_refl _, Nat.le_refl _⟩, by rw [hsz]; exact Nat.le_add_right _ _, hH.2.2.1, (name_of_methodNamed B.named B.method).1⟩ ⟨Nat.le_add_left _ _, Nat.le_add_left _ _⟩ (fun v' q pc ls hpc => ?_) (fun q => by rw [hv] at q; cases q) s.heap [] 0 0 _ ⟨hH, va_S.rf, Nat.zero_add _, Nat.zero_add _, hsz⟩ (LR_entry (w := w) (n := 7) (as := asR a b g x) (show 5 ≤ 7 by decide))
  rw [hv] at q
  cases q
  intro H locs cells slots lsA hpt hlr
  have e1 : cells = h.2.2.2 - h.2.2.2 := by have := hpt.2.2.1; omega
  have e2 : slots = sl h.2.2.2 - sl h.2.2.2 := by have := hpt.2.2.2.1; omega
  subst e1; subst e2
  have hlocks := B.notSynchronized
  have hd : decode cX11_rests pc = .ok (.ireturn, 1) := by
    rcases hpc with rfl | rfl
    · exact dX11_rests_64
    · exact dX11_rests_90
  exact W.iret B.exec B.bytes B.returns (fun t ht _ => ⟨rfl, by rw [ht]; exact hpt.1, hpt.2.1.F ht⟩) hpt.2.1.2.2 hd
theorem thr_good : GoodIn lw_tbl ((vx_at0 RX11 261 XN ["java/lang/RuntimeException", "java/lang/Exception"]).filter goodWord) := goodIn_of _ (by decide +kernel)
theorem thr_rest : ∀ x ∈ (vx_at0 RX11 261 XN ["java/lang/RuntimeException", "java/lang/Exception"]).filter (fun x => !goodWord x), x ∈ thW := by decide +kernel
theorem thr_ot : ∀ x ∈ Cond.classLink RX11 259 XN :: Cond.initialized XN :: vx_at0 RX11 261 XN ["java/lang/RuntimeException", "java/lang/Exception"], vx_ot x = true := by decide +kernel
theorem we_7 : Cond.classLink RX11 259 XN ∈ WSg := wdm 1003 (by decide +kernel) (by decide +kernel)
theorem we_8 : Cond.initialized XN ∈ WSg := List.mem_filter.mpr ⟨by decide +kernel, by decide +kernel⟩
def XCR (w : WD) (h : AHP) : String → State → State → Prop := fun E st t => E = XN ∧ Hold w (rsH h) t.heap ∧ va_F (wA w) st t
theorem vr_N {w : WD} {l : Launch} (hl : l.stackTraces = false) {d : Nat} {h : AHP} {a b g x : Int32} (hv : rsV a b g x = none) (h1 : 201 ≤ h.2.2.2) (h2 : h.2.2.2 < 80000) : vx_Met l yX11_rests (wsM muR) (rmM (d + 5) 1 8) (PcM w (asR a b g x) h) (fun _ _ _ _ => False) (XCR w h) 1 8 (wA w) := by
  refine vx_ofW (cc := cX11_rests) (maxL := 7) (ret := some .int) (by decide) rfl ?_
  intro p e s m args below meth c s₁ B hml hnt hpc
  obtain ⟨rfl, hSt, hH, hsz⟩ := hpc
  have hts := atoms_spec (ws := wsM muR) B.pre
  have hw : ∀ y ∈ WSg, y.before ((asR a b g x).map (vv w)).toArray s = true := fun y hy => hts y (List.mem_cons_of_mem _ hy)
  rw [lg_entry_eq]
  have hcx : Cx w muR (d + 2 + 3) p (headSpec (wsM muR) (rmM (d + 5) 1 8)).room s m ((asR a b g x).map (vv w)).toArray meth c := ⟨B.exec, B.bytes, hml, findClass_of_methodNamed B.named, hw, hSt, B.returns, B.notSynchronized, ⟨Nat.le_refl _, Nat.le_refl _⟩, by rw [hsz]; exact Nat.le_add_right _ _, hH.2.2.1, (name_of_methodNamed B.named B.method).1⟩
  refine wr_all (w := w) (d := d + 2) (n0 := h.2.2.2) (h := h) (a := a) (b := b) (g := g) (x := x) hcx ⟨Nat.le_add_left _ _, Nat.le_add_left _ _⟩ (fun v' q => by rw [hv] at q; cases q) (fun _ pc ls hpc => ?_) s.heap [] 0 0 _ ⟨hH, va_S.rf, Nat.zero_add _, Nat.zero_add _, hsz⟩ (LR_entry (w := w) (n := 7) (as := asR a b g x) (show 5 ≤ 7 by decide))
  intro H locs cells slots lsA hpt hlr
  have e1 : cells = 0 := by have := hpt.2.2.1; omega
  have e2 : slots = 0 := by have := hpt.2.2.2.1; omega
  subst e1; subst e2
  have hTh := hSt.2.2.2.2.2.2.2.2.2.2.2.2.2.2
  have hkp : ∀ q : Nat, q < w.2.2.2.2.2.size → ¬ wA w q → s.heap[q]? = w.2.2.2.2.2[q]? := fun q _ hn => hH.2.2.1 q (Nat.lt_of_not_le hn)
  have hat : ∀ y ∈ vx_at0 RX11 261 XN ["java/lang/RuntimeException", "java/lang/Exception"], y.before ((asR a b g x).map (vv w)).toArray s = true := vx_hat (fun y hy => hw y (List.mem_filter.mpr ⟨(thr_good y hy).1, (List.mem_filter.mp hy).2⟩)) thr_rest (fun y hy => hTh.2.2 y hy _)
  have hxx : ∀ t : State, s.vm.Alike t.vm → H.size < t.heap.size → (∀ q : Nat, q < H.size → t.heap[q]? = H[q]?) → XCR w h XN s t := fun t _ hz hk => ⟨rfl, Hold_H h1 h2 hpt.1 hz hk, Nat.le_trans hpt.2.1.1 (Nat.le_of_lt hz), fun q hq hn => by rw [hk q (Nat.lt_of_lt_of_le hq hpt.2.1.1)]; exact hpt.2.1.2.1 q hq hn⟩
  have go : ∀ q : Nat, decode cX11_rests q = .ok (.new 259, 3) → decode cX11_rests (q + 3) = .ok (.dup, 1) → decode cX11_rests (q + 4) = .ok (.invokespecial 261, 3) → decode cX11_rests (q + 7) = .ok (.athrow, 1) → W p l e (headSpec (wsM muR) (rmM (d + 5) 1 8)).room s m ((asR a b g x).map (vv w)).toArray below meth c H locs 0 0 (vx_MQ below (fun _ _ _ _ => False) (XCR w h) ((asR a b g x).map (vv w)).toArray s 1 8 (wA w)) (F0 m q lsA []) := fun q d0 d3 d4 d7 =>
    vx_throw0s (cc := cX11_rests) B.exec B.bytes hl (own := RX11) (cls := XN) (names := ["java/lang/RuntimeException", "java/lang/Exception"]) (ik := 259) (ic := 261) (A := wA w) (findClass_of_methodNamed B.named) (by decide +kernel) (by decide +kernel) (hw _ we_7) (hw _ we_8) hat thr_ot (hTh.1.kept hkp) (hTh.2.1.kept hkp) hpt.2.1 (by rw [hlr.1, hml]; rfl) d0 d3 d4 d7 (fun x hx => (hnt x hx).elim) (by show 2 + 3 < d + 5 + 1; omega) (by show 0 + (13 * (2 + 1) + 42) ≤ 60 * (d + 5 + 1); omega) (by show 0 + 1 ≤ 1; omega) (by show 0 + 6 ≤ 8; omega) B.notSynchronized hxx hpt.2.1.2.2 (by omega) (by omega)
  rcases hpc with rfl | rfl
  · exact go 21 dX11_rests_21 dX11_rests_24 dX11_rests_25 dX11_rests_28
  · exact go 80 dX11_rests_80 dX11_rests_83 dX11_rests_84 dX11_rests_87
/-! ===== the law's own rests: a call that may throw, and its catching ===== -/
def muLR : MR := (RL, yL_rests, cL_rests, 7, some .int)
def hhL : List (Nat × Nat × Nat × Nat) := [(0, 14, 17, 13)]
def wsLR : List Cond := Cond.codeWith yL_rests cL_rests 7 (some .int) hhL :: WSg
theorem we_9 : Cond.codeWith yL_rests cL_rests 7 (some .int) hhL ∈ WSg := wdm 994 (by decide +kernel) (by decide +kernel)
theorem we_10 : Cond.methodLink RL 177 yL_rests ∈ WSg := wdm 992 (by decide +kernel) (by decide +kernel)
theorem we_11 : Cond.static yL_rests ∈ WSg := wdm 993 (by decide +kernel) (by decide +kernel)
theorem we_12 : Cond.classLink RL 13 XN ∈ WSg := wdm 995 (by decide +kernel) (by decide +kernel)
theorem we_13 : Cond.methodLink RL 7 yX11_rests ∈ WSg := wdm 996 (by decide +kernel) (by decide +kernel)
theorem we_14 : Cond.instanceMethod yX11_rests ∈ WSg := wdm 997 (by decide +kernel) (by decide +kernel)
theorem we_15 : Cond.selects RX11 yX11_rests yX11_rests ∈ WSg := wdm 998 (by decide +kernel) (by decide +kernel)
theorem we_16 : Cond.initialized RL ∈ WSg := wdm 0 (by decide +kernel) (by decide +kernel)
theorem ce_rs : CalOK muR 4 := ⟨we_6, wd_908, by decide, by decide +kernel⟩
section WPS2
variable {w : WD} {l : Launch} {μ : MR} {d : Nat} {p : Program} {e : Env} {R : Room} {s : State} {m : MethodId} {args : Array Value} {below : List Frame} {meth : Method} {c : Code} {n0 : Nat} {Z : State → Prop} {pc : Nat} {ls : ALS} {st : List Value} {h : AHP}
theorem zp_i2l (hcx : Cx w μ d p R s m args meth c) {x : Int32} (hd : decode μ.2.2.1 pc = .ok (.i2l, 1)) (k : WP w l μ p e R s m args below meth c n0 Z (pc + 1) ls (.long (Int32.toInt64 x) :: st) h) : WP w l μ p e R s m args below meth c n0 Z pc ls (.int x :: st) h :=
  fun H locs cells slots lsA hpt hlr => lv_i2l hcx.1 hcx.2.1 hd rfl (k H locs cells slots lsA hpt hlr)
theorem zp_last (hcx : Cx w μ d p R s m args meth c) {a : Nat} {i : Int32} {x : Int64} (hd : decode μ.2.2.1 pc = .ok (.lastore, 1)) (hok : okc h a 21) (hi : ¬ (i < 0 ∨ (lay a).2 ≤ i.toNatClampNeg)) (kk : WP w l μ p e R s m args below meth c n0 Z (pc + 1) ls st (sJ h a i.toNatClampNeg x)) : WP w l μ p e R s m args below meth c n0 Z pc ls (.long x :: .int i :: .ref a :: st) h :=
  fun H locs cells slots lsA hpt hlr => by
    have he := ws_at (w := w) hok
    rw [en_long hok.1] at he
    have hset : (wsW w h).set (a - 1) (sg w a, .inl (w.2.2.2.2.1 21, (lay a).2, .inr (.inl (vp_updL (h.2.1 a) i.toNatClampNeg x)))) = wsW w (sJ h a i.toNatClampNeg x) := wsW_set rfl (fun b hb => en_sJ hb) hok.2.1 (by rw [en_long hok.1]; unfold sJ vp_updL; dsimp only; rw [up2_eq]) hok.2.2.2
    exact va_last hcx.1 hcx.2.1 hcx.2.2.2.2.2.1.1 hpt.1.2.1 wsW_D hpt.S0 (a - 1) 1 he rfl hi hd (fun H1 locs1 k1 k2 k3 => by
      rw [hset] at k1
      exact kk H1 locs1 cells slots lsA (hpt.put k1 k3 rfl (scr_sJ hpt.1.2.2.2.2)) hlr)
theorem zp_callV (hcx : Cx w μ d p R s m args meth c) {μ' : MR} {j idx d' a cc : Nat} {C0 : String} {T : u_T} {N : Nat} {ty : Nat → FieldType} (hc : ClsOK cc C0 T N ty) (hok : okc h a cc) {v : Value} {as rest : List Value} (hdd : d = d' + 1) (hm : CalOK μ' j) (hC0 : μ'.2.1.cls = C0) (hw : Cond.methodLink μ.1 idx μ'.2.1 ∈ WSg) (hw2 : Cond.instanceMethod μ'.2.1 ∈ WSg) (hw3 : Cond.selects C0 μ'.2.1 μ'.2.1 ∈ WSg) (hd : decode μ.2.2.1 pc = .ok (.invokevirtual idx, 3)) (hM : MetM w l μ' d' (.ref a :: as) h (some v, h)) (hj : as.length = j) (hst : st = as.reverse ++ .ref a :: rest) (hr8 : (rest.map fun v => v.category).sum ≤ 8) (hrm : h.2.2.2 ≤ R.cells + n0 ∧ sl h.2.2.2 ≤ R.slots + sl n0) (kk : WP w l μ p e R s m args below meth c n0 Z (pc + 3) ls (v :: rest) h) : WP w l μ p e R s m args below meth c n0 Z pc ls st h :=
  fun H locs cells slots lsA hpt hlr => W_size fun hz => by
    have hR := hcx.2.2.2.2.2.2.2.2.1
    have hst2 : st.map (vv w) = (as.map (vv w)).reverse ++ .ref (sg w a) :: rest.map (vv w) := by
      rw [hst, List.map_append, List.map_reverse]; rfl
    have a1 := hpt.2.2.1
    have a2 := hpt.2.2.2.1
    have he := ws_at (w := w) hok
    rw [en_obj hok.1 hc.2.2.2.2.1] at he
    have hrec := va_recv hcx.2.2.2.2.2.1.1 hpt.1.2.1 hc.1 he
    subst hC0
    rw [hst2]
    refine am_after (r1 := (some v, h)) hpt (Nat.le_refl _) (va_runV (As := as.map (vv w)) (rest := rest.map (vv w)) (n := j) (bytes := μ'.2.2.1) (maxL := μ'.2.2.2.1) (ret := μ'.2.2.2.2) ⟨hcx.1, hcx.2.1, hcx.2.2.1, hcx.2.2.2.1, hcx.2.2.2.2.1⟩ hM ⟨callB_of j hcx.2.2.2.2.1 (good_l (ws_all hm)) rfl rfl rfl (hcx.2.2.2.2.1 _ hm.2.1) (hcx.2.2.2.2.1 _ hw) hm.2.2.2 ⟨by show d' + 1 + 1 ≤ _; omega, by show 8 + (_ + 11) + 60 * (d' + 1) ≤ _; have := hm.2.2.1; omega⟩, hcx.2.2.2.2.1 _ hw2, hcx.2.2.2.2.1 _ hw3⟩ ⟨blind_PcM, hrec, pc_PcM (as := .ref a :: as) hcx.2.2.2.2.2.1 hpt.1 (hpt.size hz)⟩ rfl (by rw [List.length_map]; exact hj) hlr.1 rfl (lv_room (by rw [cat_map]; exact hr8)) hd ⟨by show cells + (h.2.2.2 - h.2.2.2) ≤ _; omega, by show slots + (sl h.2.2.2 - sl h.2.2.2) ≤ _; omega⟩) (fun H1 locs1 hp1 => ?_)
    exact kk H1 locs1 _ _ lsA hp1 hlr
end WPS2
def asL (a b g x : Int32) : List Value := [.ref 1, .int a, .int b, .int g, .int x, .ref 201]
def nX : String → State → State → Prop := fun _ _ _ => False
theorem lr_S {w : WD} {l : Launch} {d : Nat} {h : AHP} {a b g x v : Int32} (hv : rsV a b g x = some v) (h1 : 201 ≤ h.2.2.2) : vx_Met l yL_rests wsLR (rmM (d + 6) 0 0) (PcM w (asL a b g x) h) (QcM w (some (.int 0), sJ h 201 0 (Int32.toInt64 v))) nX 0 0 (wA w) := by
  refine vx_ofWH (cc := cL_rests) (maxL := 7) (ret := some .int) (hh := hhL) (by decide) rfl ?_
  intro p e s m args below meth c s₁ B hml hpc
  obtain ⟨rfl, hSt, hH, hsz⟩ := hpc
  have hts := atoms_spec (ws := wsLR) B.pre
  rw [lg_entry_eq]
  have hcx : Cx w muLR (d + 6) p (headSpec wsLR (rmM (d + 6) 0 0)).room s m ((asL a b g x).map (vv w)).toArray meth c := ⟨B.exec, B.bytes, hml, findClass_of_methodNamed B.named, fun y hy => hts y (List.mem_cons_of_mem _ hy), hSt, B.returns, B.notSynchronized, ⟨Nat.le_refl _, Nat.le_refl _⟩, by rw [hsz]; exact Nat.le_add_right _ _, hH.2.2.1, (name_of_methodNamed B.named B.method).1⟩
  have k0 : WP w l muLR p e (headSpec wsLR (rmM (d + 6) 0 0)).room s m ((asL a b g x).map (vv w)).toArray below meth c h.2.2.2 (vx_MQ below (QcM w (some (.int 0), sJ h 201 0 (Int32.toInt64 v))) nX ((asL a b g x).map (vv w)).toArray s 0 0 (wA w)) 0 [some (.ref 1), some (.int a), some (.int b), some (.int g), some (.int x), some (.ref 201), none] [] h := by
    refine zp_aload hcx dL_rests_0 rfl ?_
    refine zp_iconst hcx (v := 0) (by decide) dL_rests_2 ?_
    refine zp_aload_n hcx (i := 0) rfl dL_rests_3 rfl ?_
    refine zp_iload_n hcx (i := 1) rfl dL_rests_4 rfl ?_
    refine zp_iload_n hcx (i := 2) rfl dL_rests_5 rfl ?_
    refine zp_iload_n hcx (i := 3) rfl dL_rests_6 rfl ?_
    refine zp_iload hcx dL_rests_7 rfl ?_
    refine zp_callV hcx (μ' := muR) (a := 1) (as := [.int a, .int b, .int g, .int x]) (rest := [.int 0, .ref 201]) ck_10 ⟨by decide, by decide, by omega, by decide⟩ rfl ce_rs rfl we_13 we_14 we_15 dL_rests_9 (vr_S (d := d + 2) hv) rfl rfl (by decide) ⟨Nat.le_add_left _ _, Nat.le_add_left _ _⟩ ?_
    refine zp_i2l hcx dL_rests_12 ?_
    refine zp_last hcx (a := 201) (i := 0) dL_rests_13 ⟨by decide, by decide, h1, by decide⟩ (by decide) ?_
    refine zp_goto hcx (tgt := 21) (by decide) dL_rests_14 ?_
    refine zp_iconst hcx (v := 0) (by decide) dL_rests_21 ?_
    intro H locs cells slots lsA hpt hlr
    have e1 : cells = 0 := by have : cells + h.2.2.2 = h.2.2.2 := hpt.2.2.1; omega
    have e2 : slots = 0 := by have : slots + sl h.2.2.2 = sl h.2.2.2 := hpt.2.2.2.1; omega
    subst e1; subst e2
    have hlocks := B.notSynchronized
    exact vx_ret (W.iret B.exec B.bytes B.returns (fun t ht _ => ⟨rfl, by rw [ht]; exact hpt.1, hpt.2.1.F ht⟩) hpt.2.1.2.2 dL_rests_22)
  exact k0 s.heap [] 0 0 _ ⟨hH, va_S.rf, Nat.zero_add _, Nat.zero_add _, hsz⟩ (LR_entry (w := w) (n := 7) (as := asL a b g x) (show 6 ≤ 7 by decide))
theorem lr_N {w : WD} {l : Launch} (hl : l.stackTraces = false) {d : Nat} {h : AHP} {a b g x : Int32} (hv : rsV a b g x = none) (h1 : 201 ≤ h.2.2.2) (h2 : h.2.2.2 < 80000) : vx_Met l yL_rests wsLR (rmM (d + 6) 1 8) (PcM w (asL a b g x) h) (QcM w (some (.int 1), rsH h)) nX 1 8 (wA w) := by
  refine vx_ofWH (cc := cL_rests) (maxL := 7) (ret := some .int) (hh := hhL) (by decide) rfl ?_
  intro p e s m args below meth c s₁ B hml hpc
  obtain ⟨rfl, hSt, hH, hsz⟩ := hpc
  have hts := atoms_spec (ws := wsLR) B.pre
  have hsplit := vx_table (x := yL_rests) B (hts _ List.mem_cons_self)
  rw [lg_entry_eq]
  have hcx : Cx w muLR (d + 6) p (headSpec wsLR (rmM (d + 6) 1 8)).room s m ((asL a b g x).map (vv w)).toArray meth c := ⟨B.exec, B.bytes, hml, findClass_of_methodNamed B.named, fun y hy => hts y (List.mem_cons_of_mem _ hy), hSt, B.returns, B.notSynchronized, ⟨Nat.le_refl _, Nat.le_refl _⟩, by rw [hsz]; exact Nat.le_add_right _ _, hH.2.2.1, (name_of_methodNamed B.named B.method).1⟩
  have hTh := hSt.2.2.2.2.2.2.2.2.2.2.2.2.2.2
  have hR := hcx.2.2.2.2.2.2.2.2.1
  have k0 : WP w l muLR p e (headSpec wsLR (rmM (d + 6) 1 8)).room s m ((asL a b g x).map (vv w)).toArray below meth c h.2.2.2 (vx_MQ below (QcM w (some (.int 1), rsH h)) nX ((asL a b g x).map (vv w)).toArray s 1 8 (wA w)) 0 [some (.ref 1), some (.int a), some (.int b), some (.int g), some (.int x), some (.ref 201), none] [] h := by
    refine zp_aload hcx dL_rests_0 rfl ?_
    refine zp_iconst hcx (v := 0) (by decide) dL_rests_2 ?_
    refine zp_aload_n hcx (i := 0) rfl dL_rests_3 rfl ?_
    refine zp_iload_n hcx (i := 1) rfl dL_rests_4 rfl ?_
    refine zp_iload_n hcx (i := 2) rfl dL_rests_5 rfl ?_
    refine zp_iload_n hcx (i := 3) rfl dL_rests_6 rfl ?_
    refine zp_iload hcx dL_rests_7 rfl ?_
    intro H locs cells slots lsA hpt hlr
    refine W_size fun hz => ?_
    have e1 : cells = 0 := by have : cells + h.2.2.2 = h.2.2.2 := hpt.2.2.1; omega
    have e2 : slots = 0 := by have : slots + sl h.2.2.2 = sl h.2.2.2 := hpt.2.2.2.1; omega
    subst e1; subst e2
    have hok : okc h 1 10 := ⟨by decide, by decide, by omega, by decide⟩
    have he := ws_at (w := w) hok
    rw [en_obj hok.1 (ck_10).2.2.2.2.1] at he
    have hrec := va_recv hcx.2.2.2.2.2.1.1 hpt.1.2.1 (ck_10).1 he
    have hr := vx_runV (p := p) (l := l) (e := e) (R := (headSpec wsLR (rmM (d + 6) 1 8)).room) (below := below) (meth := meth) (locs := locs) (cells := 0) (slots := 0) (b := sg w 1) (As := [.int a, .int b, .int g, .int x]) (rest := [.int 0, .ref (sg w 201)]) (n := 4) (bytes := cX11_rests) (maxL := 7) (ret := some .int) (g := F0 m 9 lsA [.int x, .int g, .int b, .int a, .ref (sg w 1), .int 0, .ref (sg w 201)]) ⟨hcx.1, hcx.2.1, hcx.2.2.1, hcx.2.2.2.1, hcx.2.2.2.2.1⟩ (vr_N (w := w) (d := d) hl hv h1 h2) ⟨callB_of 4 hcx.2.2.2.2.1 (good_l (ws_all ce_rs)) rfl rfl rfl (hcx.2.2.2.2.1 _ wd_908) (hcx.2.2.2.2.1 _ we_13) ce_rs.2.2.2 ⟨by show d + 5 + 1 + 1 ≤ _; omega, by show 8 + (7 + 11) + 60 * (d + 5 + 1) ≤ _; omega⟩, hcx.2.2.2.2.1 _ we_14, hcx.2.2.2.2.1 _ we_15⟩ ⟨blind_PcM, hrec, pc_PcM (as := asR a b g x) hcx.2.2.2.2.2.1 hpt.1 (hpt.size hz)⟩ rfl rfl hlr.1 rfl (lv_room (show 2 ≤ 8 by decide)) dL_rests_9 ⟨by show 0 + 1 ≤ 1; omega, by show 0 + 8 ≤ 8; omega⟩
    intro T hT X
    rcases hr T hT X with ⟨v, st₀, t, T', L, q0, X', hL, e1, e2, hF, st⟩ | ⟨q, st₀, t, T', L, E, ce, q0, X', hL, e1, e2, hX, hce, hcv, hcl, st⟩
    · exact hF.elim
    · obtain ⟨hE, hH2, hF⟩ := hX
      subst hE
      have hlr2 := hlr
      have hlocks := B.notSynchronized
      have hS2 : va_S (wA w) s.heap T'.heap (locs ++ L) := by
        rw [e1]
        have f1 := hF.1
        have f2 := hF.2
        rw [q0] at f1 f2
        exact ⟨Nat.le_trans hpt.2.1.1 f1, fun z hz1 hz2 => by rw [f2 z (Nat.lt_of_lt_of_le hz1 hpt.2.1.1) hz2]; exact hpt.2.1.2.1 z hz1 hz2, fun z hz1 => by
          rcases List.mem_append.mp hz1 with g1 | g1
          · exact hpt.2.1.2.2 z g1
          · exact hL z g1⟩
      have kW : W p l e (headSpec wsLR (rmM (d + 6) 1 8)).room s m ((asL a b g x).map (vv w)).toArray below meth c T'.heap (locs ++ L) 1 8 (vx_MQ below (QcM w (some (.int 1), rsH h)) nX ((asL a b g x).map (vv w)).toArray s 1 8 (wA w)) (F0 m 17 lsA [.ref q]) :=
        lv_astore hcx.1 hcx.2.1 dL_rests_17 hlr.has (show 6 < 7 by decide) rfl (fun ls2 _ => lv_iconst (v := 1) hcx.1 hcx.2.1 dL_rests_19 (by decide) (vx_ret (W.iret B.exec B.bytes B.returns (fun t9 ht9 _ => ⟨rfl, by rw [ht9, e1]; exact hH2, hS2.F ht9⟩) hS2.2.2 dL_rests_20)))
      have kx := vx_catch (own := RL) (name := XN) (pc := 9) (ls := lsA) (rest := [.int 0, .ref (sg w 201)]) hcx.2.2.2.1 [] ⟨0, 14, 17, 13⟩ [] hsplit (fun z hz => nomatch hz) (by decide) (by decide) (hcx.2.2.2.2.1 _ we_12) (hTh.2.2 _ List.mem_cons_self _) (by rw [e1]; exact hce) hcv hcl kW
      obtain ⟨t2, b1, b2⟩ := kx T' rfl X'
      exact ⟨t2, st.trans b1, b2⟩
  exact k0 s.heap [] 0 0 _ ⟨hH, va_S.rf, Nat.zero_add _, Nat.zero_add _, hsz⟩ (LR_entry (w := w) (n := 7) (as := asL a b g x) (show 6 ≤ 7 by decide))
/-! ===== the law's call of it ===== -/
def SndL (w : WD) (l : Launch) (mt : Nat → MR) (μ : MR) (pc : Nat) (op : AOP) : Prop :=
  ∀ d C G r ls st h, 10 ≤ d → CallsOK w l mt d C → op C G ls st h = some r → (∀ pc' ls' st' h', G pc' ls' st' h' = some r → WG w l μ d r pc' ls' st' h') → WG w l μ d r pc ls st h
theorem snd_L {w : WD} {l : Launch} {mt : Nat → MR} {μ : MR} {pc : Nat} {op : AOP} (h : SndOp w l mt μ pc op) : SndL w l mt μ pc op := fun d C G r ls st h1 _ => h d C G r ls st h1
theorem rs_call {w : WD} {l : Launch} {d : Nat} {p : Program} {e : Env} {R : Room} {s : State} {m : MethodId} {args : Array Value} {below : List Frame} {meth : Method} {c : Code} {n0 : Nat} {Z : State → Prop} {H : Heap} {locs : List Loc} {cells slots : Nat} {lsA : Array Slot} {ls : ALS} {h : AHP} {r1 : ARS} {a b g x : Int32} {mc ms : Nat} (hd : 10 ≤ d) (hM : vx_Met l yL_rests wsLR (rmM (d - 4) mc ms) (PcM w (asL a b g x) h) (QcM w r1) nX mc ms (wA w)) (hle : r1.2.2.2.2 = h.2.2.2 + mc) (hsl : sl r1.2.2.2.2 = sl h.2.2.2 + ms) (hcx : Cx w muL d p R s m args meth c) (hpt : Pt w h s n0 H locs cells slots) (hrm : cells + mc ≤ R.cells ∧ slots + ms ≤ R.slots) (hlr : LR w 7 ls lsA)
    (kk : ∀ H1 locs1, Pt w r1.2 s n0 H1 locs1 (cells + mc) (slots + ms) → W p l e R s m args below meth c H1 locs1 (cells + mc) (slots + ms) Z (F0 m 1192 lsA ((r1.1.map (vv w)).toList))) : W p l e R s m args below meth c H locs cells slots Z (F0 m 1189 lsA ((asL a b g x).map (vv w)).reverse) := W_size fun hz => by
  have hR := hcx.2.2.2.2.2.2.2.2.1
  have hgd : GoodIn WSg (va_wsS RL 177 yL_rests wsLR) := good_l (fun y hy => by
    rcases List.mem_append.mp hy with q | q
    · rcases List.mem_cons.mp q with rfl | q
      · exact we_10
      rcases List.mem_cons.mp q with rfl | q
      · exact we_11
      rcases List.mem_cons.mp q with rfl | q
      · exact we_16
      · exact nomatch q
    · rcases List.mem_cons.mp q with rfl | q
      · exact we_9
      · exact q)
  have hr := vx_runSX (p := p) (l := l) (e := e) (below := below) (meth := meth) (locs := locs) (cells := cells) (slots := slots) (H := H) (As := (asL a b g x).map (vv w)) (rest := []) (n := 6) (bytes := cL_rests) (maxL := 7) (ret := some .int) (hh := hhL) (g := F0 m 1189 lsA ((asL a b g x).map (vv w)).reverse) ⟨hcx.1, hcx.2.1, hcx.2.2.1, hcx.2.2.2.1, hcx.2.2.2.2.1⟩ hM (vx_cwSW 6 hcx.2.2.2.2.1 hgd rfl rfl rfl (by decide +kernel) ⟨by show d - 4 + 1 + 1 ≤ _; omega, by show 8 + (7 + 11) + 60 * (d - 4 + 1) ≤ _; omega⟩) ⟨blind_PcM, pc_PcM (as := asL a b g x) hcx.2.2.2.2.2.1 hpt.1 (hpt.size hz)⟩ rfl rfl hlr.1 (List.append_nil _).symm (lv_room (show (([] : List Value).map fun v => v.category).sum ≤ 8 by decide)) dL_law_1189 hrm
  intro T hT X
  rcases hr T hT X with ⟨v, st₀, t, T', L, h0, X', hL, e1, e2, ⟨hv, hH, hz2, hk⟩, st⟩ | ⟨q, st₀, t, T', L, E, ce, h0, X', hL, e1, e2, hX, hce, hcv, hcl, st⟩
  · cases hv
    rw [h0] at hz2 hk
    obtain ⟨⟨a1, a2, a3, a4, a5⟩, ⟨b1, b2, b3⟩, c1, c2, c3⟩ := hpt
    obtain ⟨t2, x1, x2⟩ := kk T'.heap (locs ++ L) ⟨by rw [e1]; exact hH, ⟨by rw [e1]; exact Nat.le_trans b1 hz2, fun q h1 h2 => by rw [e1, hk q (Nat.lt_of_lt_of_le h1 b1) h2]; exact b2 q h1 h2, fun q hq => by
      rcases List.mem_append.mp hq with g1 | g1
      · exact b3 q g1
      · exact hL q g1⟩, by omega, by omega, c3⟩ T' rfl X'
    exact ⟨t2, st t2 (by rw [List.append_nil]; exact x1), x2⟩
  · exact hX.elim
theorem snd_rests {w : WD} {l : Launch} (hl : l.stackTraces = false) : SndL w l mt muL 1189 (o_rests 1192) := by
  intro d C G r ls st h hd hC ho hG
  unfold o_rests at ho
  split at ho
  · rename_i o x g b a y st1
    by_cases hc : y = 1 ∧ o = 201 ∧ 201 ≤ h.2.2.2 ∧ h.2.2.2 < 80000 ∧ st1 = []
    · rw [if_pos hc] at ho
      obtain ⟨rfl, rfl, h1, h2, rfl⟩ := hc
      obtain ⟨d9, rfl⟩ := Nat.exists_eq_add_of_le hd
      cases hv : rsV a b g x with
      | some v =>
        rw [hv] at ho
        obtain ⟨g1, g2⟩ := hG _ _ _ _ ho
        refine ⟨g1, fun p e R s m args below meth c n0 Z H locs cells slots lsA hcx hret hpt hrm hlr => ?_⟩
        refine rs_call (r1 := (some (.int 0), sJ h 201 0 (Int32.toInt64 v))) (mc := 0) (ms := 0) hd (by rw [show 10 + d9 - 4 = d9 + 6 by omega]; exact lr_S hv h1) rfl rfl hcx hpt (by have a1 := hpt.2.2.1; have a2 := hpt.2.2.2.1; have a3 := hrm.1; have a4 := hrm.2; have g1' : h.2.2.2 ≤ r.2.2.2.2 := g1; have a5 := sl_mono g1'; omega) hlr (fun H1 locs1 hp1 => ?_)
        exact g2 p e R s m args below meth c n0 Z H1 locs1 _ _ lsA hcx hret hp1 hrm hlr
      | none =>
        rw [hv] at ho
        obtain ⟨g1, g2⟩ := hG _ _ _ _ ho
        have g1' : h.2.2.2 + 1 ≤ r.2.2.2.2 := g1
        refine ⟨by omega, fun p e R s m args below meth c n0 Z H locs cells slots lsA hcx hret hpt hrm hlr => ?_⟩
        refine rs_call (r1 := (some (.int 1), rsH h)) (mc := 1) (ms := 8) hd (by rw [show 10 + d9 - 4 = d9 + 6 by omega]; exact lr_N hl hv h1 h2) rfl (sl_H h1) hcx hpt (by have a1 := hpt.2.2.1; have a2 := hpt.2.2.2.1; have a3 := hrm.1; have a4 := hrm.2; have a5 := sl_mono g1'; have a6 := sl_H h1; omega) hlr (fun H1 locs1 hp1 => ?_)
        exact g2 p e R s m args below meth c n0 Z H1 locs1 _ _ lsA hcx hret hp1 hrm hlr
    · rw [if_neg hc] at ho; cases ho
  · cases ho
