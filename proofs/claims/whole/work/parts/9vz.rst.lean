/-! ===== rests at the machine ===== -/
def muL : MR := (RL, yL_law, cL_law, 7, some .boolean)
def muR : MR := (RX11, yX11_rests, cX11_rests, 7, some .int)
theorem we_0 : Cond.methodLink RX11 256 yX11_isGain ∈ WSg := wdm 1000 (by decide +kernel) (by decide +kernel)
theorem we_1 : Cond.static yX11_isGain ∈ WSg := wdm 1001 (by decide +kernel) (by decide +kernel)
theorem we_2 : Cond.methodLink RX11 262 yX11_isAtRest ∈ WSg := wdm 1064 (by decide +kernel) (by decide +kernel)
theorem we_3 : Cond.static yX11_isAtRest ∈ WSg := wdm 1065 (by decide +kernel) (by decide +kernel)
theorem we_4 : Cond.code yX11_isGain cX11_isGain 1 (some .boolean) ∈ WSg := wdm 1002 (by decide +kernel) (by decide +kernel)
theorem we_5 : Cond.code yX11_isAtRest cX11_isAtRest 6 (some .boolean) ∈ WSg := wdm 1066 (by decide +kernel) (by decide +kernel)
theorem we_6 : Cond.code yX11_rests cX11_rests 7 (some .int) ∈ WSg := wdm 999 (by decide +kernel) (by decide +kernel)
theorem ce_gain : CalOK (mt 153) 1 := (⟨we_4, wd_908, by decide, by decide +kernel⟩ : CalOK mu_X11_isGain 1)
theorem ce_rest : CalOK (mt 154) 4 := (⟨we_5, wd_908, by decide, by decide +kernel⟩ : CalOK mu_X11_isAtRest 4)
section RST
variable {w : WD} {l : Launch} {d : Nat} {p : Program} {e : Env} {R : Room} {s : State} {m : MethodId} {args : Array Value} {below : List Frame} {meth : Method} {c : Code} {n0 : Nat} {Z : State → Prop} {h : AHP} {a b g x : Int32}
set_option maxRecDepth 8000 in
theorem wr_loop (hcx : Cx w muR (d + 3) p R s m args meth c) (hrm : h.2.2.2 ≤ R.cells + n0 ∧ sl h.2.2.2 ≤ R.slots + sl n0) : ∀ (j k : Nat) (n : Int32), k + j = 4 → (∀ v, rsL a b g x j k n = some v → ∀ pc ls, (pc = 64 ∨ pc = 90) → WP w l muR p e R s m args below meth c n0 Z pc ls [.int v] h) → (rsL a b g x j k n = none → ∀ ls, WP w l muR p e R s m args below meth c n0 Z 80 ls [] h) → WP w l muR p e R s m args below meth c n0 Z 35 [some (.ref 1), some (.int a), some (.int b), some (.int g), some (.int x), some (.int n), some (.int (nI k))] [] h := by
  intro j
  induction j with
  | zero =>
    intro k n hk hR hT
    have e4 : k = 4 := by omega
    subst e4
    refine zp_iload hcx dX11_rests_35 rfl ?_
    refine zp_iconst hcx (v := 4) (by decide) dX11_rests_37 ?_
    refine zp_icmp_ge hcx (tgt := 74) (by decide) dX11_rests_38 (fun _ => ?_) (fun q => absurd (by decide) q)
    refine zp_iload hcx dX11_rests_74 rfl ?_
    refine zp_iconst hcx (v := -1) (by decide) dX11_rests_76 ?_
    refine zp_icmp_eq hcx (tgt := 88) (by decide) dX11_rests_77 (fun q => ?_) (fun q => ?_)
    · refine zp_iload hcx dX11_rests_88 rfl ?_
      exact hR n (if_pos q) 90 _ (Or.inr rfl)
    · exact hT (if_neg q) _
  | succ j ih =>
    intro k n hk hR hT
    have hk4 : k < 4 := by omega
    rw [rsL] at hR hT
    refine zp_iload hcx dX11_rests_35 rfl ?_
    refine zp_iconst hcx (v := 4) (by decide) dX11_rests_37 ?_
    refine zp_icmp_ge hcx (tgt := 74) (by decide) dX11_rests_38 (fun q => absurd q (nI_ge (b := 4) hk4 (by decide))) (fun _ => ?_)
    refine zp_iload_n hcx (i := 1) rfl dX11_rests_41 rfl ?_
    refine zp_iload_n hcx (i := 2) rfl dX11_rests_42 rfl ?_
    refine zp_iload_n hcx (i := 3) rfl dX11_rests_43 rfl ?_
    refine zp_iload hcx dX11_rests_44 rfl ?_
    refine zp_callS hcx (k := 154) (as := [.int a, .int b, .int g, .int (nI k)]) (rest := []) rfl ce_rest we_2 we_3 dX11_rests_46 (met_MM (c_isAtRest hk4)) rfl rfl (by decide) hrm ?_
    have hN : ∀ ls2, ls2 = [some (.ref 1), some (.int a), some (.int b), some (.int g), some (.int x), some (.int n), some (.int (nI k))] → ¬ atR a b g k = true → WP w l muR p e R s m args below meth c n0 Z 68 ls2 [] h := by
      intro ls2 e2 hA
      subst e2
      rw [if_neg hA] at hR hT
      refine zp_iinc hcx (v := 1) (by decide) dX11_rests_68 rfl ?_
      refine zp_goto hcx (tgt := 35) (by decide) dX11_rests_71 ?_
      have q := ih (k + 1) n (by omega) hR hT
      rw [← nI_1] at q
      exact q
    refine zp_if_ne hcx (tgt := 55) (by decide) dX11_rests_49 (fun q => ?_) (fun q => ?_)
    · have hA := b2i_nn q
      rw [if_pos hA] at hR hT
      refine zp_iload hcx dX11_rests_55 rfl ?_
      refine zp_iload hcx dX11_rests_57 rfl ?_
      refine zp_icmp_ne hcx (tgt := 65) (by decide) dX11_rests_59 (fun q => ?_) (fun q => ?_)
      · rw [if_neg q] at hR hT
        refine zp_iinc hcx (v := 1) (by decide) dX11_rests_65 rfl ?_
        refine zp_iinc hcx (v := 1) (by decide) dX11_rests_68 rfl ?_
        refine zp_goto hcx (tgt := 35) (by decide) dX11_rests_71 ?_
        have q := ih (k + 1) (n + 1) (by omega) hR hT
        rw [← nI_1] at q
        exact q
      · rw [if_pos q] at hR
        refine zp_iload hcx dX11_rests_62 rfl ?_
        exact hR (nI k) rfl 64 _ (Or.inl rfl)
    · refine zp_goto hcx (tgt := 68) (by decide) dX11_rests_52 ?_
      exact hN _ rfl (b2i_z q)
set_option maxRecDepth 8000 in
theorem wr_all (hcx : Cx w muR (d + 3) p R s m args meth c) (hrm : h.2.2.2 ≤ R.cells + n0 ∧ sl h.2.2.2 ≤ R.slots + sl n0) (hR : ∀ v, rsV a b g x = some v → ∀ pc ls, (pc = 64 ∨ pc = 90) → WP w l muR p e R s m args below meth c n0 Z pc ls [.int v] h) (hT : rsV a b g x = none → ∀ pc ls, (pc = 21 ∨ pc = 80) → WP w l muR p e R s m args below meth c n0 Z pc ls [] h) : WP w l muR p e R s m args below meth c n0 Z 0 [some (.ref 1), some (.int a), some (.int b), some (.int g), some (.int x), none, none] [] h := by
  have gn : ∀ q : Int32, MetM w l (mt 153) (d + 2) [.int q] h (some (.int (b2i (gnP q = true))), h) := fun q => met_MM c_isGain
  refine zp_iload_n hcx (i := 1) rfl dX11_rests_0 rfl ?_
  refine zp_callS hcx (k := 153) (as := [.int a]) (rest := []) rfl ce_gain we_0 we_1 dX11_rests_1 (gn a) rfl rfl (by decide) hrm ?_
  refine zp_if_eq hcx (tgt := 21) (by decide) dX11_rests_4 (fun q => ?_) (fun q1 => ?_)
  · have hA := b2i_z q
    exact hT (by rw [rsV, Bool.eq_false_iff.mpr hA]; rfl) 21 _ (Or.inl rfl)
  refine zp_iload_n hcx (i := 2) rfl dX11_rests_7 rfl ?_
  refine zp_callS hcx (k := 153) (as := [.int b]) (rest := []) rfl ce_gain we_0 we_1 dX11_rests_8 (gn b) rfl rfl (by decide) hrm ?_
  refine zp_if_eq hcx (tgt := 21) (by decide) dX11_rests_11 (fun q => ?_) (fun q2 => ?_)
  · have hA := b2i_z q
    exact hT (by rw [rsV, Bool.eq_false_iff.mpr hA, Bool.and_false]; rfl) 21 _ (Or.inl rfl)
  refine zp_iload_n hcx (i := 3) rfl dX11_rests_14 rfl ?_
  refine zp_callS hcx (k := 153) (as := [.int g]) (rest := []) rfl ce_gain we_0 we_1 dX11_rests_15 (gn g) rfl rfl (by decide) hrm ?_
  refine zp_if_ne hcx (tgt := 29) (by decide) dX11_rests_18 (fun q3 => ?_) (fun q => ?_)
  · have e1 := b2i_nn q1
    have e2 := b2i_nn q2
    have e3 := b2i_nn q3
    have ev : rsV a b g x = rsL a b g x 4 0 0 := by rw [rsV, e1, e2, e3]; rfl
    refine zp_iconst hcx (v := 0) (by decide) dX11_rests_29 ?_
    refine zp_istore hcx dX11_rests_30 (by decide) ?_
    refine zp_iconst hcx (v := 0) (by decide) dX11_rests_32 ?_
    refine zp_istore hcx dX11_rests_33 (by decide) ?_
    exact wr_loop hcx hrm 4 0 0 rfl (fun v hv => hR v (ev.trans hv)) (fun hv ls => hT (ev.trans hv) 80 ls (Or.inr rfl))
  · have hA := b2i_z q
    exact hT (by rw [rsV, Bool.eq_false_iff.mpr hA, Bool.and_false]; rfl) 21 _ (Or.inl rfl)
end RST
/-! ===== the class's rests: its contract, either way ===== -/
theorem wsW_H {w : WD} {h : AHP} (h1 : 201 ≤ h.2.2.2) : wsW w (rsH h) = wsW w h := by
  have e1 : min (h.2.2.2 + 1) NT = NT := Nat.min_eq_right (show 201 ≤ h.2.2.2 + 1 by omega)
  have e2 : min h.2.2.2 NT = NT := Nat.min_eq_right (show 201 ≤ h.2.2.2 by omega)
  show (List.range (min (h.2.2.2 + 1) NT)).map (fun j => (w.1 + j, en w h (j + 1))) = (List.range (min h.2.2.2 NT)).map (fun j => (w.1 + j, en w h (j + 1)))
  rw [e1, e2]
theorem Hold_H {w : WD} {h : AHP} {H H1 : Heap} (h1 : 201 ≤ h.2.2.2) (h2 : h.2.2.2 < 80000) (hH : Hold w h H) (hz : H.size < H1.size) (hk : ∀ q : Nat, q < H.size → H1[q]? = H[q]?) : Hold w (rsH h) H1 := by
  obtain ⟨a1, a2, a3, a4, a5⟩ := hH
  refine ⟨?_, ?_, fun q hq => ?_, ?_, a5⟩
  · show w.1 + (h.2.2.2 + 1) ≤ H1.size
    omega
  · rw [wsW_H h1]
    exact fun k q hq => (a2 k q hq).kept (hk _ (a2 k q hq).lt)
  · rw [hk q (by omega)]; exact a3 q hq
  · show h.2.2.2 + 1 < 90000
    omega
theorem sl_H {h : AHP} (h1 : 201 ≤ h.2.2.2) : sl (h.2.2.2 + 1) = sl h.2.2.2 + 8 := by
  rw [sl_succ, lay_big (by omega)]
def asR (a b g x : Int32) : List Value := [.ref 1, .int a, .int b, .int g, .int x]
theorem vr_S {w : WD} {l : Launch} {d : Nat} {h : AHP} {a b g x v : Int32} (hv : rsV a b g x = some v) : MetM w l muR (d + 3) (asR a b g x) h (some (.int v), h) := by
  refine Met.ofW (cc := cX11_rests) (maxL := 7) (ret := some .int) (by decide) rfl ?_
  intro p e s m args below meth c s₁ B hml hpc
  obtain ⟨rfl, hSt, hH, hsz⟩ := hpc
  have hts := atoms_spec (ws := wsM muR) B.pre
  rw [lg_entry_eq]
  refine wr_all (w := w) (d := d) (n0 := h.2.2.2) (h := h) (a := a) (b := b) (g := g) (x := x) ⟨B.exec, B.bytes, hml, findClass_of_methodNamed B.named, fun x hx => hts x (List.mem_cons_of_mem _ hx), hSt, B.returns, B.notSynchronized, ⟨Nat.le_refl _, Nat.le_refl _⟩, by rw [hsz]; exact Nat.le_add_right _ _, hH.2.2.1, (name_of_methodNamed B.named B.method).1⟩ ⟨Nat.le_add_left _ _, Nat.le_add_left _ _⟩ (fun v' q pc ls hpc => ?_) (fun q => by rw [hv] at q; cases q) s.heap [] 0 0 _ ⟨hH, va_S.rf, Nat.zero_add _, Nat.zero_add _, hsz⟩ (LR_entry (w := w) (n := 7) (as := asR a b g x) (by decide +revert))
  rw [hv] at q
  cases q
  intro H locs cells slots lsA hpt hlr
  have e1 : cells = h.2.2.2 - h.2.2.2 := by have := hpt.2.2.1; omega
  have e2 : slots = sl h.2.2.2 - sl h.2.2.2 := by have := hpt.2.2.2.1; omega
  subst e1; subst e2
  have hlocks := B.notSynchronized
  have hd : decode cX11_rests pc = .ok (.ireturn, 1) := by
    rcases hpc with rfl | rfl
    · exact dX11_rests_64
    · exact dX11_rests_90
  exact W.iret B.exec B.bytes B.returns (fun t ht _ => ⟨rfl, by rw [ht]; exact hpt.1, hpt.2.1.F ht⟩) hpt.2.1.2.2 hd
theorem thr_good : GoodIn lw_tbl ((vx_at0 RX11 261 XN ["java/lang/RuntimeException", "java/lang/Exception"]).filter goodWord) := goodIn_of _ (by decide +kernel)
theorem thr_rest : ∀ x ∈ (vx_at0 RX11 261 XN ["java/lang/RuntimeException", "java/lang/Exception"]).filter (fun x => !goodWord x), x ∈ thW := by decide +kernel
theorem thr_ot : ∀ x ∈ Cond.classLink RX11 259 XN :: Cond.initialized XN :: vx_at0 RX11 261 XN ["java/lang/RuntimeException", "java/lang/Exception"], vx_ot x = true := by decide +kernel
theorem we_7 : Cond.classLink RX11 259 XN ∈ WSg := wdm 1003 (by decide +kernel) (by decide +kernel)
theorem we_8 : Cond.initialized XN ∈ WSg := List.mem_filter.mpr ⟨by decide +kernel, by decide +kernel⟩
def XCR (w : WD) (h : AHP) : String → State → State → Prop := fun E st t => E = XN ∧ Hold w (rsH h) t.heap ∧ va_F (wA w) st t
theorem vr_N {w : WD} {l : Launch} (hl : l.stackTraces = false) {d : Nat} {h : AHP} {a b g x : Int32} (hv : rsV a b g x = none) (h1 : 201 ≤ h.2.2.2) (h2 : h.2.2.2 < 80000) : vx_Met l yX11_rests (wsM muR) (rmM (d + 5) 1 8) (PcM w (asR a b g x) h) (fun _ _ _ _ => False) (XCR w h) 1 8 (wA w) := by
  refine vx_ofW (cc := cX11_rests) (maxL := 7) (ret := some .int) (by decide) rfl ?_
  intro p e s m args below meth c s₁ B hml hnt hpc
  obtain ⟨rfl, hSt, hH, hsz⟩ := hpc
  have hts := atoms_spec (ws := wsM muR) B.pre
  have hw : ∀ x ∈ WSg, x.before ((asR a b g x).map (vv w)).toArray s = true := fun x hx => hts x (List.mem_cons_of_mem _ hx)
  rw [lg_entry_eq]
  refine wr_all (w := w) (d := d + 2) (n0 := h.2.2.2) (h := h) (a := a) (b := b) (g := g) (x := x) ⟨B.exec, B.bytes, hml, findClass_of_methodNamed B.named, hw, hSt, B.returns, B.notSynchronized, ⟨Nat.le_refl _, Nat.le_refl _⟩, by rw [hsz]; exact Nat.le_add_right _ _, hH.2.2.1, (name_of_methodNamed B.named B.method).1⟩ ⟨Nat.le_add_left _ _, Nat.le_add_left _ _⟩ (fun v' q => by rw [hv] at q; cases q) (fun _ pc ls hpc => ?_) s.heap [] 0 0 _ ⟨hH, va_S.rf, Nat.zero_add _, Nat.zero_add _, hsz⟩ (LR_entry (w := w) (n := 7) (as := asR a b g x) (by decide +revert))
  intro H locs cells slots lsA hpt hlr
  have e1 : cells = 0 := by have := hpt.2.2.1; omega
  have e2 : slots = 0 := by have := hpt.2.2.2.1; omega
  subst e1; subst e2
  have hTh := hSt.2.2.2.2.2.2.2.2.2.2.2.2.2.2
  have hkp : ∀ q : Nat, q < w.2.2.2.2.2.size → ¬ wA w q → s.heap[q]? = w.2.2.2.2.2[q]? := fun q _ hn => hH.2.2.1 q (Nat.lt_of_not_le hn)
  have hat : ∀ x ∈ vx_at0 RX11 261 XN ["java/lang/RuntimeException", "java/lang/Exception"], x.before _ s = true := vx_hat (fun x hx => hw x (List.mem_filter.mpr ⟨(thr_good x hx).1, (List.mem_filter.mp hx).2⟩)) thr_rest (fun x hx => hTh.2.2 x hx _)
  have hxx : ∀ t : State, s.vm.Alike t.vm → H.size < t.heap.size → (∀ q : Nat, q < H.size → t.heap[q]? = H[q]?) → XCR w h XN s t := fun t _ hz hk => ⟨rfl, Hold_H h1 h2 hpt.1 hz hk, Nat.le_trans hpt.2.1.1 (Nat.le_of_lt hz), fun q hq hn => by rw [hk q (Nat.lt_of_lt_of_le hq hpt.2.1.1)]; exact hpt.2.1.2.1 q hq hn⟩
  have go : ∀ q : Nat, decode cX11_rests q = .ok (.new 259, 3) → decode cX11_rests (q + 3) = .ok (.dup, 1) → decode cX11_rests (q + 4) = .ok (.invokespecial 261, 3) → decode cX11_rests (q + 7) = .ok (.athrow, 1) → W p l e (headSpec (wsM muR) (rmM (d + 5) 1 8)).room s m _ below meth c H locs 0 0 (vx_MQ below (fun _ _ _ _ => False) (XCR w h) _ s 1 8 (wA w)) (F0 m q lsA []) := fun q d0 d3 d4 d7 =>
    vx_throw0s (cc := cX11_rests) B.exec B.bytes hl (own := RX11) (cls := XN) (names := ["java/lang/RuntimeException", "java/lang/Exception"]) (ik := 259) (ic := 261) (A := wA w) (findClass_of_methodNamed B.named) (by decide +kernel) (by decide +kernel) (hw _ we_7) (hw _ we_8) hat thr_ot (hTh.1.kept hkp) (hTh.2.1.kept hkp) hpt.2.1 (by rw [hlr.1, hml]; rfl) d0 d3 d4 d7 (fun x hx => (hnt x hx).elim) (by show 2 + 3 < d + 5 + 1; omega) (by show 0 + (13 * (2 + 1) + 42) ≤ 60 * (d + 5 + 1); omega) (by show 0 + 1 ≤ 1; omega) (by show 0 + 6 ≤ 8; omega) B.notSynchronized hxx hpt.2.1.2.2 (by omega) (by omega)
  rcases hpc with rfl | rfl
  · exact go 21 dX11_rests_21 dX11_rests_24 dX11_rests_25 dX11_rests_28
  · exact go 80 dX11_rests_80 dX11_rests_83 dX11_rests_84 dX11_rests_87
theorem snd_rests {w : WD} {l : Launch} (hl : l.stackTraces = false) : SndOp w l mt muL 1189 (o_rests 1192) := sorry
