/-! ===== rests at the machine ===== -/
def muL : MR := (RL, yL_law, cL_law, 7, some .boolean)
def muR : MR := (RX11, yX11_rests, cX11_rests, 7, some .int)
theorem we_0 : Cond.methodLink RX11 256 yX11_isGain ∈ WSg := wdm 1000 (by decide +kernel) (by decide +kernel)
theorem we_1 : Cond.static yX11_isGain ∈ WSg := wdm 1001 (by decide +kernel) (by decide +kernel)
theorem we_2 : Cond.methodLink RX11 262 yX11_isAtRest ∈ WSg := wdm 1064 (by decide +kernel) (by decide +kernel)
theorem we_3 : Cond.static yX11_isAtRest ∈ WSg := wdm 1065 (by decide +kernel) (by decide +kernel)
theorem we_4 : Cond.code yX11_isGain cX11_isGain 1 (some .boolean) ∈ WSg := wdm 1002 (by decide +kernel) (by decide +kernel)
theorem we_5 : Cond.code yX11_isAtRest cX11_isAtRest 6 (some .boolean) ∈ WSg := wdm 1066 (by decide +kernel) (by decide +kernel)
theorem we_6 : Cond.code yX11_rests cX11_rests 7 (some .int) ∈ WSg := wdm 999 (by decide +kernel) (by decide +kernel)
theorem ce_gain : CalOK (mt 153) 1 := (⟨we_4, wd_908, by decide, by decide +kernel⟩ : CalOK mu_X11_isGain 1)
theorem ce_rest : CalOK (mt 154) 4 := (⟨we_5, wd_908, by decide, by decide +kernel⟩ : CalOK mu_X11_isAtRest 4)
section RST
variable {w : WD} {l : Launch} {d : Nat} {p : Program} {e : Env} {R : Room} {s : State} {m : MethodId} {args : Array Value} {below : List Frame} {meth : Method} {c : Code} {n0 : Nat} {Z : State → Prop} {h : AHP} {a b g x : Int32}
set_option maxRecDepth 8000 in
theorem wr_loop (hcx : Cx w muR (d + 3) p R s m args meth c) (hrm : h.2.2.2 ≤ R.cells + n0 ∧ sl h.2.2.2 ≤ R.slots + sl n0) : ∀ (j k : Nat) (n : Int32), k + j = 4 → (∀ v, rsL a b g x j k n = some v → ∀ pc ls, (pc = 64 ∨ pc = 90) → WP w l muR p e R s m args below meth c n0 Z pc ls [.int v] h) → (rsL a b g x j k n = none → ∀ ls, WP w l muR p e R s m args below meth c n0 Z 80 ls [] h) → WP w l muR p e R s m args below meth c n0 Z 35 [some (.ref 1), some (.int a), some (.int b), some (.int g), some (.int x), some (.int n), some (.int (nI k))] [] h := by
  intro j
  induction j with
  | zero =>
    intro k n hk hR hT
    have e4 : k = 4 := by omega
    subst e4
    refine zp_iload hcx dX11_rests_35 rfl ?_
    refine zp_iconst hcx (v := 4) (by decide) dX11_rests_37 ?_
    refine zp_icmp_ge hcx (tgt := 74) (by decide) dX11_rests_38 (fun _ => ?_) (fun q => absurd (by decide) q)
    refine zp_iload hcx dX11_rests_74 rfl ?_
    refine zp_iconst hcx (v := -1) (by decide) dX11_rests_76 ?_
    refine zp_icmp_eq hcx (tgt := 88) (by decide) dX11_rests_77 (fun q => ?_) (fun q => ?_)
    · refine zp_iload hcx dX11_rests_88 rfl ?_
      exact hR n (if_pos q) 90 _ (Or.inr rfl)
    · exact hT (if_neg q) _
  | succ j ih =>
    intro k n hk hR hT
    have hk4 : k < 4 := by omega
    rw [rsL] at hR hT
    refine zp_iload hcx dX11_rests_35 rfl ?_
    refine zp_iconst hcx (v := 4) (by decide) dX11_rests_37 ?_
    refine zp_icmp_ge hcx (tgt := 74) (by decide) dX11_rests_38 (fun q => absurd q (nI_ge (b := 4) hk4 (by decide))) (fun _ => ?_)
    refine zp_iload_n hcx (i := 1) rfl dX11_rests_41 rfl ?_
    refine zp_iload_n hcx (i := 2) rfl dX11_rests_42 rfl ?_
    refine zp_iload_n hcx (i := 3) rfl dX11_rests_43 rfl ?_
    refine zp_iload hcx dX11_rests_44 rfl ?_
    refine zp_callS hcx (k := 154) (as := [.int a, .int b, .int g, .int (nI k)]) (rest := []) rfl ce_rest we_2 we_3 dX11_rests_46 (met_MM (c_isAtRest hk4)) rfl rfl (by decide) hrm ?_
    have hN : ∀ ls2, ls2 = [some (.ref 1), some (.int a), some (.int b), some (.int g), some (.int x), some (.int n), some (.int (nI k))] → ¬ atR a b g k = true → WP w l muR p e R s m args below meth c n0 Z 68 ls2 [] h := by
      intro ls2 e2 hA
      subst e2
      rw [if_neg hA] at hR hT
      refine zp_iinc hcx (v := 1) (by decide) dX11_rests_68 rfl ?_
      refine zp_goto hcx (tgt := 35) (by decide) dX11_rests_71 ?_
      have q := ih (k + 1) n (by omega) hR hT
      rw [← nI_1] at q
      exact q
    refine zp_if_ne hcx (tgt := 55) (by decide) dX11_rests_49 (fun q => ?_) (fun q => ?_)
    · have hA := b2i_nn q
      rw [if_pos hA] at hR hT
      refine zp_iload hcx dX11_rests_55 rfl ?_
      refine zp_iload hcx dX11_rests_57 rfl ?_
      refine zp_icmp_ne hcx (tgt := 65) (by decide) dX11_rests_59 (fun q => ?_) (fun q => ?_)
      · rw [if_neg q] at hR hT
        refine zp_iinc hcx (v := 1) (by decide) dX11_rests_65 rfl ?_
        refine zp_iinc hcx (v := 1) (by decide) dX11_rests_68 rfl ?_
        refine zp_goto hcx (tgt := 35) (by decide) dX11_rests_71 ?_
        have q := ih (k + 1) (n + 1) (by omega) hR hT
        rw [← nI_1] at q
        exact q
      · rw [if_pos q] at hR
        refine zp_iload hcx dX11_rests_62 rfl ?_
        exact hR (nI k) rfl 64 _ (Or.inl rfl)
    · refine zp_goto hcx (tgt := 68) (by decide) dX11_rests_52 ?_
      exact hN _ rfl (b2i_z q)
set_option maxRecDepth 8000 in
theorem wr_all (hcx : Cx w muR (d + 3) p R s m args meth c) (hrm : h.2.2.2 ≤ R.cells + n0 ∧ sl h.2.2.2 ≤ R.slots + sl n0) (hR : ∀ v, rsV a b g x = some v → ∀ pc ls, (pc = 64 ∨ pc = 90) → WP w l muR p e R s m args below meth c n0 Z pc ls [.int v] h) (hT : rsV a b g x = none → ∀ pc ls, (pc = 21 ∨ pc = 80) → WP w l muR p e R s m args below meth c n0 Z pc ls [] h) : WP w l muR p e R s m args below meth c n0 Z 0 [some (.ref 1), some (.int a), some (.int b), some (.int g), some (.int x), none, none] [] h := by
  have gn : ∀ q : Int32, MetM w l (mt 153) (d + 2) [.int q] h (some (.int (b2i (gnP q = true))), h) := fun q => met_MM c_isGain
  refine zp_iload_n hcx (i := 1) rfl dX11_rests_0 rfl ?_
  refine zp_callS hcx (k := 153) (as := [.int a]) (rest := []) rfl ce_gain we_0 we_1 dX11_rests_1 (gn a) rfl rfl (by decide) hrm ?_
  refine zp_if_eq hcx (tgt := 21) (by decide) dX11_rests_4 (fun q => ?_) (fun q1 => ?_)
  · have hA := b2i_z q
    exact hT (by rw [rsV, Bool.eq_false_iff.mpr hA]; rfl) 21 _ (Or.inl rfl)
  refine zp_iload_n hcx (i := 2) rfl dX11_rests_7 rfl ?_
  refine zp_callS hcx (k := 153) (as := [.int b]) (rest := []) rfl ce_gain we_0 we_1 dX11_rests_8 (gn b) rfl rfl (by decide) hrm ?_
  refine zp_if_eq hcx (tgt := 21) (by decide) dX11_rests_11 (fun q => ?_) (fun q2 => ?_)
  · have hA := b2i_z q
    exact hT (by rw [rsV, Bool.eq_false_iff.mpr hA, Bool.and_false]; rfl) 21 _ (Or.inl rfl)
  refine zp_iload_n hcx (i := 3) rfl dX11_rests_14 rfl ?_
  refine zp_callS hcx (k := 153) (as := [.int g]) (rest := []) rfl ce_gain we_0 we_1 dX11_rests_15 (gn g) rfl rfl (by decide) hrm ?_
  refine zp_if_ne hcx (tgt := 29) (by decide) dX11_rests_18 (fun q3 => ?_) (fun q => ?_)
  · have e1 := b2i_nn q1
    have e2 := b2i_nn q2
    have e3 := b2i_nn q3
    have ev : rsV a b g x = rsL a b g x 4 0 0 := by rw [rsV, e1, e2, e3]; rfl
    refine zp_iconst hcx (v := 0) (by decide) dX11_rests_29 ?_
    refine zp_istore hcx dX11_rests_30 (by decide) ?_
    refine zp_iconst hcx (v := 0) (by decide) dX11_rests_32 ?_
    refine zp_istore hcx dX11_rests_33 (by decide) ?_
    exact wr_loop hcx hrm 4 0 0 rfl (fun v hv => hR v (ev.trans hv)) (fun hv ls => hT (ev.trans hv) 80 ls (Or.inr rfl))
  · have hA := b2i_z q
    exact hT (by rw [rsV, Bool.eq_false_iff.mpr hA, Bool.and_false]; rfl) 21 _ (Or.inl rfl)
end RST
theorem snd_rests {w : WD} {l : Launch} (hl : l.stackTraces = false) : SndOp w l mt muL 1189 (o_rests 1192) := sorry
