/-! ===== the beginning, reckoned out ===== -/
def hE : AHP := (fun _ _ => 0, fun _ _ => 0, fun _ _ => 0, 0)
def hA1 : Option ARS := arun mt fe 3000 50 108 0 (en0 (mt 108).2.2.2.1 [.ref 1]) [] (anw hE)
set_option maxRecDepth 1000000 in
theorem ini1 : hA1.isSome = true := by decide +kernel
def rA1 : ARS := hA1.getD (none, hE)
def hA2 : Option ARS := arun mt fe 3000 50 160 0 (en0 (mt 160).2.2.2.1 [.ref 183]) [] (anw rA1.2)
set_option maxRecDepth 1000000 in
theorem ini2 : hA2.isSome = true := by decide +kernel
def rA2 : ARS := hA2.getD (none, hE)
def hZ : AHP := anw rA2.2
theorem some_of {o : Option ARS} {d : ARS} (h : o.isSome = true) : o = some (o.getD d) := by
  cases o with
  | none => cases h
  | some r => rfl
theorem hA1_eq : hA1 = some rA1 := some_of ini1
theorem hA2_eq : hA2 = some rA2 := some_of ini2
set_option maxRecDepth 1000000 in
theorem iniN : rA1.2.2.2.2 = 182 ∧ rA2.2.2.2.2 = 200 ∧ rA1.1.isNone = true ∧ rA2.1.isNone = true := by decide +kernel
def EM (h : AHP) (f : Nat) : Prop := (∀ e, e < 7 → h.1 (f + 1) e = -1 ∧ h.1 (f + 2) e = 0 ∧ h.1 (f + 3) e = 0) ∧ (∀ c, c < 12 → h.1 (f + 4) c = -1) ∧ h.1 f 4 = 0 ∧ h.1 f 5 = 0
def dec_EM (h : AHP) (f : Nat) : Decidable (EM h f) := by unfold EM; exact inferInstance
def C0 (h : AHP) : Prop := h.2.2.2 = 201 ∧ (∀ q ∈ finL, h.2.2.1 q.1 q.2.1 = q.2.2)
  ∧ (h.2.2.1 1 7 = 149 ∧ h.2.2.1 1 8 = 162 ∧ h.2.2.1 1 9 = 175 ∧ h.2.2.1 1 10 = 179)
  ∧ (h.1 157 3 = 0 ∧ h.1 149 4 = 0 ∧ h.1 149 7 = 0 ∧ h.1 189 0 = 0 ∧ h.1 189 1 = 1 ∧ h.1 189 2 = h.1 149 5 ∧ h.1 189 3 = -1 ∧ h.1 189 32 = 0)
  ∧ (h.1 183 16 = 0 ∧ ∀ j, j < 23 → h.2.1 188 j = lN (n37 (KWi j)))
  ∧ (h.1 175 3 = 0 ∧ h.1 194 0 = 0 ∧ h.1 10 3 = 0 ∧ h.1 14 4 = 0 ∧ h.1 14 5 = 0 ∧ h.1 183 23 = 0 ∧ h.1 2 1 = 0 ∧ h.1 183 2 = 0)
  ∧ (∀ q, q < 4 → h.1 18 q = 0 ∧ h.1 198 q = 0)
  ∧ ((∀ e, e < 7 → h.1 197 (2 + e) = -1 ∧ h.1 197 (9 + e) = 0 ∧ h.1 197 (16 + e) = 0) ∧ h.1 197 0 = 0 ∧ h.1 197 1 = 0 ∧ h.1 197 23 = 0)
  ∧ EM h 152 ∧ EM h 165 ∧ EM h 5
def dec_C0 (h : AHP) : Decidable (C0 h) := by
  have d1 := dec_EM h 152
  have d2 := dec_EM h 165
  have d3 := dec_EM h 5
  unfold C0
  exact inferInstance
set_option maxRecDepth 1000000 in
theorem ini3 : @decide (C0 hZ) (dec_C0 hZ) = true := by decide +kernel
theorem c0_Z : C0 hZ := @of_decide_eq_true _ (dec_C0 hZ) ini3
