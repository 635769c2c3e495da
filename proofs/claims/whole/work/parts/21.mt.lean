theorem lay_big {a : Nat} (h : 202 ≤ a) : lay a = (99, 8) := by
  unfold lay
  rw [if_neg (by omega), List.getD_eq_getElem?_getD, List.getElem?_eq_none (by show 201 ≤ a - 1; omega)]
  rfl
theorem lay_cls {c N : Nat} (h : (List.range 202).all (fun a => decide ((lay a).1 = c → (lay a).2 = N)) = true) (h9 : c ≠ 99) : ∀ a, (lay a).1 = c → (lay a).2 = N := by
  intro a ha
  rcases Nat.lt_or_ge a 202 with q | q
  · exact of_decide_eq_true (List.all_eq_true.mp h a (List.mem_range.mpr q)) ha
  · rw [lay_big q] at ha
    exact absurd ha.symm h9
theorem lay_small : ∀ a, (lay a).2 ≤ 100000 := by
  intro a
  rcases Nat.lt_or_ge a 202 with q | q
  · exact of_decide_eq_true (List.all_eq_true.mp (show (List.range 202).all (fun a => decide ((lay a).2 ≤ 100000)) = true by decide +kernel) a (List.mem_range.mpr q))
  · rw [lay_big q]; decide
theorem in_X0 : ∀ y ∈ u_ws RX0 TX0 4, y ∈ WSg := by
  intro y hy
  have h : y ∈ [Cond.laysFinal RX0 RX0 "act" "[I", Cond.laysFinal RX0 RX0 "ember" "[I", Cond.laysFinal RX0 RX0 "number" "[I", Cond.lays RX0 RX0 "lines" "I"] := hy
  simp only [List.mem_cons, List.not_mem_nil, or_false] at h
  rcases h with rfl | rfl | rfl | rfl
  · exact wd_0
  · exact wd_1
  · exact wd_2
  · exact wd_3
theorem ck_0 : ClsOK 0 RX0 TX0 4 tyX0 := ⟨rfl, in_X0, tyX0_ok, nmX0, by decide, lay_cls (by decide +kernel) (by decide)⟩
theorem kd_0 : ∀ k, k < 4 → (fk 0 k = 1 ∧ tyX0 k = .long) ∨ (fk 0 k = 2 ∧ ((∃ n, tyX0 k = .object n) ∨ ∃ t, tyX0 k = .array t)) ∨ (fk 0 k = 0 ∧ (tyX0 k = .int ∨ tyX0 k = .boolean)) := fun k hk => by match k, hk with
    | 0, _ => exact Or.inr (Or.inl ⟨rfl, Or.inr ⟨_, rfl⟩⟩)
    | 1, _ => exact Or.inr (Or.inl ⟨rfl, Or.inr ⟨_, rfl⟩⟩)
    | 2, _ => exact Or.inr (Or.inl ⟨rfl, Or.inr ⟨_, rfl⟩⟩)
    | 3, _ => exact Or.inr (Or.inr ⟨rfl, Or.inl rfl⟩)
    | k + 4, hk => exact absurd hk (by omega)
theorem in_X1 : ∀ y ∈ u_ws RX1 TX1 6, y ∈ WSg := by
  intro y hy
  have h : y ∈ [Cond.laysFinal RX1 RX1 "cell" "[I", Cond.laysFinal RX1 RX1 "heat" "[I", Cond.laysFinal RX1 RX1 "fuel" "[I", Cond.laysFinal RX1 RX1 "lies" "[I", Cond.lays RX1 RX1 "hour" "I", Cond.lays RX1 RX1 "banked" "Z"] := hy
  simp only [List.mem_cons, List.not_mem_nil, or_false] at h
  rcases h with rfl | rfl | rfl | rfl | rfl | rfl
  · exact wd_4
  · exact wd_5
  · exact wd_6
  · exact wd_7
  · exact wd_8
  · exact wd_9
theorem ck_1 : ClsOK 1 RX1 TX1 6 tyX1 := ⟨rfl, in_X1, tyX1_ok, nmX1, by decide, lay_cls (by decide +kernel) (by decide)⟩
theorem kd_1 : ∀ k, k < 6 → (fk 1 k = 1 ∧ tyX1 k = .long) ∨ (fk 1 k = 2 ∧ ((∃ n, tyX1 k = .object n) ∨ ∃ t, tyX1 k = .array t)) ∨ (fk 1 k = 0 ∧ (tyX1 k = .int ∨ tyX1 k = .boolean)) := fun k hk => by match k, hk with
    | 0, _ => exact Or.inr (Or.inl ⟨rfl, Or.inr ⟨_, rfl⟩⟩)
    | 1, _ => exact Or.inr (Or.inl ⟨rfl, Or.inr ⟨_, rfl⟩⟩)
    | 2, _ => exact Or.inr (Or.inl ⟨rfl, Or.inr ⟨_, rfl⟩⟩)
    | 3, _ => exact Or.inr (Or.inl ⟨rfl, Or.inr ⟨_, rfl⟩⟩)
    | 4, _ => exact Or.inr (Or.inr ⟨rfl, Or.inl rfl⟩)
    | 5, _ => exact Or.inr (Or.inr ⟨rfl, Or.inr rfl⟩)
    | k + 6, hk => exact absurd hk (by omega)
theorem in_X2 : ∀ y ∈ u_ws RX2 TX2 3, y ∈ WSg := by
  intro y hy
  have h : y ∈ [Cond.laysFinal RX2 RX2 "trial" "LEmberLand$Fire;", Cond.laysFinal RX2 RX2 "lit" "[I", Cond.lays RX2 RX2 "seed" "J"] := hy
  simp only [List.mem_cons, List.not_mem_nil, or_false] at h
  rcases h with rfl | rfl | rfl
  · exact wd_10
  · exact wd_11
  · exact wd_12
theorem ck_2 : ClsOK 2 RX2 TX2 3 tyX2 := ⟨rfl, in_X2, tyX2_ok, nmX2, by decide, lay_cls (by decide +kernel) (by decide)⟩
theorem kd_2 : ∀ k, k < 3 → (fk 2 k = 1 ∧ tyX2 k = .long) ∨ (fk 2 k = 2 ∧ ((∃ n, tyX2 k = .object n) ∨ ∃ t, tyX2 k = .array t)) ∨ (fk 2 k = 0 ∧ (tyX2 k = .int ∨ tyX2 k = .boolean)) := fun k hk => by match k, hk with
    | 0, _ => exact Or.inr (Or.inl ⟨rfl, Or.inl ⟨_, rfl⟩⟩)
    | 1, _ => exact Or.inr (Or.inl ⟨rfl, Or.inr ⟨_, rfl⟩⟩)
    | 2, _ => exact Or.inl ⟨rfl, rfl⟩
    | k + 3, hk => exact absurd hk (by omega)
theorem in_X3 : ∀ y ∈ u_ws RX3 TX3 9, y ∈ WSg := by
  intro y hy
  have h : y ∈ [Cond.laysFinal RX3 RX3 "name" "[J", Cond.laysFinal RX3 RX3 "kind" "[I", Cond.laysFinal RX3 RX3 "begin" "LEmberLand$Fire;", Cond.laysFinal RX3 RX3 "law" "LEmberLand$Law;", Cond.lays RX3 RX3 "embers" "I", Cond.lays RX3 RX3 "catches" "I", Cond.lays RX3 RX3 "catchesTold" "Z", Cond.lays RX3 RX3 "draughts" "I", Cond.laysFinal RX3 RX3 "draught" "[I"] := hy
  simp only [List.mem_cons, List.not_mem_nil, or_false] at h
  rcases h with rfl | rfl | rfl | rfl | rfl | rfl | rfl | rfl | rfl
  · exact wd_13
  · exact wd_14
  · exact wd_15
  · exact wd_16
  · exact wd_17
  · exact wd_18
  · exact wd_19
  · exact wd_20
  · exact wd_21
theorem ck_3 : ClsOK 3 RX3 TX3 9 tyX3 := ⟨rfl, in_X3, tyX3_ok, nmX3, by decide, lay_cls (by decide +kernel) (by decide)⟩
theorem kd_3 : ∀ k, k < 9 → (fk 3 k = 1 ∧ tyX3 k = .long) ∨ (fk 3 k = 2 ∧ ((∃ n, tyX3 k = .object n) ∨ ∃ t, tyX3 k = .array t)) ∨ (fk 3 k = 0 ∧ (tyX3 k = .int ∨ tyX3 k = .boolean)) := fun k hk => by match k, hk with
    | 0, _ => exact Or.inr (Or.inl ⟨rfl, Or.inr ⟨_, rfl⟩⟩)
    | 1, _ => exact Or.inr (Or.inl ⟨rfl, Or.inr ⟨_, rfl⟩⟩)
    | 2, _ => exact Or.inr (Or.inl ⟨rfl, Or.inl ⟨_, rfl⟩⟩)
    | 3, _ => exact Or.inr (Or.inl ⟨rfl, Or.inl ⟨_, rfl⟩⟩)
    | 4, _ => exact Or.inr (Or.inr ⟨rfl, Or.inl rfl⟩)
    | 5, _ => exact Or.inr (Or.inr ⟨rfl, Or.inl rfl⟩)
    | 6, _ => exact Or.inr (Or.inr ⟨rfl, Or.inr rfl⟩)
    | 7, _ => exact Or.inr (Or.inr ⟨rfl, Or.inl rfl⟩)
    | 8, _ => exact Or.inr (Or.inl ⟨rfl, Or.inr ⟨_, rfl⟩⟩)
    | k + 9, hk => exact absurd hk (by omega)
theorem in_X5 : ∀ y ∈ u_ws RX5 TX5 4, y ∈ WSg := by
  intro y hy
  have h : y ∈ [Cond.laysFinal RX5 RX5 "steps" "[I", Cond.laysFinal RX5 RX5 "facts" "[I", Cond.laysFinal RX5 RX5 "heap" "[I", Cond.lays RX5 RX5 "length" "I"] := hy
  simp only [List.mem_cons, List.not_mem_nil, or_false] at h
  rcases h with rfl | rfl | rfl | rfl
  · exact wd_22
  · exact wd_23
  · exact wd_24
  · exact wd_25
theorem ck_4 : ClsOK 4 RX5 TX5 4 tyX5 := ⟨rfl, in_X5, tyX5_ok, nmX5, by decide, lay_cls (by decide +kernel) (by decide)⟩
theorem kd_4 : ∀ k, k < 4 → (fk 4 k = 1 ∧ tyX5 k = .long) ∨ (fk 4 k = 2 ∧ ((∃ n, tyX5 k = .object n) ∨ ∃ t, tyX5 k = .array t)) ∨ (fk 4 k = 0 ∧ (tyX5 k = .int ∨ tyX5 k = .boolean)) := fun k hk => by match k, hk with
    | 0, _ => exact Or.inr (Or.inl ⟨rfl, Or.inr ⟨_, rfl⟩⟩)
    | 1, _ => exact Or.inr (Or.inl ⟨rfl, Or.inr ⟨_, rfl⟩⟩)
    | 2, _ => exact Or.inr (Or.inl ⟨rfl, Or.inr ⟨_, rfl⟩⟩)
    | 3, _ => exact Or.inr (Or.inr ⟨rfl, Or.inl rfl⟩)
    | k + 4, hk => exact absurd hk (by omega)
theorem in_X6 : ∀ y ∈ u_ws RX6 TX6 6, y ∈ WSg := by
  intro y hy
  have h : y ∈ [Cond.laysFinal RX6 RX6 "kept" "[LEmberLand$Fire;", Cond.laysFinal RX6 RX6 "markedFire" "[LEmberLand$Fire;", Cond.laysFinal RX6 RX6 "markedTold" "[LEmberLand$Told;", Cond.laysFinal RX6 RX6 "laid" "[Z", Cond.lays RX6 RX6 "next" "I", Cond.lays RX6 RX6 "size" "I"] := hy
  simp only [List.mem_cons, List.not_mem_nil, or_false] at h
  rcases h with rfl | rfl | rfl | rfl | rfl | rfl
  · exact wd_26
  · exact wd_27
  · exact wd_28
  · exact wd_29
  · exact wd_30
  · exact wd_31
theorem ck_5 : ClsOK 5 RX6 TX6 6 tyX6 := ⟨rfl, in_X6, tyX6_ok, nmX6, by decide, lay_cls (by decide +kernel) (by decide)⟩
theorem kd_5 : ∀ k, k < 6 → (fk 5 k = 1 ∧ tyX6 k = .long) ∨ (fk 5 k = 2 ∧ ((∃ n, tyX6 k = .object n) ∨ ∃ t, tyX6 k = .array t)) ∨ (fk 5 k = 0 ∧ (tyX6 k = .int ∨ tyX6 k = .boolean)) := fun k hk => by match k, hk with
    | 0, _ => exact Or.inr (Or.inl ⟨rfl, Or.inr ⟨_, rfl⟩⟩)
    | 1, _ => exact Or.inr (Or.inl ⟨rfl, Or.inr ⟨_, rfl⟩⟩)
    | 2, _ => exact Or.inr (Or.inl ⟨rfl, Or.inr ⟨_, rfl⟩⟩)
    | 3, _ => exact Or.inr (Or.inl ⟨rfl, Or.inr ⟨_, rfl⟩⟩)
    | 4, _ => exact Or.inr (Or.inr ⟨rfl, Or.inl rfl⟩)
    | 5, _ => exact Or.inr (Or.inr ⟨rfl, Or.inl rfl⟩)
    | k + 6, hk => exact absurd hk (by omega)
theorem in_X7 : ∀ y ∈ u_ws RX7 TX7 2, y ∈ WSg := by
  intro y hy
  have h : y ∈ [Cond.laysFinal RX7 RX7 "tape" "LEmberLand$Tape;", Cond.lays RX7 RX7 "fault" "I"] := hy
  simp only [List.mem_cons, List.not_mem_nil, or_false] at h
  rcases h with rfl | rfl
  · exact wd_32
  · exact wd_33
theorem ck_6 : ClsOK 6 RX7 TX7 2 tyX7 := ⟨rfl, in_X7, tyX7_ok, nmX7, by decide, lay_cls (by decide +kernel) (by decide)⟩
theorem kd_6 : ∀ k, k < 2 → (fk 6 k = 1 ∧ tyX7 k = .long) ∨ (fk 6 k = 2 ∧ ((∃ n, tyX7 k = .object n) ∨ ∃ t, tyX7 k = .array t)) ∨ (fk 6 k = 0 ∧ (tyX7 k = .int ∨ tyX7 k = .boolean)) := fun k hk => by match k, hk with
    | 0, _ => exact Or.inr (Or.inl ⟨rfl, Or.inl ⟨_, rfl⟩⟩)
    | 1, _ => exact Or.inr (Or.inr ⟨rfl, Or.inl rfl⟩)
    | k + 2, hk => exact absurd hk (by omega)
theorem in_X8 : ∀ y ∈ u_ws RX8 TX8 2, y ∈ WSg := by
  intro y hy
  have h : y ∈ [Cond.laysFinal RX8 RX8 "trial" "LEmberLand$Fire;", Cond.laysFinal RX8 RX8 "litThen" "[I"] := hy
  simp only [List.mem_cons, List.not_mem_nil, or_false] at h
  rcases h with rfl | rfl
  · exact wd_34
  · exact wd_35
theorem ck_7 : ClsOK 7 RX8 TX8 2 tyX8 := ⟨rfl, in_X8, tyX8_ok, nmX8, by decide, lay_cls (by decide +kernel) (by decide)⟩
theorem kd_7 : ∀ k, k < 2 → (fk 7 k = 1 ∧ tyX8 k = .long) ∨ (fk 7 k = 2 ∧ ((∃ n, tyX8 k = .object n) ∨ ∃ t, tyX8 k = .array t)) ∨ (fk 7 k = 0 ∧ (tyX8 k = .int ∨ tyX8 k = .boolean)) := fun k hk => by match k, hk with
    | 0, _ => exact Or.inr (Or.inl ⟨rfl, Or.inl ⟨_, rfl⟩⟩)
    | 1, _ => exact Or.inr (Or.inl ⟨rfl, Or.inr ⟨_, rfl⟩⟩)
    | k + 2, hk => exact absurd hk (by omega)
theorem in_X9 : ∀ y ∈ u_ws RX9 TX9 8, y ∈ WSg := by
  intro y hy
  have h : y ∈ [Cond.laysFinal RX9 RX9 "sign" "[I", Cond.lays RX9 RX9 "length" "I", Cond.lays RX9 RX9 "token" "I", Cond.lays RX9 RX9 "place" "I", Cond.lays RX9 RX9 "value" "I", Cond.lays RX9 RX9 "letters" "J", Cond.lays RX9 RX9 "key" "LEmberLand$Key;", Cond.lays RX9 RX9 "behind" "I"] := hy
  simp only [List.mem_cons, List.not_mem_nil, or_false] at h
  rcases h with rfl | rfl | rfl | rfl | rfl | rfl | rfl | rfl
  · exact wd_36
  · exact wd_37
  · exact wd_38
  · exact wd_39
  · exact wd_40
  · exact wd_41
  · exact wd_42
  · exact wd_43
theorem ck_8 : ClsOK 8 RX9 TX9 8 tyX9 := ⟨rfl, in_X9, tyX9_ok, nmX9, by decide, lay_cls (by decide +kernel) (by decide)⟩
theorem kd_8 : ∀ k, k < 8 → (fk 8 k = 1 ∧ tyX9 k = .long) ∨ (fk 8 k = 2 ∧ ((∃ n, tyX9 k = .object n) ∨ ∃ t, tyX9 k = .array t)) ∨ (fk 8 k = 0 ∧ (tyX9 k = .int ∨ tyX9 k = .boolean)) := fun k hk => by match k, hk with
    | 0, _ => exact Or.inr (Or.inl ⟨rfl, Or.inr ⟨_, rfl⟩⟩)
    | 1, _ => exact Or.inr (Or.inr ⟨rfl, Or.inl rfl⟩)
    | 2, _ => exact Or.inr (Or.inr ⟨rfl, Or.inl rfl⟩)
    | 3, _ => exact Or.inr (Or.inr ⟨rfl, Or.inl rfl⟩)
    | 4, _ => exact Or.inr (Or.inr ⟨rfl, Or.inl rfl⟩)
    | 5, _ => exact Or.inl ⟨rfl, rfl⟩
    | 6, _ => exact Or.inr (Or.inl ⟨rfl, Or.inl ⟨_, rfl⟩⟩)
    | 7, _ => exact Or.inr (Or.inr ⟨rfl, Or.inl rfl⟩)
    | k + 8, hk => exact absurd hk (by omega)
theorem in_X10 : ∀ y ∈ u_ws RX10 TX10 4, y ∈ WSg := by
  intro y hy
  have h : y ∈ [Cond.laysFinal RX10 RX10 "ember" "[I", Cond.laysFinal RX10 RX10 "hours" "[I", Cond.laysFinal RX10 RX10 "lit" "[I", Cond.lays RX10 RX10 "size" "I"] := hy
  simp only [List.mem_cons, List.not_mem_nil, or_false] at h
  rcases h with rfl | rfl | rfl | rfl
  · exact wd_44
  · exact wd_45
  · exact wd_46
  · exact wd_47
theorem ck_9 : ClsOK 9 RX10 TX10 4 tyX10 := ⟨rfl, in_X10, tyX10_ok, nmX10, by decide, lay_cls (by decide +kernel) (by decide)⟩
theorem kd_9 : ∀ k, k < 4 → (fk 9 k = 1 ∧ tyX10 k = .long) ∨ (fk 9 k = 2 ∧ ((∃ n, tyX10 k = .object n) ∨ ∃ t, tyX10 k = .array t)) ∨ (fk 9 k = 0 ∧ (tyX10 k = .int ∨ tyX10 k = .boolean)) := fun k hk => by match k, hk with
    | 0, _ => exact Or.inr (Or.inl ⟨rfl, Or.inr ⟨_, rfl⟩⟩)
    | 1, _ => exact Or.inr (Or.inl ⟨rfl, Or.inr ⟨_, rfl⟩⟩)
    | 2, _ => exact Or.inr (Or.inl ⟨rfl, Or.inr ⟨_, rfl⟩⟩)
    | 3, _ => exact Or.inr (Or.inr ⟨rfl, Or.inl rfl⟩)
    | k + 4, hk => exact absurd hk (by omega)
theorem in_X11 : ∀ y ∈ u_ws RX11 TX11 11, y ∈ WSg := by
  intro y hy
  have h : y ∈ [Cond.laysFinal RX11 RX11 "tape" "LEmberLand$Tape;", Cond.laysFinal RX11 RX11 "reader" "LEmberLand$Reader;", Cond.laysFinal RX11 RX11 "now" "LEmberLand$Fire;", Cond.laysFinal RX11 RX11 "told" "LEmberLand$Told;", Cond.laysFinal RX11 RX11 "past" "LEmberLand$Past;", Cond.laysFinal RX11 RX11 "foresight" "LEmberLand$Foresight;", Cond.laysFinal RX11 RX11 "riddle" "LEmberLand$Riddle;", Cond.lays RX11 RX11 "grate" "LEmberLand$Grate;", Cond.lays RX11 RX11 "spareGrate" "LEmberLand$Grate;", Cond.lays RX11 RX11 "evening" "LEmberLand$Evening;", Cond.lays RX11 RX11 "spareEvening" "LEmberLand$Evening;"] := hy
  simp only [List.mem_cons, List.not_mem_nil, or_false] at h
  rcases h with rfl | rfl | rfl | rfl | rfl | rfl | rfl | rfl | rfl | rfl | rfl
  · exact wd_48
  · exact wd_49
  · exact wd_50
  · exact wd_51
  · exact wd_52
  · exact wd_53
  · exact wd_54
  · exact wd_55
  · exact wd_56
  · exact wd_57
  · exact wd_58
theorem ck_10 : ClsOK 10 RX11 TX11 11 tyX11 := ⟨rfl, in_X11, tyX11_ok, nmX11, by decide, lay_cls (by decide +kernel) (by decide)⟩
theorem kd_10 : ∀ k, k < 11 → (fk 10 k = 1 ∧ tyX11 k = .long) ∨ (fk 10 k = 2 ∧ ((∃ n, tyX11 k = .object n) ∨ ∃ t, tyX11 k = .array t)) ∨ (fk 10 k = 0 ∧ (tyX11 k = .int ∨ tyX11 k = .boolean)) := fun k hk => by match k, hk with
    | 0, _ => exact Or.inr (Or.inl ⟨rfl, Or.inl ⟨_, rfl⟩⟩)
    | 1, _ => exact Or.inr (Or.inl ⟨rfl, Or.inl ⟨_, rfl⟩⟩)
    | 2, _ => exact Or.inr (Or.inl ⟨rfl, Or.inl ⟨_, rfl⟩⟩)
    | 3, _ => exact Or.inr (Or.inl ⟨rfl, Or.inl ⟨_, rfl⟩⟩)
    | 4, _ => exact Or.inr (Or.inl ⟨rfl, Or.inl ⟨_, rfl⟩⟩)
    | 5, _ => exact Or.inr (Or.inl ⟨rfl, Or.inl ⟨_, rfl⟩⟩)
    | 6, _ => exact Or.inr (Or.inl ⟨rfl, Or.inl ⟨_, rfl⟩⟩)
    | 7, _ => exact Or.inr (Or.inl ⟨rfl, Or.inl ⟨_, rfl⟩⟩)
    | 8, _ => exact Or.inr (Or.inl ⟨rfl, Or.inl ⟨_, rfl⟩⟩)
    | 9, _ => exact Or.inr (Or.inl ⟨rfl, Or.inl ⟨_, rfl⟩⟩)
    | 10, _ => exact Or.inr (Or.inl ⟨rfl, Or.inl ⟨_, rfl⟩⟩)
    | k + 11, hk => exact absurd hk (by omega)
theorem in_X12 : ∀ y ∈ u_ws RX12 TX12 28, y ∈ WSg := by
  intro y hy
  have h : y ∈ [Cond.lays RX12 RX12 "thrown" "I", Cond.laysFinal RX12 RX12 "tape" "[I", Cond.lays RX12 RX12 "taped" "I", Cond.lays RX12 RX12 "size" "I", Cond.laysFinal RX12 RX12 "sort" "[I", Cond.laysFinal RX12 RX12 "place" "[I", Cond.laysFinal RX12 RX12 "value" "[J", Cond.lays RX12 RX12 "at" "I", Cond.lays RX12 RX12 "fault" "I", Cond.laysFinal RX12 RX12 "words" "[J", Cond.laysFinal RX12 RX12 "grates" "[I", Cond.laysFinal RX12 RX12 "op" "[I", Cond.laysFinal RX12 RX12 "arg" "[I", Cond.lays RX12 RX12 "codes" "I", Cond.laysFinal RX12 RX12 "names" "[J", Cond.laysFinal RX12 RX12 "readNames" "[J", Cond.lays RX12 RX12 "namesMany" "I", Cond.lays RX12 RX12 "readMany" "I", Cond.lays RX12 RX12 "once" "I", Cond.laysFinal RX12 RX12 "lines" "[I", Cond.laysFinal RX12 RX12 "facts" "[I", Cond.laysFinal RX12 RX12 "pile" "[I", Cond.laysFinal RX12 RX12 "state" "[I", Cond.lays RX12 RX12 "undos" "I", Cond.laysFinal RX12 RX12 "isMarked" "[Z", Cond.laysFinal RX12 RX12 "heats" "[I", Cond.laysFinal RX12 RX12 "glows" "[I", Cond.lays RX12 RX12 "g" "J"] := hy
  simp only [List.mem_cons, List.not_mem_nil, or_false] at h
  rcases h with rfl | rfl | rfl | rfl | rfl | rfl | rfl | rfl | rfl | rfl | rfl | rfl | rfl | rfl | rfl | rfl | rfl | rfl | rfl | rfl | rfl | rfl | rfl | rfl | rfl | rfl | rfl | rfl
  · exact wd_59
  · exact wd_60
  · exact wd_61
  · exact wd_62
  · exact wd_63
  · exact wd_64
  · exact wd_65
  · exact wd_66
  · exact wd_67
  · exact wd_68
  · exact wd_69
  · exact wd_70
  · exact wd_71
  · exact wd_72
  · exact wd_73
  · exact wd_74
  · exact wd_75
  · exact wd_76
  · exact wd_77
  · exact wd_78
  · exact wd_79
  · exact wd_80
  · exact wd_81
  · exact wd_82
  · exact wd_83
  · exact wd_84
  · exact wd_85
  · exact wd_86
theorem ck_11 : ClsOK 11 RX12 TX12 28 tyX12 := ⟨rfl, in_X12, tyX12_ok, nmX12, by decide, lay_cls (by decide +kernel) (by decide)⟩
theorem kd_11 : ∀ k, k < 28 → (fk 11 k = 1 ∧ tyX12 k = .long) ∨ (fk 11 k = 2 ∧ ((∃ n, tyX12 k = .object n) ∨ ∃ t, tyX12 k = .array t)) ∨ (fk 11 k = 0 ∧ (tyX12 k = .int ∨ tyX12 k = .boolean)) := fun k hk => by match k, hk with
    | 0, _ => exact Or.inr (Or.inr ⟨rfl, Or.inl rfl⟩)
    | 1, _ => exact Or.inr (Or.inl ⟨rfl, Or.inr ⟨_, rfl⟩⟩)
    | 2, _ => exact Or.inr (Or.inr ⟨rfl, Or.inl rfl⟩)
    | 3, _ => exact Or.inr (Or.inr ⟨rfl, Or.inl rfl⟩)
    | 4, _ => exact Or.inr (Or.inl ⟨rfl, Or.inr ⟨_, rfl⟩⟩)
    | 5, _ => exact Or.inr (Or.inl ⟨rfl, Or.inr ⟨_, rfl⟩⟩)
    | 6, _ => exact Or.inr (Or.inl ⟨rfl, Or.inr ⟨_, rfl⟩⟩)
    | 7, _ => exact Or.inr (Or.inr ⟨rfl, Or.inl rfl⟩)
    | 8, _ => exact Or.inr (Or.inr ⟨rfl, Or.inl rfl⟩)
    | 9, _ => exact Or.inr (Or.inl ⟨rfl, Or.inr ⟨_, rfl⟩⟩)
    | 10, _ => exact Or.inr (Or.inl ⟨rfl, Or.inr ⟨_, rfl⟩⟩)
    | 11, _ => exact Or.inr (Or.inl ⟨rfl, Or.inr ⟨_, rfl⟩⟩)
    | 12, _ => exact Or.inr (Or.inl ⟨rfl, Or.inr ⟨_, rfl⟩⟩)
    | 13, _ => exact Or.inr (Or.inr ⟨rfl, Or.inl rfl⟩)
    | 14, _ => exact Or.inr (Or.inl ⟨rfl, Or.inr ⟨_, rfl⟩⟩)
    | 15, _ => exact Or.inr (Or.inl ⟨rfl, Or.inr ⟨_, rfl⟩⟩)
    | 16, _ => exact Or.inr (Or.inr ⟨rfl, Or.inl rfl⟩)
    | 17, _ => exact Or.inr (Or.inr ⟨rfl, Or.inl rfl⟩)
    | 18, _ => exact Or.inr (Or.inr ⟨rfl, Or.inl rfl⟩)
    | 19, _ => exact Or.inr (Or.inl ⟨rfl, Or.inr ⟨_, rfl⟩⟩)
    | 20, _ => exact Or.inr (Or.inl ⟨rfl, Or.inr ⟨_, rfl⟩⟩)
    | 21, _ => exact Or.inr (Or.inl ⟨rfl, Or.inr ⟨_, rfl⟩⟩)
    | 22, _ => exact Or.inr (Or.inl ⟨rfl, Or.inr ⟨_, rfl⟩⟩)
    | 23, _ => exact Or.inr (Or.inr ⟨rfl, Or.inl rfl⟩)
    | 24, _ => exact Or.inr (Or.inl ⟨rfl, Or.inr ⟨_, rfl⟩⟩)
    | 25, _ => exact Or.inr (Or.inl ⟨rfl, Or.inr ⟨_, rfl⟩⟩)
    | 26, _ => exact Or.inr (Or.inl ⟨rfl, Or.inr ⟨_, rfl⟩⟩)
    | 27, _ => exact Or.inl ⟨rfl, rfl⟩
    | k + 28, hk => exact absurd hk (by omega)
def mu_X0_init : MR := (RX0, yX0_init, cX0_init, 1, none)
def mu_X0_actOf : MR := (RX0, yX0_actOf, cX0_actOf, 1, (some .int))
def mu_X0_hasEmber : MR := (RX0, yX0_hasEmber, cX0_hasEmber, 1, (some .boolean))
def mu_X0_forget : MR := (RX0, yX0_forget, cX0_forget, 1, none)
def mu_X0_add : MR := (RX0, yX0_add, cX0_add, 4, none)
def mu_X1_init : MR := (RX1, yX1_init, cX1_init, 2, none)
def mu_X1_clear : MR := (RX1, yX1_clear, cX1_clear, 2, none)
def mu_X1_become : MR := (RX1, yX1_become, cX1_become, 2, none)
def mu_X1_has : MR := (RX1, yX1_has, cX1_has, 2, (some .boolean))
def mu_X1_isFree : MR := (RX1, yX1_isFree, cX1_isFree, 2, (some .boolean))
def mu_X1_lay : MR := (RX1, yX1_lay, cX1_lay, 5, none)
def mu_X1_takeOut : MR := (RX1, yX1_takeOut, cX1_takeOut, 2, none)
def mu_X1_takeOutAll : MR := (RX1, yX1_takeOutAll, cX1_takeOutAll, 3, none)
def mu_X1_giveFullHeat : MR := (RX1, yX1_giveFullHeat, cX1_giveFullHeat, 3, none)
def mu_X1_carry : MR := (RX1, yX1_carry, cX1_carry, 3, none)
def mu_X1_stoke : MR := (RX1, yX1_stoke, cX1_stoke, 2, none)
def mu_X1_addFuel : MR := (RX1, yX1_addFuel, cX1_addFuel, 3, none)
def mu_X1_pass : MR := (RX1, yX1_pass, cX1_pass, 6, (some .int))
def mu_X1_litBits : MR := (RX1, yX1_litBits, cX1_litBits, 4, (some .int))
def mu_X1_ashBits : MR := (RX1, yX1_ashBits, cX1_ashBits, 4, (some .int))
def mu_X1_hereBits : MR := (RX1, yX1_hereBits, cX1_hereBits, 3, (some .int))
def mu_X1_heatOfAll : MR := (RX1, yX1_heatOfAll, cX1_heatOfAll, 3, (some .int))
def mu_X1_fuelOfAll : MR := (RX1, yX1_fuelOfAll, cX1_fuelOfAll, 3, (some .int))
def mu_X1_heatBeside : MR := (RX1, yX1_heatBeside, cX1_heatBeside, 5, (some .int))
def mu_X1_touching : MR := (RX1, yX1_touching, cX1_touching, 5, (some .int))
def mu_X1_hangingWith : MR := (RX1, yX1_hangingWith, cX1_hangingWith, 6, (some .int))
def mu_X1_stackOf : MR := (RX1, yX1_stackOf, cX1_stackOf, 4, (some .int))
def mu_X1_warm : MR := (RX1, yX1_warm, cX1_warm, 10, none)
def mu_X1_burn : MR := (RX1, yX1_burn, cX1_burn, 5, (some .int))
def mu_X1_besideOf : MR := (RX1, yX1_besideOf, cX1_besideOf, 1, (some .int))
def mu_X2_init : MR := (RX2, yX2_init, cX2_init, 1, none)
def mu_X2_behind : MR := (RX2, yX2_behind, cX2_behind, 5, (some (.object RX1)))
def mu_X2_watch : MR := (RX2, yX2_watch, cX2_watch, 4, none)
def mu_X2_outOf : MR := (RX2, yX2_outOf, cX2_outOf, 3, (some .int))
def mu_X2_firstLit : MR := (RX2, yX2_firstLit, cX2_firstLit, 3, (some .int))
def mu_X2_longest : MR := (RX2, yX2_longest, cX2_longest, 7, (some .int))
def mu_X2_hottestHour : MR := (RX2, yX2_hottestHour, cX2_hottestHour, 7, (some .int))
def mu_X2_lastsNow : MR := (RX2, yX2_lastsNow, cX2_lastsNow, 3, (some .int))
def mu_X2_bestMove : MR := (RX2, yX2_bestMove, cX2_bestMove, 9, (some .int))
def mu_X2_bestBanking : MR := (RX2, yX2_bestBanking, cX2_bestBanking, 7, (some .int))
def mu_X2_bestPoke : MR := (RX2, yX2_bestPoke, cX2_bestPoke, 8, (some .int))
def mu_X2_nextFalls : MR := (RX2, yX2_nextFalls, cX2_nextFalls, 5, (some .int))
def mu_X2_gainBy : MR := (RX2, yX2_gainBy, cX2_gainBy, 5, (some .int))
def mu_X2_judge : MR := (RX2, yX2_judge, cX2_judge, 7, (some .int))
def mu_X2_winter : MR := (RX2, yX2_winter, cX2_winter, 8, (some .int))
def mu_X2_tryLine : MR := (RX2, yX2_tryLine, cX2_tryLine, 4, (some .boolean))
def mu_X2_tend : MR := (RX2, yX2_tend, cX2_tend, 5, none)
def mu_X2_draw : MR := (RX2, yX2_draw, cX2_draw, 2, (some .int))
def mu_X2_trialLasts : MR := (RX2, yX2_trialLasts, cX2_trialLasts, 4, (some .int))
def mu_X3_init : MR := (RX3, yX3_init, cX3_init, 1, none)
def mu_X3_forget : MR := (RX3, yX3_forget, cX3_forget, 1, none)
def mu_X3_addEmber : MR := (RX3, yX3_addEmber, cX3_addEmber, 4, none)
def mu_X3_addDraught : MR := (RX3, yX3_addDraught, cX3_addDraught, 2, none)
def mu_X3_emberNamed : MR := (RX3, yX3_emberNamed, cX3_emberNamed, 4, (some .int))
def mu_X3_draughtAt : MR := (RX3, yX3_draughtAt, cX3_draughtAt, 3, (some .int))
def mu_X4_withLetter : MR := (RX4, yX4_withLetter, cX4_withLetter, 3, (some .long))
def mu_X4_ofLetters : MR := (RX4, yX4_ofLetters, cX4_ofLetters, 3, (some (.object RX4)))
def mu_X5_init : MR := (RX5, yX5_init, cX5_init, 1, none)
def mu_X5_ofFact : MR := (RX5, yX5_ofFact, cX5_ofFact, 1, (some .int))
def mu_X5_add : MR := (RX5, yX5_add, cX5_add, 2, none)
def mu_X5_tells : MR := (RX5, yX5_tells, cX5_tells, 8, (some .int))
def mu_X5_join : MR := (RX5, yX5_join, cX5_join, 3, (some .int))
def mu_X6_init : MR := (RX6, yX6_init, cX6_init, 2, none)
def mu_X6_keep : MR := (RX6, yX6_keep, cX6_keep, 2, none)
def mu_X6_bringBack : MR := (RX6, yX6_bringBack, cX6_bringBack, 2, (some .boolean))
def mu_X6_lay : MR := (RX6, yX6_lay, cX6_lay, 4, (some .boolean))
def mu_X6_goBack : MR := (RX6, yX6_goBack, cX6_goBack, 4, (some .boolean))
def mu_X6_forget : MR := (RX6, yX6_forget, cX6_forget, 2, none)
def mu_X7_init : MR := (RX7, yX7_init, cX7_init, 2, none)
def mu_X7_readGrate : MR := (RX7, yX7_readGrate, cX7_readGrate, 3, (some .int))
def mu_X7_readEvening : MR := (RX7, yX7_readEvening, cX7_readEvening, 4, (some .int))
def mu_X7_wrong : MR := (RX7, yX7_wrong, cX7_wrong, 2, (some .boolean))
def mu_X7_takeKey : MR := (RX7, yX7_takeKey, cX7_takeKey, 2, (some .boolean))
def mu_X7_takeSign : MR := (RX7, yX7_takeSign, cX7_takeSign, 2, (some .boolean))
def mu_X7_takeNumber : MR := (RX7, yX7_takeNumber, cX7_takeNumber, 4, (some .int))
def mu_X7_grateLine : MR := (RX7, yX7_grateLine, cX7_grateLine, 2, (some .boolean))
def mu_X7_emberLine : MR := (RX7, yX7_emberLine, cX7_emberLine, 8, (some .boolean))
def mu_X7_draughtLine : MR := (RX7, yX7_draughtLine, cX7_draughtLine, 5, (some .boolean))
def mu_X7_catchesLine : MR := (RX7, yX7_catchesLine, cX7_catchesLine, 3, (some .boolean))
def mu_X7_joined : MR := (RX7, yX7_joined, cX7_joined, 7, (some .boolean))
def mu_X7_levelHere : MR := (RX7, yX7_levelHere, cX7_levelHere, 1, (some .int))
def mu_X7_stepHere : MR := (RX7, yX7_stepHere, cX7_stepHere, 1, (some .int))
def mu_X7_part : MR := (RX7, yX7_part, cX7_part, 8, (some .boolean))
def mu_X7_eveningLine : MR := (RX7, yX7_eveningLine, cX7_eveningLine, 6, (some .boolean))
def mu_X7_takeEmber : MR := (RX7, yX7_takeEmber, cX7_takeEmber, 3, (some .int))
def mu_X8_init : MR := (RX8, yX8_init, cX8_init, 1, none)
def mu_X8_fewestLit : MR := (RX8, yX8_fewestLit, cX8_fewestLit, 6, (some .int))
def mu_X8_fewestTaken : MR := (RX8, yX8_fewestTaken, cX8_fewestTaken, 7, (some .int))
def mu_X8_suspects : MR := (RX8, yX8_suspects, cX8_suspects, 4, (some .int))
def mu_X8_bestLook : MR := (RX8, yX8_bestLook, cX8_bestLook, 12, (some .int))
def mu_X8_millionths : MR := (RX8, yX8_millionths, cX8_millionths, 11, (some .int))
def mu_X8_trialGlows : MR := (RX8, yX8_trialGlows, cX8_trialGlows, 4, (some .int))
def mu_X8_suspectsSeen : MR := (RX8, yX8_suspectsSeen, cX8_suspectsSeen, 10, (some .int))
def mu_X9_init : MR := (RX9, yX9_init, cX9_init, 1, none)
def mu_X9_put : MR := (RX9, yX9_put, cX9_put, 6, none)
def mu_X9_empty : MR := (RX9, yX9_empty, cX9_empty, 1, none)
def mu_X9_toFirst : MR := (RX9, yX9_toFirst, cX9_toFirst, 1, none)
def mu_X9_toNext : MR := (RX9, yX9_toNext, cX9_toNext, 3, none)
def mu_X9_isSign : MR := (RX9, yX9_isSign, cX9_isSign, 2, (some .boolean))
def mu_X9_isBlank : MR := (RX9, yX9_isBlank, cX9_isBlank, 1, (some .boolean))
def mu_X9_isLetter : MR := (RX9, yX9_isLetter, cX9_isLetter, 1, (some .boolean))
def mu_X9_isDigit : MR := (RX9, yX9_isDigit, cX9_isDigit, 1, (some .boolean))
def mu_X9_isOwnSign : MR := (RX9, yX9_isOwnSign, cX9_isOwnSign, 1, (some .boolean))
def mu_X10_init : MR := (RX10, yX10_init, cX10_init, 1, none)
def mu_X10_add : MR := (RX10, yX10_add, cX10_add, 4, (some .boolean))
def mu_X10_become : MR := (RX10, yX10_become, cX10_become, 2, none)
def mu_X10_forget : MR := (RX10, yX10_forget, cX10_forget, 1, none)
def mu_X10_agrees : MR := (RX10, yX10_agrees, cX10_agrees, 4, (some .boolean))
def mu_X11_init : MR := (RX11, yX11_init, cX11_init, 1, none)
def mu_X11_feed : MR := (RX11, yX11_feed, cX11_feed, 7, (some .int))
def mu_X11_grate : MR := (RX11, yX11_grate, cX11_grate, 3, (some .int))
def mu_X11_evening : MR := (RX11, yX11_evening, cX11_evening, 3, (some .int))
def mu_X11_ember : MR := (RX11, yX11_ember, cX11_ember, 3, (some .int))
def mu_X11_cell : MR := (RX11, yX11_cell, cX11_cell, 2, (some .int))
def mu_X11_hour : MR := (RX11, yX11_hour, cX11_hour, 1, (some .int))
def mu_X11_poke : MR := (RX11, yX11_poke, cX11_poke, 2, (some .int))
def mu_X11_tongs : MR := (RX11, yX11_tongs, cX11_tongs, 3, (some .boolean))
def mu_X11_fuel : MR := (RX11, yX11_fuel, cX11_fuel, 3, (some .int))
def mu_X11_bank : MR := (RX11, yX11_bank, cX11_bank, 1, (some .boolean))
def mu_X11_undo : MR := (RX11, yX11_undo, cX11_undo, 1, (some .boolean))
def mu_X11_judged : MR := (RX11, yX11_judged, cX11_judged, 2, (some .int))
def mu_X11_out : MR := (RX11, yX11_out, cX11_out, 2, (some .int))
def mu_X11_lasts : MR := (RX11, yX11_lasts, cX11_lasts, 2, (some .int))
def mu_X11_last : MR := (RX11, yX11_last, cX11_last, 1, (some .int))
def mu_X11_peak : MR := (RX11, yX11_peak, cX11_peak, 1, (some .int))
def mu_X11_age : MR := (RX11, yX11_age, cX11_age, 1, (some .int))
def mu_X11_move : MR := (RX11, yX11_move, cX11_move, 3, (some .int))
def mu_X11_banks : MR := (RX11, yX11_banks, cX11_banks, 1, (some .int))
def mu_X11_stir : MR := (RX11, yX11_stir, cX11_stir, 2, (some .int))
def mu_X11_kindle : MR := (RX11, yX11_kindle, cX11_kindle, 1, (some .int))
def mu_X11_save : MR := (RX11, yX11_save, cX11_save, 2, (some .int))
def mu_X11_tell : MR := (RX11, yX11_tell, cX11_tell, 4, (some .boolean))
def mu_X11_which : MR := (RX11, yX11_which, cX11_which, 1, (some .int))
def mu_X11_look : MR := (RX11, yX11_look, cX11_look, 2, (some .int))
def mu_X11_chance : MR := (RX11, yX11_chance, cX11_chance, 4, (some .int))
def mu_X11_touch : MR := (RX11, yX11_touch, cX11_touch, 2, (some .int))
def mu_X11_hall : MR := (RX11, yX11_hall, cX11_hall, 2, (some .int))
def mu_X11_halls : MR := (RX11, yX11_halls, cX11_halls, 3, (some .int))
def mu_X11_tower : MR := (RX11, yX11_tower, cX11_tower, 3, (some .int))
def mu_X11_alight : MR := (RX11, yX11_alight, cX11_alight, 2, (some .int))
def mu_X11_caught : MR := (RX11, yX11_caught, cX11_caught, 2, (some .int))
def mu_X11_ash : MR := (RX11, yX11_ash, cX11_ash, 2, (some .int))
def mu_X11_falls : MR := (RX11, yX11_falls, cX11_falls, 1, (some .int))
def mu_X11_spare : MR := (RX11, yX11_spare, cX11_spare, 2, (some .int))
def mu_X11_lone : MR := (RX11, yX11_lone, cX11_lone, 3, (some .int))
def mu_X11_warmest : MR := (RX11, yX11_warmest, cX11_warmest, 5, (some .int))
def mu_X11_winters : MR := (RX11, yX11_winters, cX11_winters, 4, (some .int))
def mu_X11_mark : MR := (RX11, yX11_mark, cX11_mark, 3, (some .boolean))
def mu_X11_count : MR := (RX11, yX11_count, cX11_count, 2, (some .int))
def mu_X11_beginAnew : MR := (RX11, yX11_beginAnew, cX11_beginAnew, 1, none)
def mu_X11_isEmber : MR := (RX11, yX11_isEmber, cX11_isEmber, 2, (some .boolean))
def mu_X11_isCell : MR := (RX11, yX11_isCell, cX11_isCell, 1, (some .boolean))
def mu_X11_isLongView : MR := (RX11, yX11_isLongView, cX11_isLongView, 1, (some .boolean))
def mu_X11_isGain : MR := (RX11, yX11_isGain, cX11_isGain, 1, (some .boolean))
def mu_X11_isAtRest : MR := (RX11, yX11_isAtRest, cX11_isAtRest, 6, (some .boolean))
def mu_X11_gainsByTurning : MR := (RX11, yX11_gainsByTurning, cX11_gainsByTurning, 5, (some .boolean))
def mu_X11_gainOf : MR := (RX11, yX11_gainOf, cX11_gainOf, 5, (some .int))
def mu_X12_thrown : MR := (RX12, yX12_thrown, cX12_thrown, 1, (some .int))
def mu_X12_feed : MR := (RX12, yX12_feed, cX12_feed, 7, (some .int))
def mu_X12_lay : MR := (RX12, yX12_lay, cX12_lay, 5, none)
def mu_X12_init : MR := (RX12, yX12_init, cX12_init, 1, none)
def mu_X12_isLetter : MR := (RX12, yX12_isLetter, cX12_isLetter, 1, (some .boolean))
def mu_X12_isDigit : MR := (RX12, yX12_isDigit, cX12_isDigit, 1, (some .boolean))
def mu_X12_rank : MR := (RX12, yX12_rank, cX12_rank, 1, (some .int))
def mu_X12_isSignOf : MR := (RX12, yX12_isSignOf, cX12_isSignOf, 1, (some .boolean))
def mu_X12_cutAll : MR := (RX12, yX12_cutAll, cX12_cutAll, 7, none)
def mu_X12_wrong : MR := (RX12, yX12_wrong, cX12_wrong, 2, none)
def mu_X12_isSign : MR := (RX12, yX12_isSign, cX12_isSign, 2, (some .boolean))
def mu_X12_isWord : MR := (RX12, yX12_isWord, cX12_isWord, 2, (some .boolean))
def mu_X12_takeSign : MR := (RX12, yX12_takeSign, cX12_takeSign, 2, none)
def mu_X12_hasSign : MR := (RX12, yX12_hasSign, cX12_hasSign, 3, (some .boolean))
def mu_X12_hasWord : MR := (RX12, yX12_hasWord, cX12_hasWord, 3, (some .boolean))
def mu_X12_takeWord : MR := (RX12, yX12_takeWord, cX12_takeWord, 2, none)
def mu_X12_within : MR := (RX12, yX12_within, cX12_within, 3, (some .boolean))
def mu_X12_standsAsAlways : MR := (RX12, yX12_standsAsAlways, cX12_standsAsAlways, 3, none)
def mu_X12_takeNumber : MR := (RX12, yX12_takeNumber, cX12_takeNumber, 3, (some .int))
def mu_X12_takeAfter : MR := (RX12, yX12_takeAfter, cX12_takeAfter, 4, (some .int))
def mu_X12_wordHere : MR := (RX12, yX12_wordHere, cX12_wordHere, 5, (some .int))
def mu_X12_takeOne : MR := (RX12, yX12_takeOne, cX12_takeOne, 4, (some .int))
def mu_X12_isName : MR := (RX12, yX12_isName, cX12_isName, 1, (some .boolean))
def mu_X12_nameAt : MR := (RX12, yX12_nameAt, cX12_nameAt, 3, (some .int))
def mu_X12_takeTold : MR := (RX12, yX12_takeTold, cX12_takeTold, 2, (some .int))
def mu_X12_grate : MR := (RX12, yX12_grate, cX12_grate, 2, (some .int))
def mu_X12_takeCell : MR := (RX12, yX12_takeCell, cX12_takeCell, 4, (some .int))
def mu_X12_readEmber : MR := (RX12, yX12_readEmber, cX12_readEmber, 8, none)
def mu_X12_readOnce : MR := (RX12, yX12_readOnce, cX12_readOnce, 2, none)
def mu_X12_readDraught : MR := (RX12, yX12_readDraught, cX12_readDraught, 3, none)
def mu_X12_evening : MR := (RX12, yX12_evening, cX12_evening, 3, (some .int))
def mu_X12_emit : MR := (RX12, yX12_emit, cX12_emit, 3, none)
def mu_X12_whole : MR := (RX12, yX12_whole, cX12_whole, 3, none)
def mu_X12_test : MR := (RX12, yX12_test, cX12_test, 3, none)
def mu_X12_sums : MR := (RX12, yX12_sums, cX12_sums, 3, none)
def mu_X12_products : MR := (RX12, yX12_products, cX12_products, 2, none)
def mu_X12_takePart : MR := (RX12, yX12_takePart, cX12_takePart, 4, none)
def mu_X12_worthAt : MR := (RX12, yX12_worthAt, cX12_worthAt, 5, (some .int))
def mu_X12_both : MR := (RX12, yX12_both, cX12_both, 3, (some .int))
def mu_X12_copies : MR := (RX12, yX12_copies, cX12_copies, 5, none)
def mu_X12_starts : MR := (RX12, yX12_starts, cX12_starts, 3, none)
def mu_X12_begins : MR := (RX12, yX12_begins, cX12_begins, 2, none)
def mu_X12_keeps : MR := (RX12, yX12_keeps, cX12_keeps, 2, none)
def mu_X12_embers : MR := (RX12, yX12_embers, cX12_embers, 1, (some .int))
def mu_X12_emberOf : MR := (RX12, yX12_emberOf, cX12_emberOf, 3, (some .int))
def mu_X12_isEmber : MR := (RX12, yX12_isEmber, cX12_isEmber, 2, (some .boolean))
def mu_X12_isThere : MR := (RX12, yX12_isThere, cX12_isThere, 3, (some .boolean))
def mu_X12_isAlight : MR := (RX12, yX12_isAlight, cX12_isAlight, 3, (some .boolean))
def mu_X12_alightNow : MR := (RX12, yX12_alightNow, cX12_alightNow, 4, (some .int))
def mu_X12_lyingIn : MR := (RX12, yX12_lyingIn, cX12_lyingIn, 5, (some .int))
def mu_X12_doTouch : MR := (RX12, yX12_doTouch, cX12_doTouch, 3, (some .boolean))
def mu_X12_touchOf : MR := (RX12, yX12_touchOf, cX12_touchOf, 5, (some .int))
def mu_X12_nearOf : MR := (RX12, yX12_nearOf, cX12_nearOf, 7, (some .int))
def mu_X12_bits : MR := (RX12, yX12_bits, cX12_bits, 3, (some .int))
def mu_X12_falls : MR := (RX12, yX12_falls, cX12_falls, 4, none)
def mu_X12_vanishes : MR := (RX12, yX12_vanishes, cX12_vanishes, 3, none)
def mu_X12_draughtOf : MR := (RX12, yX12_draughtOf, cX12_draughtOf, 2, (some .int))
def mu_X12_passes : MR := (RX12, yX12_passes, cX12_passes, 6, (some .int))
def mu_X12_passes_ : MR := (RX12, yX12_passes_, cX12_passes_, 2, (some .int))
def mu_X12_heatOfAll : MR := (RX12, yX12_heatOfAll, cX12_heatOfAll, 4, (some .int))
def mu_X12_pokes : MR := (RX12, yX12_pokes, cX12_pokes, 3, none)
def mu_X12_feeds : MR := (RX12, yX12_feeds, cX12_feeds, 4, none)
def mu_X12_ember : MR := (RX12, yX12_ember, cX12_ember, 3, (some .int))
def mu_X12_cell : MR := (RX12, yX12_cell, cX12_cell, 2, (some .int))
def mu_X12_hour : MR := (RX12, yX12_hour, cX12_hour, 1, (some .int))
def mu_X12_poke : MR := (RX12, yX12_poke, cX12_poke, 2, (some .int))
def mu_X12_mayCarry : MR := (RX12, yX12_mayCarry, cX12_mayCarry, 4, (some .boolean))
def mu_X12_tongs : MR := (RX12, yX12_tongs, cX12_tongs, 3, (some .boolean))
def mu_X12_fuel : MR := (RX12, yX12_fuel, cX12_fuel, 3, (some .int))
def mu_X12_bank : MR := (RX12, yX12_bank, cX12_bank, 1, (some .boolean))
def mu_X12_undo : MR := (RX12, yX12_undo, cX12_undo, 1, (some .boolean))
def mu_X12_judged : MR := (RX12, yX12_judged, cX12_judged, 9, (some .int))
def mu_X12_triesNow : MR := (RX12, yX12_triesNow, cX12_triesNow, 1, none)
def mu_X12_outOf : MR := (RX12, yX12_outOf, cX12_outOf, 4, (some .int))
def mu_X12_out : MR := (RX12, yX12_out, cX12_out, 2, (some .int))
def mu_X12_last : MR := (RX12, yX12_last, cX12_last, 5, (some .int))
def mu_X12_lastsFor : MR := (RX12, yX12_lastsFor, cX12_lastsFor, 3, (some .int))
def mu_X12_lasts : MR := (RX12, yX12_lasts, cX12_lasts, 2, (some .int))
def mu_X12_caught : MR := (RX12, yX12_caught, cX12_caught, 3, (some .int))
def mu_X12_ash : MR := (RX12, yX12_ash, cX12_ash, 4, (some .int))
def mu_X12_falls_ : MR := (RX12, yX12_falls_, cX12_falls_, 3, (some .int))
def mu_X12_spare : MR := (RX12, yX12_spare, cX12_spare, 3, (some .int))
def mu_X12_peak : MR := (RX12, yX12_peak, cX12_peak, 5, (some .int))
def mu_X12_age : MR := (RX12, yX12_age, cX12_age, 1, (some .int))
def mu_X12_move : MR := (RX12, yX12_move, cX12_move, 6, (some .int))
def mu_X12_lastsBanked : MR := (RX12, yX12_lastsBanked, cX12_lastsBanked, 3, (some .int))
def mu_X12_banks : MR := (RX12, yX12_banks, cX12_banks, 5, (some .int))
def mu_X12_stir : MR := (RX12, yX12_stir, cX12_stir, 6, (some .int))
def mu_X12_everAlight : MR := (RX12, yX12_everAlight, cX12_everAlight, 4, (some .int))
def mu_X12_thereNow : MR := (RX12, yX12_thereNow, cX12_thereNow, 4, (some .int))
def mu_X12_kindle : MR := (RX12, yX12_kindle, cX12_kindle, 5, (some .int))
def mu_X12_save : MR := (RX12, yX12_save, cX12_save, 6, (some .int))
def mu_X12_tell : MR := (RX12, yX12_tell, cX12_tell, 5, (some .boolean))
def mu_X12_litFor : MR := (RX12, yX12_litFor, cX12_litFor, 4, none)
def mu_X12_whichNow : MR := (RX12, yX12_whichNow, cX12_whichNow, 6, (some .int))
def mu_X12_which : MR := (RX12, yX12_which, cX12_which, 1, (some .int))
def mu_X12_look : MR := (RX12, yX12_look, cX12_look, 7, (some .int))
def mu_X12_chance : MR := (RX12, yX12_chance, cX12_chance, 13, (some .int))
def mu_X12_touch : MR := (RX12, yX12_touch, cX12_touch, 2, (some .int))
def mu_X12_lone : MR := (RX12, yX12_lone, cX12_lone, 3, (some .int))
def mu_X12_warmest : MR := (RX12, yX12_warmest, cX12_warmest, 6, (some .int))
def mu_X12_hallOf : MR := (RX12, yX12_hallOf, cX12_hallOf, 5, (some .int))
def mu_X12_hall : MR := (RX12, yX12_hall, cX12_hall, 2, (some .int))
def mu_X12_halls : MR := (RX12, yX12_halls, cX12_halls, 3, (some .int))
def mu_X12_tower : MR := (RX12, yX12_tower, cX12_tower, 4, (some .int))
def mu_X12_alight : MR := (RX12, yX12_alight, cX12_alight, 3, (some .int))
def mu_X12_getsBy : MR := (RX12, yX12_getsBy, cX12_getsBy, 5, (some .int))
def mu_X12_rests : MR := (RX12, yX12_rests, cX12_rests, 12, (some .int))
def mu_X12_draw : MR := (RX12, yX12_draw, cX12_draw, 2, (some .int))
def mu_X12_drawsDeed : MR := (RX12, yX12_drawsDeed, cX12_drawsDeed, 4, none)
def mu_X12_winters : MR := (RX12, yX12_winters, cX12_winters, 6, (some .int))
def mu_X12_mark : MR := (RX12, yX12_mark, cX12_mark, 3, (some .boolean))
def mu_X12_count : MR := (RX12, yX12_count, cX12_count, 4, (some .int))
def mu_J6_bitCount_0f7a4 : MR := (RJ6, yJ6_bitCount_0f7a4, cJ6_bitCount_0f7a4, 1, (some .int))
def mts0 : List MR := [mu_X0_init, mu_X0_actOf, mu_X0_hasEmber, mu_X0_forget, mu_X0_add, mu_X1_init, mu_X1_clear, mu_X1_become, mu_X1_has, mu_X1_isFree, mu_X1_lay, mu_X1_takeOut, mu_X1_takeOutAll, mu_X1_giveFullHeat, mu_X1_carry, mu_X1_stoke, mu_X1_addFuel, mu_X1_pass, mu_X1_litBits, mu_X1_ashBits, mu_X1_hereBits, mu_X1_heatOfAll, mu_X1_fuelOfAll, mu_X1_heatBeside, mu_X1_touching, mu_X1_hangingWith, mu_X1_stackOf, mu_X1_warm, mu_X1_burn, mu_X1_besideOf, mu_X2_init, mu_X2_behind, mu_X2_watch, mu_X2_outOf, mu_X2_firstLit, mu_X2_longest, mu_X2_hottestHour, mu_X2_lastsNow, mu_X2_bestMove, mu_X2_bestBanking]
def mts1 : List MR := [mu_X2_bestPoke, mu_X2_nextFalls, mu_X2_gainBy, mu_X2_judge, mu_X2_winter, mu_X2_tryLine, mu_X2_tend, mu_X2_draw, mu_X2_trialLasts, mu_X3_init, mu_X3_forget, mu_X3_addEmber, mu_X3_addDraught, mu_X3_emberNamed, mu_X3_draughtAt, mu_X4_withLetter, mu_X4_ofLetters, mu_X5_init, mu_X5_ofFact, mu_X5_add, mu_X5_tells, mu_X5_join, mu_X6_init, mu_X6_keep, mu_X6_bringBack, mu_X6_lay, mu_X6_goBack, mu_X6_forget, mu_X7_init, mu_X7_readGrate, mu_X7_readEvening, mu_X7_wrong, mu_X7_takeKey, mu_X7_takeSign, mu_X7_takeNumber, mu_X7_grateLine, mu_X7_emberLine, mu_X7_draughtLine, mu_X7_catchesLine, mu_X7_joined]
def mts2 : List MR := [mu_X7_levelHere, mu_X7_stepHere, mu_X7_part, mu_X7_eveningLine, mu_X7_takeEmber, mu_X8_init, mu_X8_fewestLit, mu_X8_fewestTaken, mu_X8_suspects, mu_X8_bestLook, mu_X8_millionths, mu_X8_trialGlows, mu_X8_suspectsSeen, mu_X9_init, mu_X9_put, mu_X9_empty, mu_X9_toFirst, mu_X9_toNext, mu_X9_isSign, mu_X9_isBlank, mu_X9_isLetter, mu_X9_isDigit, mu_X9_isOwnSign, mu_X10_init, mu_X10_add, mu_X10_become, mu_X10_forget, mu_X10_agrees, mu_X11_init, mu_X11_feed, mu_X11_grate, mu_X11_evening, mu_X11_ember, mu_X11_cell, mu_X11_hour, mu_X11_poke, mu_X11_tongs, mu_X11_fuel, mu_X11_bank, mu_X11_undo]
def mts3 : List MR := [mu_X11_judged, mu_X11_out, mu_X11_lasts, mu_X11_last, mu_X11_peak, mu_X11_age, mu_X11_move, mu_X11_banks, mu_X11_stir, mu_X11_kindle, mu_X11_save, mu_X11_tell, mu_X11_which, mu_X11_look, mu_X11_chance, mu_X11_touch, mu_X11_hall, mu_X11_halls, mu_X11_tower, mu_X11_alight, mu_X11_caught, mu_X11_ash, mu_X11_falls, mu_X11_spare, mu_X11_lone, mu_X11_warmest, mu_X11_winters, mu_X11_mark, mu_X11_count, mu_X11_beginAnew, mu_X11_isEmber, mu_X11_isCell, mu_X11_isLongView, mu_X11_isGain, mu_X11_isAtRest, mu_X11_gainsByTurning, mu_X11_gainOf, mu_X12_thrown, mu_X12_feed, mu_X12_lay]
def mts4 : List MR := [mu_X12_init, mu_X12_isLetter, mu_X12_isDigit, mu_X12_rank, mu_X12_isSignOf, mu_X12_cutAll, mu_X12_wrong, mu_X12_isSign, mu_X12_isWord, mu_X12_takeSign, mu_X12_hasSign, mu_X12_hasWord, mu_X12_takeWord, mu_X12_within, mu_X12_standsAsAlways, mu_X12_takeNumber, mu_X12_takeAfter, mu_X12_wordHere, mu_X12_takeOne, mu_X12_isName, mu_X12_nameAt, mu_X12_takeTold, mu_X12_grate, mu_X12_takeCell, mu_X12_readEmber, mu_X12_readOnce, mu_X12_readDraught, mu_X12_evening, mu_X12_emit, mu_X12_whole, mu_X12_test, mu_X12_sums, mu_X12_products, mu_X12_takePart, mu_X12_worthAt, mu_X12_both, mu_X12_copies, mu_X12_starts, mu_X12_begins, mu_X12_keeps]
def mts5 : List MR := [mu_X12_embers, mu_X12_emberOf, mu_X12_isEmber, mu_X12_isThere, mu_X12_isAlight, mu_X12_alightNow, mu_X12_lyingIn, mu_X12_doTouch, mu_X12_touchOf, mu_X12_nearOf, mu_X12_bits, mu_X12_falls, mu_X12_vanishes, mu_X12_draughtOf, mu_X12_passes, mu_X12_passes_, mu_X12_heatOfAll, mu_X12_pokes, mu_X12_feeds, mu_X12_ember, mu_X12_cell, mu_X12_hour, mu_X12_poke, mu_X12_mayCarry, mu_X12_tongs, mu_X12_fuel, mu_X12_bank, mu_X12_undo, mu_X12_judged, mu_X12_triesNow, mu_X12_outOf, mu_X12_out, mu_X12_last, mu_X12_lastsFor, mu_X12_lasts, mu_X12_caught, mu_X12_ash, mu_X12_falls_, mu_X12_spare, mu_X12_peak]
def mts6 : List MR := [mu_X12_age, mu_X12_move, mu_X12_lastsBanked, mu_X12_banks, mu_X12_stir, mu_X12_everAlight, mu_X12_thereNow, mu_X12_kindle, mu_X12_save, mu_X12_tell, mu_X12_litFor, mu_X12_whichNow, mu_X12_which, mu_X12_look, mu_X12_chance, mu_X12_touch, mu_X12_lone, mu_X12_warmest, mu_X12_hallOf, mu_X12_hall, mu_X12_halls, mu_X12_tower, mu_X12_alight, mu_X12_getsBy, mu_X12_rests, mu_X12_draw, mu_X12_drawsDeed, mu_X12_winters, mu_X12_mark, mu_X12_count, mu_J6_bitCount_0f7a4]
def mts : List MR := mts0 ++ (mts1 ++ (mts2 ++ (mts3 ++ (mts4 ++ (mts5 ++ (mts6))))))
def mt (k : Nat) : MR := mts.getD k mu_X0_init
theorem co_X1_takeOut : CalOK (mt 11) 1 := (⟨wd_894, wd_160, by decide, by decide +kernel⟩ : CalOK mu_X1_takeOut 1)
theorem co_X1_isFree : CalOK (mt 9) 1 := (⟨wd_895, wd_160, by decide, by decide +kernel⟩ : CalOK mu_X1_isFree 1)
theorem co_X1_has : CalOK (mt 8) 1 := (⟨wd_896, wd_160, by decide, by decide +kernel⟩ : CalOK mu_X1_has 1)
theorem co_X1_carry : CalOK (mt 14) 2 := (⟨wd_897, wd_160, by decide, by decide +kernel⟩ : CalOK mu_X1_carry 2)
theorem co_X1_litBits : CalOK (mt 18) 1 := (⟨wd_898, wd_160, by decide, by decide +kernel⟩ : CalOK mu_X1_litBits 1)
theorem co_X1_warm : CalOK (mt 27) 3 := (⟨wd_899, wd_160, by decide, by decide +kernel⟩ : CalOK mu_X1_warm 3)
theorem co_X1_burn : CalOK (mt 28) 2 := (⟨wd_900, wd_160, by decide, by decide +kernel⟩ : CalOK mu_X1_burn 2)
theorem co_X3_draughtAt : CalOK (mt 54) 1 := (⟨wd_901, wd_479, by decide, by decide +kernel⟩ : CalOK mu_X3_draughtAt 1)
theorem co_X1_besideOf : CalOK (mt 29) 1 := (⟨wd_902, wd_160, by decide, by decide +kernel⟩ : CalOK mu_X1_besideOf 1)
theorem co_X1_touching : CalOK (mt 24) 1 := (⟨wd_903, wd_160, by decide, by decide +kernel⟩ : CalOK mu_X1_touching 1)
theorem co_J6_bitCount_0f7a4 : CalOK (mt 270) 1 := (⟨wd_904, wd_905, by decide, by decide +kernel⟩ : CalOK mu_J6_bitCount_0f7a4 1)
theorem co_X5_tells : CalOK (mt 60) 4 := (⟨wd_906, wd_226, by decide, by decide +kernel⟩ : CalOK mu_X5_tells 4)
theorem co_X11_isCell : CalOK (mt 151) 1 := (⟨wd_907, wd_908, by decide, by decide +kernel⟩ : CalOK mu_X11_isCell 1)
theorem co_X1_init : CalOK (mt 5) 0 := (⟨wd_909, wd_160, by decide, by decide +kernel⟩ : CalOK mu_X1_init 0)
theorem co_X1_become : CalOK (mt 7) 1 := (⟨wd_910, wd_160, by decide, by decide +kernel⟩ : CalOK mu_X1_become 1)
theorem co_X1_pass : CalOK (mt 17) 2 := (⟨wd_911, wd_160, by decide, by decide +kernel⟩ : CalOK mu_X1_pass 2)
theorem co_X2_watch : CalOK (mt 32) 2 := (⟨wd_912, wd_469, by decide, by decide +kernel⟩ : CalOK mu_X2_watch 2)
theorem co_X2_outOf : CalOK (mt 33) 1 := (⟨wd_913, wd_469, by decide, by decide +kernel⟩ : CalOK mu_X2_outOf 1)
theorem co_X1_heatOfAll : CalOK (mt 21) 0 := (⟨wd_914, wd_160, by decide, by decide +kernel⟩ : CalOK mu_X1_heatOfAll 0)
theorem co_X2_trialLasts : CalOK (mt 48) 2 := (⟨wd_915, wd_469, by decide, by decide +kernel⟩ : CalOK mu_X2_trialLasts 2)
theorem co_X1_stoke : CalOK (mt 15) 1 := (⟨wd_916, wd_160, by decide, by decide +kernel⟩ : CalOK mu_X1_stoke 1)
theorem co_X2_tryLine : CalOK (mt 45) 3 := (⟨wd_917, wd_469, by decide, by decide +kernel⟩ : CalOK mu_X2_tryLine 3)
theorem co_X2_tend : CalOK (mt 46) 1 := (⟨wd_918, wd_469, by decide, by decide +kernel⟩ : CalOK mu_X2_tend 1)
theorem co_X1_addFuel : CalOK (mt 16) 2 := (⟨wd_919, wd_160, by decide, by decide +kernel⟩ : CalOK mu_X1_addFuel 2)
theorem co_X2_draw : CalOK (mt 47) 1 := (⟨wd_920, wd_469, by decide, by decide +kernel⟩ : CalOK mu_X2_draw 1)
theorem co_X5_init : CalOK (mt 57) 0 := (⟨wd_921, wd_226, by decide, by decide +kernel⟩ : CalOK mu_X5_init 0)
theorem co_X1_clear : CalOK (mt 6) 0 := (⟨wd_922, wd_160, by decide, by decide +kernel⟩ : CalOK mu_X1_clear 0)
theorem co_X5_join : CalOK (mt 61) 3 := (⟨wd_923, wd_226, by decide, by decide +kernel⟩ : CalOK mu_X5_join 3)
theorem co_X10_init : CalOK (mt 103) 0 := (⟨wd_924, wd_263, by decide, by decide +kernel⟩ : CalOK mu_X10_init 0)
theorem co_X10_become : CalOK (mt 105) 1 := (⟨wd_925, wd_263, by decide, by decide +kernel⟩ : CalOK mu_X10_become 1)
theorem co_X3_forget : CalOK (mt 50) 0 := (⟨wd_926, wd_479, by decide, by decide +kernel⟩ : CalOK mu_X3_forget 0)
theorem co_X9_toFirst : CalOK (mt 96) 0 := (⟨wd_927, wd_447, by decide, by decide +kernel⟩ : CalOK mu_X9_toFirst 0)
theorem co_X7_grateLine : CalOK (mt 75) 1 := (⟨wd_928, wd_452, by decide, by decide +kernel⟩ : CalOK mu_X7_grateLine 1)
theorem co_X0_forget : CalOK (mt 3) 0 := (⟨wd_929, wd_485, by decide, by decide +kernel⟩ : CalOK mu_X0_forget 0)
theorem co_X7_eveningLine : CalOK (mt 83) 2 := (⟨wd_930, wd_452, by decide, by decide +kernel⟩ : CalOK mu_X7_eveningLine 2)
theorem co_X9_toNext : CalOK (mt 97) 0 := (⟨wd_931, wd_447, by decide, by decide +kernel⟩ : CalOK mu_X9_toNext 0)
theorem co_X7_wrong : CalOK (mt 71) 1 := (⟨wd_932, wd_452, by decide, by decide +kernel⟩ : CalOK mu_X7_wrong 1)
theorem co_X9_isSign : CalOK (mt 98) 1 := (⟨wd_933, wd_447, by decide, by decide +kernel⟩ : CalOK mu_X9_isSign 1)
theorem co_X7_joined : CalOK (mt 79) 3 := (⟨wd_934, wd_452, by decide, by decide +kernel⟩ : CalOK mu_X7_joined 3)
theorem co_X7_takeSign : CalOK (mt 73) 1 := (⟨wd_935, wd_452, by decide, by decide +kernel⟩ : CalOK mu_X7_takeSign 1)
theorem co_X7_catchesLine : CalOK (mt 78) 1 := (⟨wd_936, wd_452, by decide, by decide +kernel⟩ : CalOK mu_X7_catchesLine 1)
theorem co_X7_draughtLine : CalOK (mt 77) 1 := (⟨wd_937, wd_452, by decide, by decide +kernel⟩ : CalOK mu_X7_draughtLine 1)
theorem co_X7_emberLine : CalOK (mt 76) 1 := (⟨wd_938, wd_452, by decide, by decide +kernel⟩ : CalOK mu_X7_emberLine 1)
theorem co_X3_emberNamed : CalOK (mt 53) 1 := (⟨wd_939, wd_479, by decide, by decide +kernel⟩ : CalOK mu_X3_emberNamed 1)
theorem co_X7_takeKey : CalOK (mt 72) 1 := (⟨wd_940, wd_452, by decide, by decide +kernel⟩ : CalOK mu_X7_takeKey 1)
theorem co_X7_takeNumber : CalOK (mt 74) 2 := (⟨wd_941, wd_452, by decide, by decide +kernel⟩ : CalOK mu_X7_takeNumber 2)
theorem co_X3_addEmber : CalOK (mt 51) 2 := (⟨wd_942, wd_479, by decide, by decide +kernel⟩ : CalOK mu_X3_addEmber 2)
theorem co_X1_lay : CalOK (mt 10) 4 := (⟨wd_943, wd_160, by decide, by decide +kernel⟩ : CalOK mu_X1_lay 4)
theorem co_X3_addDraught : CalOK (mt 52) 1 := (⟨wd_944, wd_479, by decide, by decide +kernel⟩ : CalOK mu_X3_addDraught 1)
theorem co_X7_levelHere : CalOK (mt 80) 0 := (⟨wd_945, wd_452, by decide, by decide +kernel⟩ : CalOK mu_X7_levelHere 0)
theorem co_X7_stepHere : CalOK (mt 81) 0 := (⟨wd_946, wd_452, by decide, by decide +kernel⟩ : CalOK mu_X7_stepHere 0)
theorem co_X5_add : CalOK (mt 59) 1 := (⟨wd_947, wd_226, by decide, by decide +kernel⟩ : CalOK mu_X5_add 1)
theorem co_X7_part : CalOK (mt 82) 2 := (⟨wd_948, wd_452, by decide, by decide +kernel⟩ : CalOK mu_X7_part 2)
theorem co_X5_ofFact : CalOK (mt 58) 1 := (⟨wd_949, wd_226, by decide, by decide +kernel⟩ : CalOK mu_X5_ofFact 1)
theorem co_X0_actOf : CalOK (mt 1) 1 := (⟨wd_950, wd_485, by decide, by decide +kernel⟩ : CalOK mu_X0_actOf 1)
theorem co_X0_hasEmber : CalOK (mt 2) 1 := (⟨wd_951, wd_485, by decide, by decide +kernel⟩ : CalOK mu_X0_hasEmber 1)
theorem co_X0_add : CalOK (mt 4) 3 := (⟨wd_952, wd_485, by decide, by decide +kernel⟩ : CalOK mu_X0_add 3)
theorem co_X7_takeEmber : CalOK (mt 84) 1 := (⟨wd_953, wd_452, by decide, by decide +kernel⟩ : CalOK mu_X7_takeEmber 1)
theorem co_X1_giveFullHeat : CalOK (mt 13) 1 := (⟨wd_954, wd_160, by decide, by decide +kernel⟩ : CalOK mu_X1_giveFullHeat 1)
theorem co_X8_trialGlows : CalOK (mt 91) 1 := (⟨wd_955, wd_474, by decide, by decide +kernel⟩ : CalOK mu_X8_trialGlows 1)
theorem co_X1_hereBits : CalOK (mt 20) 0 := (⟨wd_956, wd_160, by decide, by decide +kernel⟩ : CalOK mu_X1_hereBits 0)
theorem co_X1_takeOutAll : CalOK (mt 12) 1 := (⟨wd_957, wd_160, by decide, by decide +kernel⟩ : CalOK mu_X1_takeOutAll 1)
theorem co_X8_suspectsSeen : CalOK (mt 92) 4 := (⟨wd_958, wd_474, by decide, by decide +kernel⟩ : CalOK mu_X8_suspectsSeen 4)
theorem co_X10_agrees : CalOK (mt 107) 2 := (⟨wd_959, wd_263, by decide, by decide +kernel⟩ : CalOK mu_X10_agrees 2)
theorem co_X9_isLetter : CalOK (mt 100) 1 := (⟨wd_960, wd_447, by decide, by decide +kernel⟩ : CalOK mu_X9_isLetter 1)
theorem co_X9_isDigit : CalOK (mt 101) 1 := (⟨wd_961, wd_447, by decide, by decide +kernel⟩ : CalOK mu_X9_isDigit 1)
theorem co_X9_isOwnSign : CalOK (mt 102) 1 := (⟨wd_962, wd_447, by decide, by decide +kernel⟩ : CalOK mu_X9_isOwnSign 1)
theorem co_X4_ofLetters : CalOK (mt 56) 1 := (⟨wd_963, wd_964, by decide, by decide +kernel⟩ : CalOK mu_X4_ofLetters 1)
theorem co_X4_withLetter : CalOK (mt 55) 2 := (⟨wd_965, wd_964, by decide, by decide +kernel⟩ : CalOK mu_X4_withLetter 2)
theorem co_X9_isBlank : CalOK (mt 99) 1 := (⟨wd_966, wd_447, by decide, by decide +kernel⟩ : CalOK mu_X9_isBlank 1)
theorem co_X9_init : CalOK (mt 93) 0 := (⟨wd_967, wd_447, by decide, by decide +kernel⟩ : CalOK mu_X9_init 0)
theorem co_X7_init : CalOK (mt 68) 1 := (⟨wd_968, wd_452, by decide, by decide +kernel⟩ : CalOK mu_X7_init 1)
theorem co_X6_init : CalOK (mt 62) 0 := (⟨wd_969, wd_463, by decide, by decide +kernel⟩ : CalOK mu_X6_init 0)
theorem co_X2_init : CalOK (mt 30) 0 := (⟨wd_970, wd_469, by decide, by decide +kernel⟩ : CalOK mu_X2_init 0)
theorem co_X8_init : CalOK (mt 85) 0 := (⟨wd_971, wd_474, by decide, by decide +kernel⟩ : CalOK mu_X8_init 0)
theorem co_X3_init : CalOK (mt 49) 0 := (⟨wd_972, wd_479, by decide, by decide +kernel⟩ : CalOK mu_X3_init 0)
theorem co_X0_init : CalOK (mt 0) 0 := (⟨wd_973, wd_485, by decide, by decide +kernel⟩ : CalOK mu_X0_init 0)
theorem co_X9_put : CalOK (mt 94) 1 := (⟨wd_974, wd_447, by decide, by decide +kernel⟩ : CalOK mu_X9_put 1)
theorem co_X7_readGrate : CalOK (mt 69) 1 := (⟨wd_975, wd_452, by decide, by decide +kernel⟩ : CalOK mu_X7_readGrate 1)
theorem co_X9_empty : CalOK (mt 95) 0 := (⟨wd_976, wd_447, by decide, by decide +kernel⟩ : CalOK mu_X9_empty 0)
theorem co_X11_beginAnew : CalOK (mt 149) 0 := (⟨wd_977, wd_908, by decide, by decide +kernel⟩ : CalOK mu_X11_beginAnew 0)
theorem co_X7_readEvening : CalOK (mt 70) 2 := (⟨wd_978, wd_452, by decide, by decide +kernel⟩ : CalOK mu_X7_readEvening 2)
theorem co_X11_isEmber : CalOK (mt 150) 1 := (⟨wd_979, wd_908, by decide, by decide +kernel⟩ : CalOK mu_X11_isEmber 1)
theorem co_X6_keep : CalOK (mt 63) 1 := (⟨wd_980, wd_463, by decide, by decide +kernel⟩ : CalOK mu_X6_keep 1)
theorem co_X6_bringBack : CalOK (mt 64) 1 := (⟨wd_981, wd_463, by decide, by decide +kernel⟩ : CalOK mu_X6_bringBack 1)
theorem co_X2_judge : CalOK (mt 43) 3 := (⟨wd_982, wd_469, by decide, by decide +kernel⟩ : CalOK mu_X2_judge 3)
theorem co_X2_lastsNow : CalOK (mt 37) 2 := (⟨wd_983, wd_469, by decide, by decide +kernel⟩ : CalOK mu_X2_lastsNow 2)
theorem co_X2_longest : CalOK (mt 35) 2 := (⟨wd_984, wd_469, by decide, by decide +kernel⟩ : CalOK mu_X2_longest 2)
theorem co_X2_hottestHour : CalOK (mt 36) 2 := (⟨wd_985, wd_469, by decide, by decide +kernel⟩ : CalOK mu_X2_hottestHour 2)
theorem co_X2_bestMove : CalOK (mt 38) 2 := (⟨wd_986, wd_469, by decide, by decide +kernel⟩ : CalOK mu_X2_bestMove 2)
theorem co_X2_bestBanking : CalOK (mt 39) 2 := (⟨wd_987, wd_469, by decide, by decide +kernel⟩ : CalOK mu_X2_bestBanking 2)
theorem co_X2_bestPoke : CalOK (mt 40) 3 := (⟨wd_988, wd_469, by decide, by decide +kernel⟩ : CalOK mu_X2_bestPoke 3)
theorem co_X8_fewestLit : CalOK (mt 86) 2 := (⟨wd_989, wd_474, by decide, by decide +kernel⟩ : CalOK mu_X8_fewestLit 2)
theorem co_X8_fewestTaken : CalOK (mt 87) 3 := (⟨wd_990, wd_474, by decide, by decide +kernel⟩ : CalOK mu_X8_fewestTaken 3)
theorem co_X10_add : CalOK (mt 104) 3 := (⟨wd_991, wd_263, by decide, by decide +kernel⟩ : CalOK mu_X10_add 3)
theorem co_X8_suspects : CalOK (mt 88) 3 := (⟨wd_992, wd_474, by decide, by decide +kernel⟩ : CalOK mu_X8_suspects 3)
theorem co_X8_bestLook : CalOK (mt 89) 4 := (⟨wd_993, wd_474, by decide, by decide +kernel⟩ : CalOK mu_X8_bestLook 4)
theorem co_X8_millionths : CalOK (mt 90) 5 := (⟨wd_994, wd_474, by decide, by decide +kernel⟩ : CalOK mu_X8_millionths 5)
theorem co_X1_hangingWith : CalOK (mt 25) 1 := (⟨wd_995, wd_160, by decide, by decide +kernel⟩ : CalOK mu_X1_hangingWith 1)
theorem co_X1_stackOf : CalOK (mt 26) 1 := (⟨wd_996, wd_160, by decide, by decide +kernel⟩ : CalOK mu_X1_stackOf 1)
theorem co_X11_isLongView : CalOK (mt 152) 1 := (⟨wd_997, wd_908, by decide, by decide +kernel⟩ : CalOK mu_X11_isLongView 1)
theorem co_X2_behind : CalOK (mt 31) 3 := (⟨wd_998, wd_469, by decide, by decide +kernel⟩ : CalOK mu_X2_behind 3)
theorem co_X2_firstLit : CalOK (mt 34) 1 := (⟨wd_999, wd_469, by decide, by decide +kernel⟩ : CalOK mu_X2_firstLit 1)
theorem co_X1_ashBits : CalOK (mt 19) 1 := (⟨wd_1000, wd_160, by decide, by decide +kernel⟩ : CalOK mu_X1_ashBits 1)
theorem co_X2_nextFalls : CalOK (mt 41) 2 := (⟨wd_1001, wd_469, by decide, by decide +kernel⟩ : CalOK mu_X2_nextFalls 2)
theorem co_X2_gainBy : CalOK (mt 42) 3 := (⟨wd_1002, wd_469, by decide, by decide +kernel⟩ : CalOK mu_X2_gainBy 3)
theorem co_X1_heatBeside : CalOK (mt 23) 1 := (⟨wd_1003, wd_160, by decide, by decide +kernel⟩ : CalOK mu_X1_heatBeside 1)
theorem co_X2_winter : CalOK (mt 44) 5 := (⟨wd_1004, wd_469, by decide, by decide +kernel⟩ : CalOK mu_X2_winter 5)
theorem co_X6_lay : CalOK (mt 65) 3 := (⟨wd_1005, wd_463, by decide, by decide +kernel⟩ : CalOK mu_X6_lay 3)
theorem co_X6_goBack : CalOK (mt 66) 3 := (⟨wd_1006, wd_463, by decide, by decide +kernel⟩ : CalOK mu_X6_goBack 3)
theorem co_X1_fuelOfAll : CalOK (mt 22) 0 := (⟨wd_1007, wd_160, by decide, by decide +kernel⟩ : CalOK mu_X1_fuelOfAll 0)
theorem co_X10_forget : CalOK (mt 106) 0 := (⟨wd_1008, wd_263, by decide, by decide +kernel⟩ : CalOK mu_X10_forget 0)
theorem co_X6_forget : CalOK (mt 67) 0 := (⟨wd_1009, wd_463, by decide, by decide +kernel⟩ : CalOK mu_X6_forget 0)
theorem co_X11_gainsByTurning : CalOK (mt 155) 5 := (⟨wd_1010, wd_908, by decide, by decide +kernel⟩ : CalOK mu_X11_gainsByTurning 5)
theorem co_X11_gainOf : CalOK (mt 156) 5 := (⟨wd_1011, wd_908, by decide, by decide +kernel⟩ : CalOK mu_X11_gainOf 5)
theorem co_X12_lay : CalOK (mt 159) 1 := (⟨wd_1012, wd_1013, by decide, by decide +kernel⟩ : CalOK mu_X12_lay 1)
theorem co_X12_standsAsAlways : CalOK (mt 174) 1 := (⟨wd_1014, wd_1013, by decide, by decide +kernel⟩ : CalOK mu_X12_standsAsAlways 1)
theorem co_X12_begins : CalOK (mt 198) 0 := (⟨wd_1015, wd_1013, by decide, by decide +kernel⟩ : CalOK mu_X12_begins 0)
theorem co_X12_isLetter : CalOK (mt 161) 1 := (⟨wd_1016, wd_1013, by decide, by decide +kernel⟩ : CalOK mu_X12_isLetter 1)
theorem co_X12_isDigit : CalOK (mt 162) 1 := (⟨wd_1017, wd_1013, by decide, by decide +kernel⟩ : CalOK mu_X12_isDigit 1)
theorem co_X12_isSignOf : CalOK (mt 164) 1 := (⟨wd_1018, wd_1013, by decide, by decide +kernel⟩ : CalOK mu_X12_isSignOf 1)
theorem co_X12_rank : CalOK (mt 163) 1 := (⟨wd_1019, wd_1013, by decide, by decide +kernel⟩ : CalOK mu_X12_rank 1)
theorem co_X12_isSign : CalOK (mt 167) 1 := (⟨wd_1020, wd_1013, by decide, by decide +kernel⟩ : CalOK mu_X12_isSign 1)
theorem co_X12_wrong : CalOK (mt 166) 1 := (⟨wd_1021, wd_1013, by decide, by decide +kernel⟩ : CalOK mu_X12_wrong 1)
theorem co_X12_isWord : CalOK (mt 168) 1 := (⟨wd_1022, wd_1013, by decide, by decide +kernel⟩ : CalOK mu_X12_isWord 1)
theorem co_X12_hasWord : CalOK (mt 171) 1 := (⟨wd_1023, wd_1013, by decide, by decide +kernel⟩ : CalOK mu_X12_hasWord 1)
theorem co_X12_takeWord : CalOK (mt 172) 1 := (⟨wd_1024, wd_1013, by decide, by decide +kernel⟩ : CalOK mu_X12_takeWord 1)
theorem co_X12_takeNumber : CalOK (mt 175) 2 := (⟨wd_1025, wd_1013, by decide, by decide +kernel⟩ : CalOK mu_X12_takeNumber 2)
theorem co_X12_wordHere : CalOK (mt 177) 2 := (⟨wd_1026, wd_1013, by decide, by decide +kernel⟩ : CalOK mu_X12_wordHere 2)
theorem co_X12_nameAt : CalOK (mt 180) 1 := (⟨wd_1027, wd_1013, by decide, by decide +kernel⟩ : CalOK mu_X12_nameAt 1)
theorem co_X12_isName : CalOK (mt 179) 0 := (⟨wd_1028, wd_1013, by decide, by decide +kernel⟩ : CalOK mu_X12_isName 0)
theorem co_X12_cutAll : CalOK (mt 165) 0 := (⟨wd_1029, wd_1013, by decide, by decide +kernel⟩ : CalOK mu_X12_cutAll 0)
theorem co_X12_readOnce : CalOK (mt 185) 0 := (⟨wd_1030, wd_1013, by decide, by decide +kernel⟩ : CalOK mu_X12_readOnce 0)
theorem co_X12_takeSign : CalOK (mt 169) 1 := (⟨wd_1031, wd_1013, by decide, by decide +kernel⟩ : CalOK mu_X12_takeSign 1)
theorem co_X12_readEmber : CalOK (mt 184) 0 := (⟨wd_1032, wd_1013, by decide, by decide +kernel⟩ : CalOK mu_X12_readEmber 0)
theorem co_X12_takeAfter : CalOK (mt 176) 3 := (⟨wd_1033, wd_1013, by decide, by decide +kernel⟩ : CalOK mu_X12_takeAfter 3)
theorem co_X12_takeOne : CalOK (mt 178) 2 := (⟨wd_1034, wd_1013, by decide, by decide +kernel⟩ : CalOK mu_X12_takeOne 2)
theorem co_X12_takeCell : CalOK (mt 183) 0 := (⟨wd_1035, wd_1013, by decide, by decide +kernel⟩ : CalOK mu_X12_takeCell 0)
theorem co_X12_whole : CalOK (mt 189) 1 := (⟨wd_1036, wd_1013, by decide, by decide +kernel⟩ : CalOK mu_X12_whole 1)
theorem co_X12_emit : CalOK (mt 188) 2 := (⟨wd_1037, wd_1013, by decide, by decide +kernel⟩ : CalOK mu_X12_emit 2)
theorem co_X12_readDraught : CalOK (mt 186) 0 := (⟨wd_1038, wd_1013, by decide, by decide +kernel⟩ : CalOK mu_X12_readDraught 0)
theorem co_X12_takeTold : CalOK (mt 181) 0 := (⟨wd_1039, wd_1013, by decide, by decide +kernel⟩ : CalOK mu_X12_takeTold 0)
theorem co_X12_test : CalOK (mt 190) 1 := (⟨wd_1040, wd_1013, by decide, by decide +kernel⟩ : CalOK mu_X12_test 1)
theorem co_X12_sums : CalOK (mt 191) 1 := (⟨wd_1041, wd_1013, by decide, by decide +kernel⟩ : CalOK mu_X12_sums 1)
theorem co_X12_hasSign : CalOK (mt 170) 1 := (⟨wd_1042, wd_1013, by decide, by decide +kernel⟩ : CalOK mu_X12_hasSign 1)
theorem co_X12_products : CalOK (mt 192) 1 := (⟨wd_1043, wd_1013, by decide, by decide +kernel⟩ : CalOK mu_X12_products 1)
theorem co_X12_takePart : CalOK (mt 193) 1 := (⟨wd_1044, wd_1013, by decide, by decide +kernel⟩ : CalOK mu_X12_takePart 1)
theorem co_X12_both : CalOK (mt 195) 3 := (⟨wd_1045, wd_1013, by decide, by decide +kernel⟩ : CalOK mu_X12_both 3)
theorem co_X12_embers : CalOK (mt 200) 0 := (⟨wd_1046, wd_1013, by decide, by decide +kernel⟩ : CalOK mu_X12_embers 0)
theorem co_X12_emberOf : CalOK (mt 201) 2 := (⟨wd_1047, wd_1013, by decide, by decide +kernel⟩ : CalOK mu_X12_emberOf 2)
theorem co_X12_starts : CalOK (mt 197) 1 := (⟨wd_1048, wd_1013, by decide, by decide +kernel⟩ : CalOK mu_X12_starts 1)
theorem co_X12_copies : CalOK (mt 196) 3 := (⟨wd_1049, wd_1013, by decide, by decide +kernel⟩ : CalOK mu_X12_copies 3)
theorem co_X12_isThere : CalOK (mt 203) 2 := (⟨wd_1050, wd_1013, by decide, by decide +kernel⟩ : CalOK mu_X12_isThere 2)
theorem co_X12_isAlight : CalOK (mt 204) 2 := (⟨wd_1051, wd_1013, by decide, by decide +kernel⟩ : CalOK mu_X12_isAlight 2)
theorem co_X12_doTouch : CalOK (mt 207) 2 := (⟨wd_1052, wd_1013, by decide, by decide +kernel⟩ : CalOK mu_X12_doTouch 2)
theorem co_X12_touchOf : CalOK (mt 208) 2 := (⟨wd_1053, wd_1013, by decide, by decide +kernel⟩ : CalOK mu_X12_touchOf 2)
theorem co_X12_lyingIn : CalOK (mt 206) 2 := (⟨wd_1054, wd_1013, by decide, by decide +kernel⟩ : CalOK mu_X12_lyingIn 2)
theorem co_X12_alightNow : CalOK (mt 205) 1 := (⟨wd_1055, wd_1013, by decide, by decide +kernel⟩ : CalOK mu_X12_alightNow 1)
theorem co_X12_falls : CalOK (mt 211) 2 := (⟨wd_1056, wd_1013, by decide, by decide +kernel⟩ : CalOK mu_X12_falls 2)
theorem co_X12_vanishes : CalOK (mt 212) 2 := (⟨wd_1057, wd_1013, by decide, by decide +kernel⟩ : CalOK mu_X12_vanishes 2)
theorem co_X12_nearOf : CalOK (mt 209) 2 := (⟨wd_1058, wd_1013, by decide, by decide +kernel⟩ : CalOK mu_X12_nearOf 2)
theorem co_X12_worthAt : CalOK (mt 194) 1 := (⟨wd_1059, wd_1013, by decide, by decide +kernel⟩ : CalOK mu_X12_worthAt 1)
theorem co_X12_draughtOf : CalOK (mt 213) 1 := (⟨wd_1060, wd_1013, by decide, by decide +kernel⟩ : CalOK mu_X12_draughtOf 1)
theorem co_X12_passes : CalOK (mt 214) 2 := (⟨wd_1061, wd_1013, by decide, by decide +kernel⟩ : CalOK mu_X12_passes 2)
theorem co_X12_isEmber : CalOK (mt 202) 1 := (⟨wd_1062, wd_1013, by decide, by decide +kernel⟩ : CalOK mu_X12_isEmber 1)
theorem co_X12_within : CalOK (mt 173) 3 := (⟨wd_1063, wd_1013, by decide, by decide +kernel⟩ : CalOK mu_X12_within 3)
theorem co_X12_keeps : CalOK (mt 199) 0 := (⟨wd_1064, wd_1013, by decide, by decide +kernel⟩ : CalOK mu_X12_keeps 0)
theorem co_X12_passes_ : CalOK (mt 215) 1 := (⟨wd_1065, wd_1013, by decide, by decide +kernel⟩ : CalOK mu_X12_passes_ 1)
theorem co_X12_pokes : CalOK (mt 217) 2 := (⟨wd_1066, wd_1013, by decide, by decide +kernel⟩ : CalOK mu_X12_pokes 2)
theorem co_X12_mayCarry : CalOK (mt 223) 3 := (⟨wd_1067, wd_1013, by decide, by decide +kernel⟩ : CalOK mu_X12_mayCarry 3)
theorem co_X12_feeds : CalOK (mt 218) 3 := (⟨wd_1068, wd_1013, by decide, by decide +kernel⟩ : CalOK mu_X12_feeds 3)
theorem co_X12_heatOfAll : CalOK (mt 216) 1 := (⟨wd_1069, wd_1013, by decide, by decide +kernel⟩ : CalOK mu_X12_heatOfAll 1)
theorem co_X12_triesNow : CalOK (mt 229) 0 := (⟨wd_1070, wd_1013, by decide, by decide +kernel⟩ : CalOK mu_X12_triesNow 0)
theorem co_X12_outOf : CalOK (mt 230) 1 := (⟨wd_1071, wd_1013, by decide, by decide +kernel⟩ : CalOK mu_X12_outOf 1)
theorem co_X12_lastsFor : CalOK (mt 233) 1 := (⟨wd_1072, wd_1013, by decide, by decide +kernel⟩ : CalOK mu_X12_lastsFor 1)
theorem co_X12_lastsBanked : CalOK (mt 242) 1 := (⟨wd_1073, wd_1013, by decide, by decide +kernel⟩ : CalOK mu_X12_lastsBanked 1)
theorem co_X12_thereNow : CalOK (mt 246) 1 := (⟨wd_1074, wd_1013, by decide, by decide +kernel⟩ : CalOK mu_X12_thereNow 1)
theorem co_X12_everAlight : CalOK (mt 245) 1 := (⟨wd_1075, wd_1013, by decide, by decide +kernel⟩ : CalOK mu_X12_everAlight 1)
theorem co_X12_bits : CalOK (mt 210) 1 := (⟨wd_1076, wd_1013, by decide, by decide +kernel⟩ : CalOK mu_X12_bits 1)
theorem co_X12_litFor : CalOK (mt 250) 2 := (⟨wd_1077, wd_1013, by decide, by decide +kernel⟩ : CalOK mu_X12_litFor 2)
theorem co_X12_whichNow : CalOK (mt 251) 0 := (⟨wd_1078, wd_1013, by decide, by decide +kernel⟩ : CalOK mu_X12_whichNow 0)
theorem co_X12_hallOf : CalOK (mt 258) 1 := (⟨wd_1079, wd_1013, by decide, by decide +kernel⟩ : CalOK mu_X12_hallOf 1)
theorem co_X12_getsBy : CalOK (mt 263) 5 := (⟨wd_1080, wd_1013, by decide, by decide +kernel⟩ : CalOK mu_X12_getsBy 5)
theorem co_X12_draw : CalOK (mt 265) 1 := (⟨wd_1081, wd_1013, by decide, by decide +kernel⟩ : CalOK mu_X12_draw 1)
theorem co_X12_drawsDeed : CalOK (mt 266) 0 := (⟨wd_1082, wd_1013, by decide, by decide +kernel⟩ : CalOK mu_X12_drawsDeed 0)
/-- switches -/
def swT (lo : Int) (ts : List Nat) (d : Nat) (x : Int32) : Nat := if x.toInt < lo then d else if lo + ts.length ≤ x.toInt then d else ts.getD (x.toInt - lo).toNat d
theorem swT_ok {pc : Nat} {dflt lo hi : Int} {offs : Array Int} {ts : List Nat} {d : Nat} (hl : hi + 1 = lo + ts.length) (ho : ∀ i, i < ts.length → ∃ off, offs[i]? = some off ∧ (pc : Int) + off = ((ts.getD i d : Nat) : Int)) (hd : (pc : Int) + dflt = (d : Int)) : ∀ x : Int32, (x.toInt < lo ∨ hi < x.toInt) ∧ (pc : Int) + dflt = (swT lo ts d x : Int) ∨ ¬ x.toInt < lo ∧ ¬ hi < x.toInt ∧ ∃ off, offs[(x.toInt - lo).toNat]? = some off ∧ (pc : Int) + off = (swT lo ts d x : Int) := by
  intro x
  unfold swT
  by_cases h1 : x.toInt < lo
  · exact Or.inl ⟨Or.inl h1, by rw [if_pos h1]; exact hd⟩
  · by_cases h2 : lo + ts.length ≤ x.toInt
    · exact Or.inl ⟨Or.inr (by omega), by rw [if_neg h1, if_pos h2]; exact hd⟩
    · refine Or.inr ⟨h1, by omega, ?_⟩
      rw [if_neg h1, if_neg h2]
      exact ho _ (by omega)
def swL : List (Int × Nat) → Nat → Int32 → Nat
  | [], d, _ => d
  | q :: l, d, x => if x.toInt = q.1 then q.2 else swL l d x
theorem swL_ok {pc : Nat} {dflt : Int} {d : Nat} (hd : (pc : Int) + dflt = (d : Int)) : ∀ (ps : List (Int × Int)) (ts : List (Int × Nat)), ps.map (fun q => (q.1, (pc : Int) + q.2)) = ts.map (fun q => (q.1, (q.2 : Int))) → ∀ x : Int32, (pc : Int) + Op.lookupswitch.offset ps dflt x.toInt = (swL ts d x : Int)
  | [], [], _, _ => hd
  | [], _ :: _, h, _ => by simp at h
  | _ :: _, [], h, _ => by simp at h
  | (a, o) :: ps, (b, t) :: ts, h, x => by
    simp only [List.map_cons, List.cons.injEq, Prod.mk.injEq] at h
    obtain ⟨⟨h1, h2⟩, h3⟩ := h
    have ih := swL_ok hd ps ts h3 x
    rw [Op.lookupswitch.offset_cons]
    show _ = ((if x.toInt = b then t else swL ts d x : Nat) : Int)
    subst h1
    by_cases hx : x.toInt = a
    · rw [if_pos hx]
      simp [hx, h2]
    · rw [if_neg hx]
      have hx2 : ¬ a = x.toInt := fun e => hx e.symm
      simpa [hx, hx2] using ih

