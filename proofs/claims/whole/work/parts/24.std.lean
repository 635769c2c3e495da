/-! ===== the steady heap: all things are made ===== -/
def finL0 : List (Nat × Nat × Nat) := [(1, 0, 2), (1, 1, 4), (1, 2, 5), (1, 3, 10), (1, 4, 14), (1, 5, 135), (1, 6, 142), (2, 0, 3), (4, 0, 2), (5, 0, 6), (5, 1, 7), (5, 2, 8), (5, 3, 9), (10, 0, 11), (10, 1, 12), (10, 2, 13), (14, 0, 15), (14, 1, 16), (14, 2, 17), (14, 3, 18), (19, 0, 20), (19, 1, 21), (19, 2, 22), (19, 3, 23), (24, 0, 25), (24, 1, 26), (24, 2, 27), (24, 3, 28), (29, 0, 30), (29, 1, 31), (29, 2, 32), (29, 3, 33), (34, 0, 35), (34, 1, 36), (34, 2, 37), (34, 3, 38), (39, 0, 40), (39, 1, 41), (39, 2, 42), (39, 3, 43), (44, 0, 45), (44, 1, 46), (44, 2, 47), (44, 3, 48), (49, 0, 50), (49, 1, 51), (49, 2, 52), (49, 3, 53), (54, 0, 55), (54, 1, 56), (54, 2, 57), (54, 3, 58), (59, 0, 60), (59, 1, 61), (59, 2, 62), (59, 3, 63), (64, 0, 65), (64, 1, 66), (64, 2, 67), (64, 3, 68)]
def finL1 : List (Nat × Nat × Nat) := [(69, 0, 70), (69, 1, 71), (69, 2, 72), (69, 3, 73), (74, 0, 75), (74, 1, 76), (74, 2, 77), (74, 3, 78), (79, 0, 80), (79, 1, 81), (79, 2, 82), (79, 3, 83), (84, 0, 85), (84, 1, 86), (84, 2, 87), (84, 3, 88), (89, 0, 90), (89, 1, 91), (89, 2, 92), (89, 3, 93), (94, 0, 95), (94, 1, 96), (94, 2, 97), (94, 3, 98), (99, 0, 100), (99, 1, 101), (99, 2, 102), (99, 3, 103), (104, 0, 105), (104, 1, 106), (104, 2, 107), (108, 0, 109), (108, 1, 110), (108, 2, 111), (108, 3, 112), (113, 0, 114), (113, 1, 115), (113, 2, 116), (117, 0, 118), (117, 1, 119), (117, 2, 120), (117, 3, 121), (122, 0, 123), (122, 1, 124), (122, 2, 125), (126, 0, 127), (126, 1, 128), (126, 2, 129), (126, 3, 130), (131, 0, 132), (131, 1, 133), (131, 2, 134), (135, 0, 136), (135, 1, 141), (136, 0, 137), (136, 1, 138), (136, 2, 139), (136, 3, 140), (142, 0, 143), (142, 1, 148)]
def finL2 : List (Nat × Nat × Nat) := [(143, 0, 144), (143, 1, 145), (143, 2, 146), (143, 3, 147), (149, 0, 150), (149, 1, 151), (149, 2, 152), (149, 3, 157), (149, 8, 161), (152, 0, 153), (152, 1, 154), (152, 2, 155), (152, 3, 156), (157, 0, 158), (157, 1, 159), (157, 2, 160), (162, 0, 163), (162, 1, 164), (162, 2, 165), (162, 3, 170), (162, 8, 174), (165, 0, 166), (165, 1, 167), (165, 2, 168), (165, 3, 169), (170, 0, 171), (170, 1, 172), (170, 2, 173), (175, 0, 176), (175, 1, 177), (175, 2, 178), (179, 0, 180), (179, 1, 181), (179, 2, 182), (183, 1, 184), (183, 4, 185), (183, 5, 186), (183, 6, 187), (183, 9, 188), (183, 10, 189), (183, 11, 190), (183, 12, 191), (183, 14, 192), (183, 15, 193), (183, 19, 194), (183, 20, 195), (183, 21, 196), (183, 22, 197), (183, 24, 198), (183, 25, 199), (183, 26, 200), (15, 0, 19), (15, 1, 24), (15, 2, 29), (15, 3, 34), (15, 4, 39), (15, 5, 44), (15, 6, 49), (15, 7, 54), (15, 8, 59)]
def finL3 : List (Nat × Nat × Nat) := [(15, 9, 64), (15, 10, 69), (15, 11, 74), (15, 12, 79), (15, 13, 84), (15, 14, 89), (15, 15, 94), (16, 0, 99), (17, 0, 104), (16, 1, 108), (17, 1, 113), (16, 2, 117), (17, 2, 122), (16, 3, 126), (17, 3, 131)]
def finL : List (Nat × Nat × Nat) := finL0 ++ (finL1 ++ (finL2 ++ (finL3)))
def Std (h : AHP) : Prop := NT ≤ h.2.2.2 ∧ ∀ q ∈ finL, h.2.2.1 q.1 q.2.1 = q.2.2
theorem lay_lt {a c : Nat} (h : (lay a).1 = c) (hc : c < 90) : 0 < a ∧ a ≤ NT := by
  rcases Nat.lt_or_ge a 202 with q | q
  · refine ⟨Nat.pos_of_ne_zero fun e => ?_, Nat.le_of_lt_succ q⟩
    subst e
    rw [show (lay 0).1 = 98 from rfl] at h
    omega
  · rw [lay_big q] at h
    have : (99 : Nat) = c := h
    omega
theorem okc_s {h : AHP} {a c : Nat} (hS : Std h) (hl : (lay a).1 = c) (hc : c < 90) : okc h a c := ⟨hl, (lay_lt hl hc).1, Nat.le_trans (lay_lt hl hc).2 hS.1, (lay_lt hl hc).2⟩
theorem lay_fst {a c n : Nat} (h : lay a = (c, n)) : (lay a).1 = c := by rw [h]
theorem lay_of {P : Nat → Prop} {c : Nat} (dp : ∀ a, Decidable (P a)) (hc : c < 90) (h : (List.range 202).all (fun a => decide ((lay a).1 = c → P a)) = true) {a : Nat} (ha : (lay a).1 = c) : P a := of_decide_eq_true (List.all_eq_true.mp h a (List.mem_range.mpr (Nat.lt_succ_of_le (lay_lt ha hc).2))) ha
theorem fr_1_0 {h : AHP} {a : Nat} (hS : Std h) (ha : (lay a).1 = 1) : h.2.2.1 a 0 = a + 1 := hS.2 (a, 0, a + 1) (lay_of (P := fun a => (a, 0, a + 1) ∈ finL) (fun _ => inferInstance) (by decide) (by decide +kernel) ha)
theorem ly_1_1 {a : Nat} (ha : (lay a).1 = 1) : lay (a + 1) = (20, 7) := lay_of (P := fun a => lay (a + 1) = (20, 7)) (fun _ => inferInstance) (by decide) (by decide +kernel) ha
theorem fr_1_1 {h : AHP} {a : Nat} (hS : Std h) (ha : (lay a).1 = 1) : h.2.2.1 a 1 = a + 2 := hS.2 (a, 1, a + 2) (lay_of (P := fun a => (a, 1, a + 2) ∈ finL) (fun _ => inferInstance) (by decide) (by decide +kernel) ha)
theorem ly_1_2 {a : Nat} (ha : (lay a).1 = 1) : lay (a + 2) = (20, 7) := lay_of (P := fun a => lay (a + 2) = (20, 7)) (fun _ => inferInstance) (by decide) (by decide +kernel) ha
theorem fr_1_2 {h : AHP} {a : Nat} (hS : Std h) (ha : (lay a).1 = 1) : h.2.2.1 a 2 = a + 3 := hS.2 (a, 2, a + 3) (lay_of (P := fun a => (a, 2, a + 3) ∈ finL) (fun _ => inferInstance) (by decide) (by decide +kernel) ha)
theorem ly_1_3 {a : Nat} (ha : (lay a).1 = 1) : lay (a + 3) = (20, 7) := lay_of (P := fun a => lay (a + 3) = (20, 7)) (fun _ => inferInstance) (by decide) (by decide +kernel) ha
theorem fr_1_3 {h : AHP} {a : Nat} (hS : Std h) (ha : (lay a).1 = 1) : h.2.2.1 a 3 = a + 4 := hS.2 (a, 3, a + 4) (lay_of (P := fun a => (a, 3, a + 4) ∈ finL) (fun _ => inferInstance) (by decide) (by decide +kernel) ha)
theorem ly_1_4 {a : Nat} (ha : (lay a).1 = 1) : lay (a + 4) = (20, 12) := lay_of (P := fun a => lay (a + 4) = (20, 12)) (fun _ => inferInstance) (by decide) (by decide +kernel) ha
theorem fr_9_0 {h : AHP} {a : Nat} (hS : Std h) (ha : (lay a).1 = 9) : h.2.2.1 a 0 = a + 1 := hS.2 (a, 0, a + 1) (lay_of (P := fun a => (a, 0, a + 1) ∈ finL) (fun _ => inferInstance) (by decide) (by decide +kernel) ha)
theorem ly_9_1 {a : Nat} (ha : (lay a).1 = 9) : lay (a + 1) = (20, 6) := lay_of (P := fun a => lay (a + 1) = (20, 6)) (fun _ => inferInstance) (by decide) (by decide +kernel) ha
theorem fr_9_1 {h : AHP} {a : Nat} (hS : Std h) (ha : (lay a).1 = 9) : h.2.2.1 a 1 = a + 2 := hS.2 (a, 1, a + 2) (lay_of (P := fun a => (a, 1, a + 2) ∈ finL) (fun _ => inferInstance) (by decide) (by decide +kernel) ha)
theorem ly_9_2 {a : Nat} (ha : (lay a).1 = 9) : lay (a + 2) = (20, 6) := lay_of (P := fun a => lay (a + 2) = (20, 6)) (fun _ => inferInstance) (by decide) (by decide +kernel) ha
theorem fr_9_2 {h : AHP} {a : Nat} (hS : Std h) (ha : (lay a).1 = 9) : h.2.2.1 a 2 = a + 3 := hS.2 (a, 2, a + 3) (lay_of (P := fun a => (a, 2, a + 3) ∈ finL) (fun _ => inferInstance) (by decide) (by decide +kernel) ha)
theorem ly_9_3 {a : Nat} (ha : (lay a).1 = 9) : lay (a + 3) = (20, 6) := lay_of (P := fun a => lay (a + 3) = (20, 6)) (fun _ => inferInstance) (by decide) (by decide +kernel) ha
theorem fr_0_0 {h : AHP} {a : Nat} (hS : Std h) (ha : (lay a).1 = 0) : h.2.2.1 a 0 = a + 1 := hS.2 (a, 0, a + 1) (lay_of (P := fun a => (a, 0, a + 1) ∈ finL) (fun _ => inferInstance) (by decide) (by decide +kernel) ha)
theorem ly_0_1 {a : Nat} (ha : (lay a).1 = 0) : lay (a + 1) = (20, 40) := lay_of (P := fun a => lay (a + 1) = (20, 40)) (fun _ => inferInstance) (by decide) (by decide +kernel) ha
theorem fr_0_1 {h : AHP} {a : Nat} (hS : Std h) (ha : (lay a).1 = 0) : h.2.2.1 a 1 = a + 2 := hS.2 (a, 1, a + 2) (lay_of (P := fun a => (a, 1, a + 2) ∈ finL) (fun _ => inferInstance) (by decide) (by decide +kernel) ha)
theorem ly_0_2 {a : Nat} (ha : (lay a).1 = 0) : lay (a + 2) = (20, 40) := lay_of (P := fun a => lay (a + 2) = (20, 40)) (fun _ => inferInstance) (by decide) (by decide +kernel) ha
theorem fr_0_2 {h : AHP} {a : Nat} (hS : Std h) (ha : (lay a).1 = 0) : h.2.2.1 a 2 = a + 3 := hS.2 (a, 2, a + 3) (lay_of (P := fun a => (a, 2, a + 3) ∈ finL) (fun _ => inferInstance) (by decide) (by decide +kernel) ha)
theorem ly_0_3 {a : Nat} (ha : (lay a).1 = 0) : lay (a + 3) = (20, 40) := lay_of (P := fun a => lay (a + 3) = (20, 40)) (fun _ => inferInstance) (by decide) (by decide +kernel) ha
theorem fr_4_0 {h : AHP} {a : Nat} (hS : Std h) (ha : (lay a).1 = 4) : h.2.2.1 a 0 = a + 1 := hS.2 (a, 0, a + 1) (lay_of (P := fun a => (a, 0, a + 1) ∈ finL) (fun _ => inferInstance) (by decide) (by decide +kernel) ha)
theorem ly_4_1 {a : Nat} (ha : (lay a).1 = 4) : lay (a + 1) = (20, 1000) := lay_of (P := fun a => lay (a + 1) = (20, 1000)) (fun _ => inferInstance) (by decide) (by decide +kernel) ha
theorem fr_4_1 {h : AHP} {a : Nat} (hS : Std h) (ha : (lay a).1 = 4) : h.2.2.1 a 1 = a + 2 := hS.2 (a, 1, a + 2) (lay_of (P := fun a => (a, 1, a + 2) ∈ finL) (fun _ => inferInstance) (by decide) (by decide +kernel) ha)
theorem ly_4_2 {a : Nat} (ha : (lay a).1 = 4) : lay (a + 2) = (20, 4) := lay_of (P := fun a => lay (a + 2) = (20, 4)) (fun _ => inferInstance) (by decide) (by decide +kernel) ha
theorem fr_4_2 {h : AHP} {a : Nat} (hS : Std h) (ha : (lay a).1 = 4) : h.2.2.1 a 2 = a + 3 := hS.2 (a, 2, a + 3) (lay_of (P := fun a => (a, 2, a + 3) ∈ finL) (fun _ => inferInstance) (by decide) (by decide +kernel) ha)
theorem ly_4_3 {a : Nat} (ha : (lay a).1 = 4) : lay (a + 3) = (20, 24) := lay_of (P := fun a => lay (a + 3) = (20, 24)) (fun _ => inferInstance) (by decide) (by decide +kernel) ha
theorem fr_3_0 {h : AHP} {a : Nat} (hS : Std h) (ha : (lay a).1 = 3) : h.2.2.1 a 0 = a + 1 := hS.2 (a, 0, a + 1) (lay_of (P := fun a => (a, 0, a + 1) ∈ finL) (fun _ => inferInstance) (by decide) (by decide +kernel) ha)
theorem ly_3_1 {a : Nat} (ha : (lay a).1 = 3) : lay (a + 1) = (21, 7) := lay_of (P := fun a => lay (a + 1) = (21, 7)) (fun _ => inferInstance) (by decide) (by decide +kernel) ha
theorem fr_3_1 {h : AHP} {a : Nat} (hS : Std h) (ha : (lay a).1 = 3) : h.2.2.1 a 1 = a + 2 := hS.2 (a, 1, a + 2) (lay_of (P := fun a => (a, 1, a + 2) ∈ finL) (fun _ => inferInstance) (by decide) (by decide +kernel) ha)
theorem ly_3_2 {a : Nat} (ha : (lay a).1 = 3) : lay (a + 2) = (20, 7) := lay_of (P := fun a => lay (a + 2) = (20, 7)) (fun _ => inferInstance) (by decide) (by decide +kernel) ha
theorem fr_3_2 {h : AHP} {a : Nat} (hS : Std h) (ha : (lay a).1 = 3) : h.2.2.1 a 2 = a + 3 := hS.2 (a, 2, a + 3) (lay_of (P := fun a => (a, 2, a + 3) ∈ finL) (fun _ => inferInstance) (by decide) (by decide +kernel) ha)
theorem ly_3_3 {a : Nat} (ha : (lay a).1 = 3) : lay (a + 3) = (1, 6) := lay_of (P := fun a => lay (a + 3) = (1, 6)) (fun _ => inferInstance) (by decide) (by decide +kernel) ha
theorem fr_3_3 {h : AHP} {a : Nat} (hS : Std h) (ha : (lay a).1 = 3) : h.2.2.1 a 3 = a + 8 := hS.2 (a, 3, a + 8) (lay_of (P := fun a => (a, 3, a + 8) ∈ finL) (fun _ => inferInstance) (by decide) (by decide +kernel) ha)
theorem ly_3_8 {a : Nat} (ha : (lay a).1 = 3) : lay (a + 8) = (4, 4) := lay_of (P := fun a => lay (a + 8) = (4, 4)) (fun _ => inferInstance) (by decide) (by decide +kernel) ha
theorem fr_3_8 {h : AHP} {a : Nat} (hS : Std h) (ha : (lay a).1 = 3) : h.2.2.1 a 8 = a + 12 := hS.2 (a, 8, a + 12) (lay_of (P := fun a => (a, 8, a + 12) ∈ finL) (fun _ => inferInstance) (by decide) (by decide +kernel) ha)
theorem ly_3_12 {a : Nat} (ha : (lay a).1 = 3) : lay (a + 12) = (20, 12) := lay_of (P := fun a => lay (a + 12) = (20, 12)) (fun _ => inferInstance) (by decide) (by decide +kernel) ha
theorem fr_10_0 {h : AHP} (hS : Std h) : h.2.2.1 1 0 = 2 := hS.2 (1, 0, 2) (by decide +kernel)
theorem fr_10_1 {h : AHP} (hS : Std h) : h.2.2.1 1 1 = 4 := hS.2 (1, 1, 4) (by decide +kernel)
theorem fr_10_2 {h : AHP} (hS : Std h) : h.2.2.1 1 2 = 5 := hS.2 (1, 2, 5) (by decide +kernel)
theorem fr_10_3 {h : AHP} (hS : Std h) : h.2.2.1 1 3 = 10 := hS.2 (1, 3, 10) (by decide +kernel)
theorem fr_10_4 {h : AHP} (hS : Std h) : h.2.2.1 1 4 = 14 := hS.2 (1, 4, 14) (by decide +kernel)
theorem fr_10_5 {h : AHP} (hS : Std h) : h.2.2.1 1 5 = 135 := hS.2 (1, 5, 135) (by decide +kernel)
theorem fr_10_6 {h : AHP} (hS : Std h) : h.2.2.1 1 6 = 142 := hS.2 (1, 6, 142) (by decide +kernel)
theorem fr_8_0 {h : AHP} (hS : Std h) : h.2.2.1 2 0 = 3 := hS.2 (2, 0, 3) (by decide +kernel)
theorem fr_6_0 {h : AHP} (hS : Std h) : h.2.2.1 4 0 = 2 := hS.2 (4, 0, 2) (by decide +kernel)
theorem fr_5_0 {h : AHP} (hS : Std h) : h.2.2.1 14 0 = 15 := hS.2 (14, 0, 15) (by decide +kernel)
theorem fr_5_1 {h : AHP} (hS : Std h) : h.2.2.1 14 1 = 16 := hS.2 (14, 1, 16) (by decide +kernel)
theorem fr_5_2 {h : AHP} (hS : Std h) : h.2.2.1 14 2 = 17 := hS.2 (14, 2, 17) (by decide +kernel)
theorem fr_5_3 {h : AHP} (hS : Std h) : h.2.2.1 14 3 = 18 := hS.2 (14, 3, 18) (by decide +kernel)
theorem fr_2_0 {h : AHP} (hS : Std h) : h.2.2.1 135 0 = 136 := hS.2 (135, 0, 136) (by decide +kernel)
theorem fr_2_1 {h : AHP} (hS : Std h) : h.2.2.1 135 1 = 141 := hS.2 (135, 1, 141) (by decide +kernel)
theorem fr_7_0 {h : AHP} (hS : Std h) : h.2.2.1 142 0 = 143 := hS.2 (142, 0, 143) (by decide +kernel)
theorem fr_7_1 {h : AHP} (hS : Std h) : h.2.2.1 142 1 = 148 := hS.2 (142, 1, 148) (by decide +kernel)
theorem fr_11_1 {h : AHP} (hS : Std h) : h.2.2.1 183 1 = 184 := hS.2 (183, 1, 184) (by decide +kernel)
theorem fr_11_4 {h : AHP} (hS : Std h) : h.2.2.1 183 4 = 185 := hS.2 (183, 4, 185) (by decide +kernel)
theorem fr_11_5 {h : AHP} (hS : Std h) : h.2.2.1 183 5 = 186 := hS.2 (183, 5, 186) (by decide +kernel)
theorem fr_11_6 {h : AHP} (hS : Std h) : h.2.2.1 183 6 = 187 := hS.2 (183, 6, 187) (by decide +kernel)
theorem fr_11_9 {h : AHP} (hS : Std h) : h.2.2.1 183 9 = 188 := hS.2 (183, 9, 188) (by decide +kernel)
theorem fr_11_10 {h : AHP} (hS : Std h) : h.2.2.1 183 10 = 189 := hS.2 (183, 10, 189) (by decide +kernel)
theorem fr_11_11 {h : AHP} (hS : Std h) : h.2.2.1 183 11 = 190 := hS.2 (183, 11, 190) (by decide +kernel)
theorem fr_11_12 {h : AHP} (hS : Std h) : h.2.2.1 183 12 = 191 := hS.2 (183, 12, 191) (by decide +kernel)
theorem fr_11_14 {h : AHP} (hS : Std h) : h.2.2.1 183 14 = 192 := hS.2 (183, 14, 192) (by decide +kernel)
theorem fr_11_15 {h : AHP} (hS : Std h) : h.2.2.1 183 15 = 193 := hS.2 (183, 15, 193) (by decide +kernel)
theorem fr_11_19 {h : AHP} (hS : Std h) : h.2.2.1 183 19 = 194 := hS.2 (183, 19, 194) (by decide +kernel)
theorem fr_11_20 {h : AHP} (hS : Std h) : h.2.2.1 183 20 = 195 := hS.2 (183, 20, 195) (by decide +kernel)
theorem fr_11_21 {h : AHP} (hS : Std h) : h.2.2.1 183 21 = 196 := hS.2 (183, 21, 196) (by decide +kernel)
theorem fr_11_22 {h : AHP} (hS : Std h) : h.2.2.1 183 22 = 197 := hS.2 (183, 22, 197) (by decide +kernel)
theorem fr_11_24 {h : AHP} (hS : Std h) : h.2.2.1 183 24 = 198 := hS.2 (183, 24, 198) (by decide +kernel)
theorem fr_11_25 {h : AHP} (hS : Std h) : h.2.2.1 183 25 = 199 := hS.2 (183, 25, 199) (by decide +kernel)
theorem fr_11_26 {h : AHP} (hS : Std h) : h.2.2.1 183 26 = 200 := hS.2 (183, 26, 200) (by decide +kernel)
theorem fr_kept {h : AHP} (hS : Std h) {i : Nat} (hi : i < 16) : h.2.2.1 15 i = 19 + 5 * i := hS.2 (15, i, 19 + 5 * i) (of_decide_eq_true (List.all_eq_true.mp (show (List.range 16).all (fun i => decide ((15, i, 19 + 5 * i) ∈ finL)) = true by decide +kernel) i (List.mem_range.mpr hi)))
theorem fr_mf {h : AHP} (hS : Std h) {i : Nat} (hi : i < 4) : h.2.2.1 16 i = 99 + 9 * i := hS.2 (16, i, 99 + 9 * i) (of_decide_eq_true (List.all_eq_true.mp (show (List.range 4).all (fun i => decide ((16, i, 99 + 9 * i) ∈ finL)) = true by decide +kernel) i (List.mem_range.mpr hi)))
theorem fr_mt {h : AHP} (hS : Std h) {i : Nat} (hi : i < 4) : h.2.2.1 17 i = 104 + 9 * i := hS.2 (17, i, 104 + 9 * i) (of_decide_eq_true (List.all_eq_true.mp (show (List.range 4).all (fun i => decide ((17, i, 104 + 9 * i) ∈ finL)) = true by decide +kernel) i (List.mem_range.mpr hi)))
theorem ly_kept {i : Nat} (hi : i < 16) : (lay (19 + 5 * i)).1 = 1 := of_decide_eq_true (List.all_eq_true.mp (show (List.range 16).all (fun i => decide ((lay (19 + 5 * i)).1 = 1)) = true by decide +kernel) i (List.mem_range.mpr hi))
theorem ly_mf {i : Nat} (hi : i < 4) : (lay (99 + 9 * i)).1 = 1 := of_decide_eq_true (List.all_eq_true.mp (show (List.range 4).all (fun i => decide ((lay (99 + 9 * i)).1 = 1)) = true by decide +kernel) i (List.mem_range.mpr hi))
theorem ly_mt {i : Nat} (hi : i < 4) : (lay (104 + 9 * i)).1 = 9 := of_decide_eq_true (List.all_eq_true.mp (show (List.range 4).all (fun i => decide ((lay (104 + 9 * i)).1 = 9)) = true by decide +kernel) i (List.mem_range.mpr hi))
/-! ===== steps ===== -/
abbrev inb (i : Int32) (n : Nat) : Prop := ¬ (i < 0 ∨ n ≤ i.toNatClampNeg)
section STP
variable {h : AHP} {a b c k n m v : Nat} {ls : ALS} {st : List Value} {i x : Int32} {y : Int64}
theorem g_getI (hS : Std h) (hl : (lay a).1 = c) (hc : c < 90) : ∀ C G, o_getI n c k C G ls (.ref a :: st) h = G n ls (.int (h.1 a k) :: st) h := fun _ _ => if_pos (okc_s hS hl hc)
theorem g_getJ (hS : Std h) (hl : (lay a).1 = c) (hc : c < 90) : ∀ C G, o_getJ n c k C G ls (.ref a :: st) h = G n ls (.long (h.2.1 a k) :: st) h := fun _ _ => if_pos (okc_s hS hl hc)
theorem g_getR (hS : Std h) (hl : (lay a).1 = c) (hc : c < 90) (hv : h.2.2.1 a k = v) (h0 : 0 < v) : ∀ C G, o_getR n c k C G ls (.ref a :: st) h = G n ls (.ref v :: st) h := fun _ _ => (if_pos (okc_s hS hl hc)).trans ((if_neg (by rw [hv]; exact Nat.ne_of_gt h0)).trans (by rw [hv]))
theorem g_putI (hS : Std h) (hl : (lay a).1 = c) (hc : c < 90) : ∀ C G, o_putI n c k C G ls (.int x :: .ref a :: st) h = G n ls st (sI h a k x) := fun _ _ => if_pos (okc_s hS hl hc)
theorem g_putZ (hS : Std h) (hl : (lay a).1 = c) (hc : c < 90) (hx : x = 0 ∨ x = 1) : ∀ C G, o_putZ n c k C G ls (.int x :: .ref a :: st) h = G n ls st (sI h a k x) := fun _ _ => (if_pos (okc_s hS hl hc)).trans (if_pos hx)
theorem g_putJ (hS : Std h) (hl : (lay a).1 = c) (hc : c < 90) : ∀ C G, o_putJ n c k C G ls (.long y :: .ref a :: st) h = G n ls st (sJ h a k y) := fun _ _ => if_pos (okc_s hS hl hc)
theorem g_putR (hS : Std h) (hl : (lay a).1 = c) (hc : c < 90) (h0 : 0 < v) : ∀ C G, o_putR n c k C G ls (.ref v :: .ref a :: st) h = G n ls st (sR h a k v) := fun _ _ => (if_pos (okc_s hS hl hc)).trans (if_neg (Nat.ne_of_gt h0))
theorem g_iald (hS : Std h) (hl : lay a = (20, m)) (hi : inb i m) : ∀ C G, o_iald n C G ls (.int i :: .ref a :: st) h = G n ls (.int (h.1 a i.toNatClampNeg) :: st) h := fun _ _ => (if_pos (okc_s hS (lay_fst hl) (by decide))).trans (if_neg (by rw [hl]; exact hi))
theorem g_zald (hS : Std h) (hl : lay a = (22, m)) (hi : inb i m) : ∀ C G, o_zald n C G ls (.int i :: .ref a :: st) h = G n ls (.int (h.1 a i.toNatClampNeg) :: st) h := fun _ _ => (if_pos (okc_s hS (lay_fst hl) (by decide))).trans (if_neg (by rw [hl]; exact hi))
theorem g_lald (hS : Std h) (hl : lay a = (21, m)) (hi : inb i m) : ∀ C G, o_lald n C G ls (.int i :: .ref a :: st) h = G n ls (.long (h.2.1 a i.toNatClampNeg) :: st) h := fun _ _ => (if_pos (okc_s hS (lay_fst hl) (by decide))).trans (if_neg (by rw [hl]; exact hi))
theorem g_aald (hS : Std h) (hl : lay a = (c, m)) (hc : c < 90) (hi : inb i m) (hv : h.2.2.1 a i.toNatClampNeg = v) (h0 : 0 < v) : ∀ C G, o_aald n c C G ls (.int i :: .ref a :: st) h = G n ls (.ref v :: st) h := fun _ _ => (if_pos (okc_s hS (lay_fst hl) hc)).trans ((if_neg (by rw [hl]; exact hi)).trans ((if_neg (by rw [hv]; exact Nat.ne_of_gt h0)).trans (by rw [hv])))
theorem g_iast (hS : Std h) (hl : lay a = (20, m)) (hi : inb i m) : ∀ C G, o_iast n C G ls (.int x :: .int i :: .ref a :: st) h = G n ls st (sI h a i.toNatClampNeg x) := fun _ _ => (if_pos (okc_s hS (lay_fst hl) (by decide))).trans (if_neg (by rw [hl]; exact hi))
theorem g_zast (hS : Std h) (hl : lay a = (22, m)) (hi : inb i m) (hx : x = 0 ∨ x = 1) : ∀ C G, o_zast n C G ls (.int x :: .int i :: .ref a :: st) h = G n ls st (sI h a i.toNatClampNeg x) := fun _ _ => (if_pos (okc_s hS (lay_fst hl) (by decide))).trans ((if_neg (by rw [hl]; exact hi)).trans (if_pos hx))
theorem g_last (hS : Std h) (hl : lay a = (21, m)) (hi : inb i m) : ∀ C G, o_last n C G ls (.long y :: .int i :: .ref a :: st) h = G n ls st (sJ h a i.toNatClampNeg y) := fun _ _ => (if_pos (okc_s hS (lay_fst hl) (by decide))).trans (if_neg (by rw [hl]; exact hi))
theorem g_acopy {k dp sp : Int32} {m1 m2 : Nat} (hS : Std h) (hl : lay a = (20, m1)) (hl2 : lay b = (20, m2)) (hi : ¬ sp < 0 ∧ ¬ dp < 0 ∧ ¬ k < 0 ∧ sp.toNatClampNeg + k.toNatClampNeg ≤ m1 ∧ dp.toNatClampNeg + k.toNatClampNeg ≤ m2 ∧ (st.map fun v => v.category).sum ≤ 8) : ∀ C G, o_acopy n C G ls (.int k :: .int dp :: .ref b :: .int sp :: .ref a :: st) h = G n ls st (rowI h b (va_cpy (h.1 a) (h.1 b) sp.toNatClampNeg dp.toNatClampNeg k.toNatClampNeg)) := fun _ _ => (if_pos (okc_s hS (lay_fst hl) (by decide))).trans ((if_pos (okc_s hS (lay_fst hl2) (by decide))).trans (if_pos (by rw [hl, hl2]; exact hi)))
theorem g_callV {j : Nat} {as rest : List Value} (hS : Std h) (hl : (lay a).1 = c) (hc : c < 90) (ht : (st.take j).reverse = .ref a :: as) (hn : as.length + 1 = j) (hd : st.drop j = rest) (hr : (rest.map fun v => v.category).sum ≤ 8) : ∀ C G, o_callV n k j c C G ls st h = match C k (.ref a :: as) h with | some (v, h2) => G n ls (v.toList ++ rest) h2 | none => none := by
  intro C G
  subst hd
  unfold o_callV
  rw [ht]
  exact (if_pos (okc_s hS hl hc)).trans (if_pos ⟨hn, hr⟩)
theorem g_callS {j : Nat} {as rest : List Value} (ht : (st.take j).reverse = as) (hn : (st.take j).length = j) (hd : st.drop j = rest) (hr : (rest.map fun v => v.category).sum ≤ 8) : ∀ C G, o_callS n k j C G ls st h = match C k as h with | some (v, h2) => G n ls (v.toList ++ rest) h2 | none => none := by
  intro C G
  subst hd
  subst ht
  exact if_pos ⟨hn, hr⟩
theorem if_split {c : Prop} {dc : Decidable c} {A B : Prop} (ha : c → A) (hb : ¬ c → B) : @ite Prop c dc A B := by
  by_cases hc : c
  · rw [if_pos hc]; exact ha hc
  · rw [if_neg hc]; exact hb hc
end STP
theorem Std_sI {h : AHP} {a i : Nat} {v : Int32} : Std (sI h a i v) = Std h := rfl
theorem Std_sJ {h : AHP} {a i : Nat} {v : Int64} : Std (sJ h a i v) = Std h := rfl
theorem Std_rowI {h : AHP} {a : Nat} {r : Nat → Int32} : Std (rowI h a r) = Std h := rfl
