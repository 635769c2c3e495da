/-! ===== rests, as the law calls it: a value, or a throw ===== -/
def gnV (a b c : Int32) (own his : Bool) : Int32 := if own then (if his then a else -b) else (if his then c else 0)
def atR (a b c : Int32) (k : Nat) : Bool :=
  let f := Nat.beq (k / 2) 1
  let o := Nat.beq (k % 2) 1
  !(decide (gnV a b c f o < gnV a b c (!f) o)) && !(decide (gnV a b c o f < gnV a b c (!o) f))
def rsL (a b c d : Int32) : Nat → Nat → Int32 → Option Int32
  | 0, _, n => if d = -1 then some n else none
  | j + 1, k, n => if atR a b c k then (if n = d then some (nI k) else rsL a b c d j (k + 1) (n + 1)) else rsL a b c d j (k + 1) n
def gnP (x : Int32) : Bool := decide (¬ x < 0 ∧ ¬ 9 < x)
def rsV (a b c d : Int32) : Option Int32 := if gnP a && gnP b && gnP c then rsL a b c d 4 0 0 else none
def rsH (h : AHP) : AHP := (h.1, h.2.1, h.2.2.1, h.2.2.2 + 1)
def o_rests (n : Nat) : AOP := fun _ G ls st h => match st with
  | .ref o :: .int d :: .int c :: .int b :: .int a :: .ref x :: st => if x = 1 ∧ o = 201 ∧ 201 ≤ h.2.2.2 ∧ h.2.2.2 < 80000 ∧ st = [] then (match rsV a b c d with | some v => G n ls (.int 0 :: st) (sJ h 201 0 (Int32.toInt64 v)) | none => G n ls (.int 1 :: st) (rsH h)) else none
  | _ => none
theorem mon_rests {n : Nat} : MonOp (o_rests n) := by
  intro C C' G G' ls st h r hC hG ho
  unfold o_rests at ho ⊢
  split at ho
  · split at ho
    · rename_i hc
      rw [if_pos hc]
      split at ho
      · rename_i v hv
        exact hG _ _ _ _ _ ho
      · rename_i hv
        exact hG _ _ _ _ _ ho
    · cases ho
  · cases ho
