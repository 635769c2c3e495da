/-! ===== more fuel, the same answer ===== -/
def MonOp (op : AOP) : Prop := ∀ C C' G G' ls st h r, (∀ k as h1 r1, C k as h1 = some r1 → C' k as h1 = some r1) → (∀ pc' ls' st' h' r1, G pc' ls' st' h' = some r1 → G' pc' ls' st' h' = some r1) → op C G ls st h = some r → op C' G' ls st h = some r
theorem mon_ci {n : Nat} {v : Int32} : MonOp (o_ci n v) := by
  intro C C' G G' ls st h r hC hG ho
  unfold o_ci at ho ⊢
  exact hG _ _ _ _ _ ho
theorem mon_cl {n : Nat} {v : Int64} : MonOp (o_cl n v) := by
  intro C C' G G' ls st h r hC hG ho
  unfold o_cl at ho ⊢
  exact hG _ _ _ _ _ ho
theorem mon_goto {n : Nat} : MonOp (o_goto n) := by
  intro C C' G G' ls st h r hC hG ho
  unfold o_goto at ho ⊢
  exact hG _ _ _ _ _ ho
theorem mon_gets {n a : Nat} : MonOp (o_gets n a) := by
  intro C C' G G' ls st h r hC hG ho
  unfold o_gets at ho ⊢
  exact hG _ _ _ _ _ ho
theorem mon_iload {n i : Nat} : MonOp (o_iload n i) := by
  intro C C' G G' ls st h r hC hG ho
  unfold o_iload at ho ⊢
  split at ho
  rotate_left
  · cases ho
  exact hG _ _ _ _ _ ho
theorem mon_lload {n i : Nat} : MonOp (o_lload n i) := by
  intro C C' G G' ls st h r hC hG ho
  unfold o_lload at ho ⊢
  split at ho
  rotate_left
  · cases ho
  exact hG _ _ _ _ _ ho
theorem mon_aload {n i : Nat} : MonOp (o_aload n i) := by
  intro C C' G G' ls st h r hC hG ho
  unfold o_aload at ho ⊢
  split at ho
  rotate_left
  · cases ho
  exact hG _ _ _ _ _ ho
theorem mon_istore {n i : Nat} : MonOp (o_istore n i) := by
  intro C C' G G' ls st h r hC hG ho
  unfold o_istore at ho ⊢
  split at ho
  rotate_left
  · cases ho
  split at ho
  rotate_left
  · cases ho
  rename_i hc
  rw [if_pos hc]
  exact hG _ _ _ _ _ ho
theorem mon_lstore {n i : Nat} : MonOp (o_lstore n i) := by
  intro C C' G G' ls st h r hC hG ho
  unfold o_lstore at ho ⊢
  split at ho
  rotate_left
  · cases ho
  split at ho
  rotate_left
  · cases ho
  rename_i hc
  rw [if_pos hc]
  exact hG _ _ _ _ _ ho
theorem mon_astore {n i : Nat} : MonOp (o_astore n i) := by
  intro C C' G G' ls st h r hC hG ho
  unfold o_astore at ho ⊢
  split at ho
  rotate_left
  · cases ho
  split at ho
  rotate_left
  · cases ho
  rename_i hc
  rw [if_pos hc]
  exact hG _ _ _ _ _ ho
theorem mon_iinc {n i : Nat} {c : Int32} : MonOp (o_iinc n i c) := by
  intro C C' G G' ls st h r hC hG ho
  unfold o_iinc at ho ⊢
  split at ho
  rotate_left
  · cases ho
  exact hG _ _ _ _ _ ho
theorem mon_i2 {n : Nat} {f : Int32 → Int32 → Int32} : MonOp (o_i2 n f) := by
  intro C C' G G' ls st h r hC hG ho
  unfold o_i2 at ho ⊢
  split at ho
  rotate_left
  · cases ho
  exact hG _ _ _ _ _ ho
theorem mon_l2 {n : Nat} {f : Int64 → Int64 → Int64} : MonOp (o_l2 n f) := by
  intro C C' G G' ls st h r hC hG ho
  unfold o_l2 at ho ⊢
  split at ho
  rotate_left
  · cases ho
  exact hG _ _ _ _ _ ho
theorem mon_lsh {n : Nat} {f : Int64 → Int32 → Int64} : MonOp (o_lsh n f) := by
  intro C C' G G' ls st h r hC hG ho
  unfold o_lsh at ho ⊢
  split at ho
  rotate_left
  · cases ho
  exact hG _ _ _ _ _ ho
theorem mon_i1 {n : Nat} {f : Int32 → Int32} : MonOp (o_i1 n f) := by
  intro C C' G G' ls st h r hC hG ho
  unfold o_i1 at ho ⊢
  split at ho
  rotate_left
  · cases ho
  exact hG _ _ _ _ _ ho
theorem mon_i2d {n : Nat} {f : Int32 → Int32 → Int32} : MonOp (o_i2d n f) := by
  intro C C' G G' ls st h r hC hG ho
  unfold o_i2d at ho ⊢
  split at ho
  rotate_left
  · cases ho
  split at ho
  · cases ho
  rename_i hc
  rw [if_neg hc]
  exact hG _ _ _ _ _ ho
theorem mon_l2d {n : Nat} {f : Int64 → Int64 → Int64} : MonOp (o_l2d n f) := by
  intro C C' G G' ls st h r hC hG ho
  unfold o_l2d at ho ⊢
  split at ho
  rotate_left
  · cases ho
  split at ho
  · cases ho
  rename_i hc
  rw [if_neg hc]
  exact hG _ _ _ _ _ ho
theorem mon_i2l {n : Nat} : MonOp (o_i2l n) := by
  intro C C' G G' ls st h r hC hG ho
  unfold o_i2l at ho ⊢
  split at ho
  rotate_left
  · cases ho
  exact hG _ _ _ _ _ ho
theorem mon_l2i {n : Nat} : MonOp (o_l2i n) := by
  intro C C' G G' ls st h r hC hG ho
  unfold o_l2i at ho ⊢
  split at ho
  rotate_left
  · cases ho
  exact hG _ _ _ _ _ ho
theorem mon_lcmp {n : Nat} : MonOp (o_lcmp n) := by
  intro C C' G G' ls st h r hC hG ho
  unfold o_lcmp at ho ⊢
  split at ho
  rotate_left
  · cases ho
  exact hG _ _ _ _ _ ho
theorem mon_dupI {n : Nat} : MonOp (o_dupI n) := by
  intro C C' G G' ls st h r hC hG ho
  unfold o_dupI at ho ⊢
  split at ho
  rotate_left
  · cases ho
  exact hG _ _ _ _ _ ho
theorem mon_dupA {n : Nat} : MonOp (o_dupA n) := by
  intro C C' G G' ls st h r hC hG ho
  unfold o_dupA at ho ⊢
  split at ho
  rotate_left
  · cases ho
  exact hG _ _ _ _ _ ho
theorem mon_dup2 {n : Nat} : MonOp (o_dup2 n) := by
  intro C C' G G' ls st h r hC hG ho
  unfold o_dup2 at ho ⊢
  split at ho
  rotate_left
  · cases ho
  exact hG _ _ _ _ _ ho
theorem mon_popI {n : Nat} : MonOp (o_popI n) := by
  intro C C' G G' ls st h r hC hG ho
  unfold o_popI at ho ⊢
  split at ho
  rotate_left
  · cases ho
  exact hG _ _ _ _ _ ho
theorem mon_if {n t : Nat} {c : Int32 → Prop} {d : DecidablePred c} : MonOp (o_if n t c d) := by
  intro C C' G G' ls st h r hC hG ho
  unfold o_if at ho ⊢
  unfold iff_ at ho ⊢
  split at ho
  rotate_left
  · cases ho
  split at ho
  · rename_i hc; rw [if_pos hc]; exact hG _ _ _ _ _ ho
  · rename_i hc; rw [if_neg hc]; exact hG _ _ _ _ _ ho
theorem mon_icmp {n t : Nat} {c : Int32 → Int32 → Prop} {d : ∀ x y, Decidable (c x y)} : MonOp (o_icmp n t c d) := by
  intro C C' G G' ls st h r hC hG ho
  unfold o_icmp at ho ⊢
  unfold iff_ at ho ⊢
  split at ho
  rotate_left
  · cases ho
  split at ho
  · rename_i hc; rw [if_pos hc]; exact hG _ _ _ _ _ ho
  · rename_i hc; rw [if_neg hc]; exact hG _ _ _ _ _ ho
theorem mon_acmpEq {n t : Nat} : MonOp (o_acmpEq n t) := by
  intro C C' G G' ls st h r hC hG ho
  unfold o_acmpEq at ho ⊢
  split at ho
  rotate_left
  · cases ho
  split at ho
  rotate_left
  · cases ho
  rename_i hc
  rw [if_pos hc]
  split at ho
  · rename_i hc; rw [if_pos hc]; exact hG _ _ _ _ _ ho
  · rename_i hc; rw [if_neg hc]; exact hG _ _ _ _ _ ho
theorem mon_acmpNe {n t : Nat} : MonOp (o_acmpNe n t) := by
  intro C C' G G' ls st h r hC hG ho
  unfold o_acmpNe at ho ⊢
  split at ho
  rotate_left
  · cases ho
  split at ho
  rotate_left
  · cases ho
  rename_i hc
  rw [if_pos hc]
  split at ho
  · rename_i hc; rw [if_pos hc]; exact hG _ _ _ _ _ ho
  · rename_i hc; rw [if_neg hc]; exact hG _ _ _ _ _ ho
theorem mon_sw {f : Int32 → Nat} : MonOp (o_sw f) := by
  intro C C' G G' ls st h r hC hG ho
  unfold o_sw at ho ⊢
  split at ho
  rotate_left
  · cases ho
  exact hG _ _ _ _ _ ho
theorem mon_getI {n c k : Nat} : MonOp (o_getI n c k) := by
  intro C C' G G' ls st h r hC hG ho
  unfold o_getI at ho ⊢
  unfold iff_ at ho ⊢
  split at ho
  rotate_left
  · cases ho
  split at ho
  rotate_left
  · cases ho
  rename_i hc
  rw [if_pos hc]
  exact hG _ _ _ _ _ ho
theorem mon_getJ {n c k : Nat} : MonOp (o_getJ n c k) := by
  intro C C' G G' ls st h r hC hG ho
  unfold o_getJ at ho ⊢
  unfold iff_ at ho ⊢
  split at ho
  rotate_left
  · cases ho
  split at ho
  rotate_left
  · cases ho
  rename_i hc
  rw [if_pos hc]
  exact hG _ _ _ _ _ ho
theorem mon_putI {n c k : Nat} : MonOp (o_putI n c k) := by
  intro C C' G G' ls st h r hC hG ho
  unfold o_putI at ho ⊢
  unfold iff_ at ho ⊢
  split at ho
  rotate_left
  · cases ho
  split at ho
  rotate_left
  · cases ho
  rename_i hc
  rw [if_pos hc]
  exact hG _ _ _ _ _ ho
theorem mon_putJ {n c k : Nat} : MonOp (o_putJ n c k) := by
  intro C C' G G' ls st h r hC hG ho
  unfold o_putJ at ho ⊢
  unfold iff_ at ho ⊢
  split at ho
  rotate_left
  · cases ho
  split at ho
  rotate_left
  · cases ho
  rename_i hc
  rw [if_pos hc]
  exact hG _ _ _ _ _ ho
theorem mon_getR {n c k : Nat} : MonOp (o_getR n c k) := by
  intro C C' G G' ls st h r hC hG ho
  unfold o_getR at ho ⊢
  unfold iff_ at ho ⊢
  split at ho
  rotate_left
  · cases ho
  split at ho
  rotate_left
  · cases ho
  rename_i hc
  rw [if_pos hc]
  split at ho
  · cases ho
  rename_i hc
  rw [if_neg hc]
  exact hG _ _ _ _ _ ho
theorem mon_putR {n c k : Nat} : MonOp (o_putR n c k) := by
  intro C C' G G' ls st h r hC hG ho
  unfold o_putR at ho ⊢
  unfold iff_ at ho ⊢
  split at ho
  rotate_left
  · cases ho
  split at ho
  rotate_left
  · cases ho
  rename_i hc
  rw [if_pos hc]
  split at ho
  · cases ho
  rename_i hc
  rw [if_neg hc]
  exact hG _ _ _ _ _ ho
theorem mon_putZ {n c k : Nat} : MonOp (o_putZ n c k) := by
  intro C C' G G' ls st h r hC hG ho
  unfold o_putZ at ho ⊢
  unfold iff_ at ho ⊢
  split at ho
  rotate_left
  · cases ho
  split at ho
  rotate_left
  · cases ho
  rename_i hc
  rw [if_pos hc]
  split at ho
  rotate_left
  · cases ho
  rename_i hc
  rw [if_pos hc]
  exact hG _ _ _ _ _ ho
theorem mon_iald {n : Nat} : MonOp (o_iald n) := by
  intro C C' G G' ls st h r hC hG ho
  unfold o_iald at ho ⊢
  unfold iff_ at ho ⊢
  split at ho
  rotate_left
  · cases ho
  split at ho
  rotate_left
  · cases ho
  rename_i hc
  rw [if_pos hc]
  split at ho
  · cases ho
  rename_i hc
  rw [if_neg hc]
  exact hG _ _ _ _ _ ho
theorem mon_zald {n : Nat} : MonOp (o_zald n) := by
  intro C C' G G' ls st h r hC hG ho
  unfold o_zald at ho ⊢
  unfold iff_ at ho ⊢
  split at ho
  rotate_left
  · cases ho
  split at ho
  rotate_left
  · cases ho
  rename_i hc
  rw [if_pos hc]
  split at ho
  · cases ho
  rename_i hc
  rw [if_neg hc]
  exact hG _ _ _ _ _ ho
theorem mon_lald {n : Nat} : MonOp (o_lald n) := by
  intro C C' G G' ls st h r hC hG ho
  unfold o_lald at ho ⊢
  unfold iff_ at ho ⊢
  split at ho
  rotate_left
  · cases ho
  split at ho
  rotate_left
  · cases ho
  rename_i hc
  rw [if_pos hc]
  split at ho
  · cases ho
  rename_i hc
  rw [if_neg hc]
  exact hG _ _ _ _ _ ho
theorem mon_iast {n : Nat} : MonOp (o_iast n) := by
  intro C C' G G' ls st h r hC hG ho
  unfold o_iast at ho ⊢
  unfold iff_ at ho ⊢
  split at ho
  rotate_left
  · cases ho
  split at ho
  rotate_left
  · cases ho
  rename_i hc
  rw [if_pos hc]
  split at ho
  · cases ho
  rename_i hc
  rw [if_neg hc]
  exact hG _ _ _ _ _ ho
theorem mon_last {n : Nat} : MonOp (o_last n) := by
  intro C C' G G' ls st h r hC hG ho
  unfold o_last at ho ⊢
  unfold iff_ at ho ⊢
  split at ho
  rotate_left
  · cases ho
  split at ho
  rotate_left
  · cases ho
  rename_i hc
  rw [if_pos hc]
  split at ho
  · cases ho
  rename_i hc
  rw [if_neg hc]
  exact hG _ _ _ _ _ ho
theorem mon_zast {n : Nat} : MonOp (o_zast n) := by
  intro C C' G G' ls st h r hC hG ho
  unfold o_zast at ho ⊢
  unfold iff_ at ho ⊢
  split at ho
  rotate_left
  · cases ho
  split at ho
  rotate_left
  · cases ho
  rename_i hc
  rw [if_pos hc]
  split at ho
  · cases ho
  rename_i hc
  rw [if_neg hc]
  split at ho
  rotate_left
  · cases ho
  rename_i hc
  rw [if_pos hc]
  exact hG _ _ _ _ _ ho
theorem mon_aald {n c : Nat} : MonOp (o_aald n c) := by
  intro C C' G G' ls st h r hC hG ho
  unfold o_aald at ho ⊢
  unfold iff_ at ho ⊢
  split at ho
  rotate_left
  · cases ho
  split at ho
  rotate_left
  · cases ho
  rename_i hc
  rw [if_pos hc]
  split at ho
  · cases ho
  rename_i hc
  rw [if_neg hc]
  split at ho
  · cases ho
  rename_i hc
  rw [if_neg hc]
  exact hG _ _ _ _ _ ho
theorem mon_aast {n c e : Nat} : MonOp (o_aast n c e) := by
  intro C C' G G' ls st h r hC hG ho
  unfold o_aast at ho ⊢
  unfold iff_ at ho ⊢
  split at ho
  rotate_left
  · cases ho
  split at ho
  rotate_left
  · cases ho
  rename_i hc
  rw [if_pos hc]
  split at ho
  rotate_left
  · cases ho
  rename_i hc
  rw [if_pos hc]
  split at ho
  · cases ho
  rename_i hc
  rw [if_neg hc]
  exact hG _ _ _ _ _ ho
theorem mon_ialdB {n : Nat} : MonOp (o_ialdB n) := by
  intro C C' G G' ls st h r hC hG ho
  unfold o_ialdB at ho ⊢
  split at ho
  rotate_left
  · cases ho
  split at ho
  rotate_left
  · cases ho
  rename_i hc
  rw [if_pos hc]
  exact hG _ _ _ _ _ ho
theorem mon_aaldK {n : Nat} : MonOp (o_aaldK n) := by
  intro C C' G G' ls st h r hC hG ho
  unfold o_aaldK at ho ⊢
  split at ho
  rotate_left
  · cases ho
  split at ho
  rotate_left
  · cases ho
  rename_i hc
  rw [if_pos hc]
  exact hG _ _ _ _ _ ho
theorem mon_alenK {n : Nat} : MonOp (o_alenK n) := by
  intro C C' G G' ls st h r hC hG ho
  unfold o_alenK at ho ⊢
  split at ho
  rotate_left
  · cases ho
  split at ho
  rotate_left
  · cases ho
  rename_i hc
  rw [if_pos hc]
  exact hG _ _ _ _ _ ho
theorem mon_sld {n : Nat} : MonOp (o_sld n) := by
  intro C C' G G' ls st h r hC hG ho
  unfold o_sld at ho ⊢
  split at ho
  rotate_left
  · cases ho
  split at ho
  rotate_left
  · cases ho
  rename_i hc
  rw [if_pos hc]
  exact hG _ _ _ _ _ ho
theorem mon_slen {n : Nat} : MonOp (o_slen n) := by
  intro C C' G G' ls st h r hC hG ho
  unfold o_slen at ho ⊢
  split at ho
  rotate_left
  · cases ho
  split at ho
  rotate_left
  · cases ho
  rename_i hc
  rw [if_pos hc]
  exact hG _ _ _ _ _ ho
theorem mon_pop1 {n : Nat} : MonOp (o_pop1 n) := by
  intro C C' G G' ls st h r hC hG ho
  unfold o_pop1 at ho ⊢
  split at ho
  rotate_left
  · cases ho
  split at ho
  rotate_left
  · cases ho
  rename_i hc
  rw [if_pos hc]
  exact hG _ _ _ _ _ ho
theorem mon_min {n : Nat} : MonOp (o_min n) := by
  intro C C' G G' ls st h r hC hG ho
  unfold o_min at ho ⊢
  split at ho
  rotate_left
  · cases ho
  split at ho
  rotate_left
  · cases ho
  rename_i hc
  rw [if_pos hc]
  exact hG _ _ _ _ _ ho
theorem mon_max {n : Nat} : MonOp (o_max n) := by
  intro C C' G G' ls st h r hC hG ho
  unfold o_max at ho ⊢
  split at ho
  rotate_left
  · cases ho
  split at ho
  rotate_left
  · cases ho
  rename_i hc
  rw [if_pos hc]
  exact hG _ _ _ _ _ ho
theorem mon_keyJ {n : Nat} {f : Nat → Int64} : MonOp (o_keyJ n f) := by
  intro C C' G G' ls st h r hC hG ho
  unfold o_keyJ at ho ⊢
  split at ho
  rotate_left
  · cases ho
  split at ho
  rotate_left
  · cases ho
  rename_i hc
  rw [if_pos hc]
  exact hG _ _ _ _ _ ho
theorem mon_keyI {n : Nat} {f : Nat → Int32} : MonOp (o_keyI n f) := by
  intro C C' G G' ls st h r hC hG ho
  unfold o_keyI at ho ⊢
  split at ho
  rotate_left
  · cases ho
  split at ho
  rotate_left
  · cases ho
  rename_i hc
  rw [if_pos hc]
  exact hG _ _ _ _ _ ho
theorem mon_new {n c N : Nat} : MonOp (o_new n c N) := by
  intro C C' G G' ls st h r hC hG ho
  unfold o_new at ho ⊢
  split at ho
  rotate_left
  · cases ho
  rename_i hc
  rw [if_pos hc]
  exact hG _ _ _ _ _ ho
theorem mon_newa {n c : Nat} : MonOp (o_newa n c) := by
  intro C C' G G' ls st h r hC hG ho
  unfold o_newa at ho ⊢
  split at ho
  rotate_left
  · cases ho
  split at ho
  rotate_left
  · cases ho
  rename_i hc
  rw [if_pos hc]
  exact hG _ _ _ _ _ ho
theorem mon_acopy {n : Nat} : MonOp (o_acopy n) := by
  intro C C' G G' ls st h r hC hG ho
  unfold o_acopy at ho ⊢
  unfold iff_ at ho ⊢
  split at ho
  rotate_left
  · cases ho
  split at ho
  rotate_left
  · cases ho
  rename_i hc
  rw [if_pos hc]
  split at ho
  rotate_left
  · cases ho
  rename_i hc
  rw [if_pos hc]
  split at ho
  rotate_left
  · cases ho
  rename_i hc
  rw [if_pos hc]
  exact hG _ _ _ _ _ ho
theorem mon_callV {n k j c : Nat} : MonOp (o_callV n k j c) := by
  intro C C' G G' ls st h r hC hG ho
  unfold o_callV at ho ⊢
  unfold iff_ at ho ⊢
  split at ho
  rotate_left
  · cases ho
  split at ho
  rotate_left
  · cases ho
  rename_i hc
  rw [if_pos hc]
  split at ho
  rotate_left
  · cases ho
  rename_i hc
  rw [if_pos hc]
  split at ho
  rotate_left
  · cases ho
  rename_i hc
  rw [hC _ _ _ _ hc]
  exact hG _ _ _ _ _ ho
theorem mon_callS {n k j : Nat} : MonOp (o_callS n k j) := by
  intro C C' G G' ls st h r hC hG ho
  unfold o_callS at ho ⊢
  split at ho
  rotate_left
  · cases ho
  rename_i hc
  rw [if_pos hc]
  split at ho
  rotate_left
  · cases ho
  rename_i hc
  rw [hC _ _ _ _ hc]
  exact hG _ _ _ _ _ ho
theorem mon_iret  : MonOp (o_iret ) := by
  intro C C' G G' ls st h r hC hG ho
  unfold o_iret at ho ⊢
  exact ho
theorem mon_zret  : MonOp (o_zret ) := by
  intro C C' G G' ls st h r hC hG ho
  unfold o_zret at ho ⊢
  exact ho
theorem mon_lret  : MonOp (o_lret ) := by
  intro C C' G G' ls st h r hC hG ho
  unfold o_lret at ho ⊢
  exact ho
theorem mon_aret  : MonOp (o_aret ) := by
  intro C C' G G' ls st h r hC hG ho
  unfold o_aret at ho ⊢
  exact ho
theorem mon_vret  : MonOp (o_vret ) := by
  intro C C' G G' ls st h r hC hG ho
  unfold o_vret at ho ⊢
  exact ho
