/-! ===== the law's own run ===== -/
def arunL : Nat → Nat → Nat → ALS → List Value → AHP → Option ARS
  | 0, _, _, _, _, _ => none
  | n + 1, d, pc, ls, st, h => match alk cd_law pc with
    | none => none
    | some op => op (fun k' as h' => if (en1 as).length ≤ (mt k').2.2.2.1 then arun mt fe n d k' 0 (en0 (mt k').2.2.2.1 as) [] h' else none) (fun pc' ls' st' h' => arunL n d pc' ls' st' h') ls st h
theorem lw_op {w : WD} {l : Launch} (hl : l.stackTraces = false) {pc : Nat} {op : AOP} (h : alk cd_law pc = some op) : SndL w l mt muL pc op := scd_law hl _ (alk_mem _ _ _ h)
theorem lw_mon {pc : Nat} {op : AOP} (h : alk cd_law pc = some op) : MonOp op := mcd_law _ (alk_mem _ _ _ h)
theorem fe_hmt : ∀ k, fe k 0 ≠ none → plainName (mt k).2.1.cls = true ∧ (mt k).1 = (mt k).2.1.cls := fun k _ => mt_own k
theorem arunL_sound {w : WD} {l : Launch} (hstt : l.stackTraces = false) : ∀ n d pc ls st h r, 10 ≤ d → arunL n d pc ls st h = some r → WG w l muL (d + 1) r pc ls st h := by
  intro n
  induction n with
  | zero => intro d pc ls st h r _ hr; cases hr
  | succ n ih =>
    intro d pc ls st h r hd10 hr
    rw [arunL] at hr
    cases hf : alk cd_law pc with
    | none => rw [hf] at hr; cases hr
    | some op =>
      rw [hf] at hr
      refine lw_op (w := w) hstt hf (d + 1) _ _ r ls st h (Nat.le_succ_of_le hd10) ?_ hr (fun pc' ls' st' h' hg => ih d pc' ls' st' h' r hd10 hg)
      intro k' as h1 r1 hc
      dsimp only at hc
      by_cases hl : (en1 as).length ≤ (mt k').2.2.2.1
      · rw [if_pos hl] at hc
        have hg := arun_sound (w := w) (l := l) fe_hmt (fun k pc op h => (fe_ok k pc op h).1) n d k' 0 _ _ h1 r1 hc
        exact ⟨d, rfl, hg.1, met_of (mt_own k').1 (mt_own k').2 hl hg⟩
      · rw [if_neg hl] at hc; cases hc
theorem arunL_mono : ∀ n d pc ls st h r, arunL n d pc ls st h = some r → ∀ j, arunL (n + j) d pc ls st h = some r := by
  intro n
  induction n with
  | zero => intro d pc ls st h r hr; cases hr
  | succ n ih =>
    intro d pc ls st h r hr j
    rw [show n + 1 + j = (n + j) + 1 by omega]
    rw [arunL] at hr ⊢
    cases hf : alk cd_law pc with
    | none => rw [hf] at hr; cases hr
    | some op =>
      rw [hf] at hr
      refine lw_mon hf _ _ _ _ ls st h r ?_ (fun pc' ls' st' h' r1 hg => ih d pc' ls' st' h' r1 hg j) hr
      intro k' as h1 r1 hc
      try dsimp only at hc ⊢
      by_cases hl : (en1 as).length ≤ (mt k').2.2.2.1
      · rw [if_pos hl] at hc ⊢
        exact arun_mono _ _ _ _ _ _ _ _ hc j
      · rw [if_neg hl] at hc; cases hc
/-- the law's run comes to an end with Q -/
def TL_ (d pc : Nat) (ls : ALS) (st : List Value) (h : AHP) (Q : Option Value → AHP → Prop) : Prop := ∃ n r, arunL n d pc ls st h = some r ∧ Q r.1 r.2
section TLS
variable {d pc pc' : Nat} {ls ls' : ALS} {st st' : List Value} {h h' : AHP} {Q : Option Value → AHP → Prop} {op : AOP}
theorem l_go (hf : alk cd_law pc = some op) (ho : ∀ C G, op C G ls st h = G pc' ls' st' h') (kk : TL_ d pc' ls' st' h' Q) : TL_ d pc ls st h Q := by
  obtain ⟨n, r, h1, h2⟩ := kk
  exact ⟨n + 1, r, by rw [arunL, hf]; dsimp only; rw [ho]; exact h1, h2⟩
theorem l_ite {c : Prop} {dc : Decidable c} {pc2 : Nat} {ls2 : ALS} {st2 : List Value} {h2 : AHP} (hf : alk cd_law pc = some op) (ho : ∀ C G, op C G ls st h = @ite _ c dc (G pc' ls' st' h') (G pc2 ls2 st2 h2)) (kt : c → TL_ d pc' ls' st' h' Q) (kf : ¬ c → TL_ d pc2 ls2 st2 h2 Q) : TL_ d pc ls st h Q := by
  by_cases hc : c
  · exact l_go hf (fun C G => by rw [ho, if_pos hc]) (kt hc)
  · exact l_go hf (fun C G => by rw [ho, if_neg hc]) (kf hc)
theorem l_ret {v : Option Value} (hf : alk cd_law pc = some op) (ho : ∀ C G, op C G ls st h = some (v, h')) (kk : Q v h') : TL_ d pc ls st h Q := ⟨1, (v, h'), by rw [arunL, hf]; dsimp only; rw [ho], kk⟩
theorem l_call {k' : Nat} {as rest : List Value} (hf : alk cd_law pc = some op) (ho : ∀ C G, op C G ls st h = match C k' as h with | some (v, h2) => G pc' ls (v.toList ++ rest) h2 | none => none) (kk : MM d k' as h (fun v h2 => TL_ d pc' ls (v.toList ++ rest) h2 Q)) : TL_ d pc ls st h Q := by
  obtain ⟨hl, n1, r1, a1, n2, r, a2, a3⟩ := kk
  refine ⟨n1 + n2 + 1, r, ?_, a3⟩
  rw [arunL, hf]
  try dsimp only
  rw [ho]
  try dsimp only
  rw [if_pos hl, arun_mono _ _ _ _ _ _ _ _ a1 n2]
  try dsimp only
  rw [Nat.add_comm n1 n2]
  exact arunL_mono _ _ _ _ _ _ _ a2 n1
theorem l_swT {lo : Int} {ts : List Nat} {dd : Nat} {x : Int32} (ko : (x.toInt < lo ∨ lo + ts.length ≤ x.toInt) → TL_ d dd ls st h Q) (ki : ∀ j, j < ts.length → x.toInt = lo + j → TL_ d (ts.getD j dd) ls st h Q) : TL_ d (swT lo ts dd x) ls st h Q := by
  unfold swT
  by_cases c1 : x.toInt < lo
  · rw [if_pos c1]; exact ko (Or.inl c1)
  · rw [if_neg c1]
    by_cases c2 : lo + ts.length ≤ x.toInt
    · rw [if_pos c2]; exact ko (Or.inr c2)
    · rw [if_neg c2]; exact ki _ (by omega) (by omega)
end TLS
