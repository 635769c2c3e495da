section SND9
variable {w : WD} {l : Launch} {mt : Nat → MR} {μ : MR} {pc : Nat}
/-! ===== a method's contract out of its run ===== -/
theorem en1_len (as : List Value) : (lg_sl (as.map (vv w))).length = (en1 as).length := by
  induction as with
  | nil => rfl
  | cons v t ih =>
    have h1 : lg_sl ((v :: t).map (vv w)) = (if (vv w v).category = 2 then [Slot.val (vv w v), .second] else [.val (vv w v)]) ++ lg_sl (t.map (vv w)) := by simp [lg_sl]
    rw [h1, vv_cat, en1, List.length_append, ih]
    split <;> simp <;> omega
theorem en1_args (n : Nat) : ∀ (as : List Value) (off i : Nat) (v : Value), lg (en1 as ++ List.replicate n none) i = some v → (off + i, vv w v) ∈ lv_args off (as.map (vv w)) := by
  intro as
  induction as with
  | nil =>
    intro off i v hv
    exfalso
    have : ∀ (n i : Nat), lg (List.replicate n none) i = none := by
      intro n
      induction n with
      | zero => intro i; rfl
      | succ n ih => intro i; cases i with
        | zero => rfl
        | succ i => exact ih i
    rw [show en1 [] ++ List.replicate n none = List.replicate n none from rfl, this] at hv
    cases hv
  | cons x t ih =>
    intro off i v hv
    rw [en1] at hv
    show _ ∈ (off, vv w x) :: lv_args (if (vv w x).category = 2 then off + 2 else off + 1) (t.map (vv w))
    rw [vv_cat]
    by_cases hc : x.category = 2
    · rw [if_pos hc] at hv ⊢
      match i, hv with
      | 0, hv => cases (show some x = some v from hv); exact List.mem_cons_self
      | 1, hv => cases (show (none : Option Value) = some v from hv)
      | i + 2, hv =>
        have h2 := ih (off + 2) i v hv
        rw [show off + 2 + i = off + (i + 2) by omega] at h2
        exact List.mem_cons_of_mem _ h2
    · rw [if_neg hc] at hv ⊢
      match i, hv with
      | 0, hv => cases (show some x = some v from hv); exact List.mem_cons_self
      | i + 1, hv =>
        have h2 := ih (off + 1) i v hv
        rw [show off + 1 + i = off + (i + 1) by omega] at h2
        exact List.mem_cons_of_mem _ h2
theorem LR_entry {n : Nat} {as : List Value} (h : (en1 as).length ≤ n) : LR w n (en0 n as) ((lg_sl (as.map (vv w)) ++ List.replicate (n - (lg_sl (as.map (vv w))).length) Slot.unset).toArray) := by
  have h1 := lv_entry (as.map (vv w)) (n := n) (by rw [en1_len]; exact h)
  refine ⟨h1.1, ?_, h1.2.1, fun i v hv => ?_⟩
  · rw [en0, List.length_append, List.length_replicate]; omega
  · have h2 := en1_args (w := w) (n - (en1 as).length) as 0 i v hv
    rw [Nat.zero_add] at h2
    exact h1.2.2 _ h2
theorem met_of {d : Nat} {as : List Value} {h : AHP} {r : ARS} (hy : plainName μ.2.1.cls = true) (hown : μ.1 = μ.2.1.cls) (hlen : (en1 as).length ≤ μ.2.2.2.1) (hg : WG w l μ d r 0 (en0 μ.2.2.2.1 as) [] h) : MetM w l μ d as h r := by
  refine Met.ofW (cc := μ.2.2.1) (maxL := μ.2.2.2.1) (ret := μ.2.2.2.2) hy rfl ?_
  intro p e s m args below meth c s₁ B hml hv
  obtain ⟨rfl, hSt, hH, hsz⟩ := hv
  have hts := atoms_spec (ws := wsM μ) B.pre
  have hle := hg.1
  have hsl := sl_mono hle
  rw [lg_entry_eq]
  refine hg.2 p e _ s m _ below meth c h.2.2.2 _ s.heap [] 0 0 _ ⟨B.exec, B.bytes, hml, by rw [hown]; exact findClass_of_methodNamed B.named, fun x hx => hts x (List.mem_cons_of_mem _ hx), hSt, B.returns, B.notSynchronized, ⟨Nat.le_refl _, Nat.le_refl _⟩, by rw [hsz]; exact Nat.le_add_right _ _, hH.2.2.1, (name_of_methodNamed B.named B.method).1⟩ ?_ ⟨hH, va_S.rf, Nat.zero_add _, Nat.zero_add _, hsz⟩ ⟨?_, ?_⟩ (LR_entry hlen)
  · intro H locs cells slots pc lsA hpt hret
    have hlocks := B.notSynchronized
    have e1 : cells = r.2.2.2.2 - h.2.2.2 := by have := hpt.2.2.1; omega
    have e2 : slots = sl r.2.2.2.2 - sl h.2.2.2 := by have := hpt.2.2.2.1; omega
    subst e1; subst e2
    have hq : ∀ v, r.1.map (vv w) = v → ∀ t : State, t.heap = H → s.WarmedH t.vm → QcM w r (as.map (vv w)).toArray s (.returned v) t := fun v hv t ht _ => ⟨by rw [hv], by rw [ht]; exact hpt.1, hpt.2.1.F ht⟩
    have hf : ∀ q ∈ locs, wA w q.base := hpt.2.1.2.2
    obtain ⟨rv, rh⟩ := r
    match rv, hret, hq with
    | none, hret, hq => exact W.vret B.exec B.bytes (B.returns.trans hret.2) (hq none rfl) hf hret.1
    | some (.int x), hret, hq =>
      rcases hret.2 with h1 | ⟨h1, h2⟩
      · exact W.iret B.exec B.bytes (B.returns.trans h1) (hq (some (.int x)) rfl) hf hret.1
      · exact W.zret B.exec B.bytes (B.returns.trans h1) (by rcases h2 with rfl | rfl <;> rfl) (hq (some (.int x)) rfl) hf hret.1
    | some (.long x), hret, hq => exact W.lret B.exec B.bytes (B.returns.trans hret.2) (hq (some (.long x)) rfl) hf hret.1
    | some (.ref x), hret, hq =>
      obtain ⟨h1, n, h2⟩ := hret
      exact W.aret B.exec B.bytes (B.returns.trans h2) (Or.inl ⟨n, rfl⟩) (Or.inr ⟨sg w x, rfl⟩) (hq (some (.ref (sg w x))) rfl) hf h1
  · show r.2.2.2.2 - h.2.2.2 + h.2.2.2 = r.2.2.2.2
    omega
  · show sl r.2.2.2.2 - sl h.2.2.2 + sl h.2.2.2 = sl r.2.2.2.2
    omega
/-! ===== the machine's run ===== -/
def arun (mt : Nat → MR) (fe : Nat → Nat → Option AOP) : Nat → Nat → Nat → Nat → ALS → List Value → AHP → Option ARS
  | 0, _, _, _, _, _, _ => none
  | n + 1, d, k, pc, ls, st, h => match fe k pc with
    | none => none
    | some op => op (fun k' as h' => match d with
        | 0 => none
        | d' + 1 => if (en1 as).length ≤ (mt k').2.2.2.1 then arun mt fe n d' k' 0 (en0 (mt k').2.2.2.1 as) [] h' else none) (fun pc' ls' st' h' => arun mt fe n d k pc' ls' st' h') ls st h
theorem arun_sound {fe : Nat → Nat → Option AOP} (hmt : ∀ k, fe k 0 ≠ none → plainName (mt k).2.1.cls = true ∧ (mt k).1 = (mt k).2.1.cls) (hfe : ∀ k pc op, fe k pc = some op → SndOp w l mt (mt k) pc op) : ∀ n d k pc ls st h r, arun mt fe n d k pc ls st h = some r → WG w l (mt k) d r pc ls st h := by
  intro n
  induction n with
  | zero => intro d k pc ls st h r hr; cases hr
  | succ n ih =>
    intro d k pc ls st h r hr
    rw [arun] at hr
    cases hf : fe k pc with
    | none => rw [hf] at hr; cases hr
    | some op =>
      rw [hf] at hr
      refine hfe k pc op hf d _ _ r ls st h ?_ hr (fun pc' ls' st' h' hg => ih d k pc' ls' st' h' r hg)
      intro k' as h1 r1 hc
      cases d with
      | zero => cases hc
      | succ d' =>
        dsimp only at hc
        by_cases hl : (en1 as).length ≤ (mt k').2.2.2.1
        · rw [if_pos hl] at hc
          have hg := ih d' k' 0 _ _ h1 r1 hc
          have hne : fe k' 0 ≠ none := fun e => by
            cases n with
            | zero => cases hc
            | succ n => rw [arun, e] at hc; cases hc
          exact ⟨d', rfl, hg.1, met_of (hmt k' hne).1 (hmt k' hne).2 hl hg⟩
        · rw [if_neg hl] at hc; cases hc
end SND9
