/-! ===== rests at the machine ===== -/
def muL : MR := (RL, yL_law, cL_law, 7, some .boolean)
theorem snd_rests {w : WD} {l : Launch} (hl : l.stackTraces = false) : SndOp w l mt muL 1189 (o_rests 1192) := sorry
