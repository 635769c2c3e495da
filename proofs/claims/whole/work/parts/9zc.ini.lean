/-! ===== the beginning, reckoned out ===== -/
def hE : AHP := (fun _ _ => 0, fun _ _ => 0, fun _ _ => 0, 0)
def hA1 : Option ARS := arun mt fe 3000 50 108 0 (en0 (mt 108).2.2.2.1 [.ref 1]) [] (anw hE)
set_option maxRecDepth 1000000 in
theorem ini1 : hA1.isSome = true := by decide +kernel
def hA2 : Option ARS := match hA1 with | some (_, h) => arun mt fe 3000 50 160 0 (en0 (mt 160).2.2.2.1 [.ref 183]) [] (anw h) | none => none
set_option maxRecDepth 1000000 in
theorem ini2 : hA2.isSome = true := by decide +kernel
