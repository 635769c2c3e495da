/-! ===== the beginning, reckoned out ===== -/
def hE : AHP := (fun _ _ => 0, fun _ _ => 0, fun _ _ => 0, 0)
set_option maxRecDepth 100000 in
theorem ini0 : (arun mt fe 300 2 5 0 (en0 (mt 5).2.2.2.1 [.ref 5]) [] (hE.1, hE.2.1, hE.2.2.1, 5)).isSome = true := by decide +kernel
