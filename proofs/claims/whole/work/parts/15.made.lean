/-! What the constructors leave. -/
set_option maxRecDepth 1000000 in
theorem ph_1 : mj_run [] 5000 0 0 [(0, .ref 5)] [] [(0, mj_blank 0)] = some (none, (lay s0).take 163) := by decide +kernel
set_option maxRecDepth 1000000 in
theorem ph_2 : mj_run [] 5000 99 0 [(0, .ref 168)] [] ((lay s0).take 163 ++ [(10, mj_blank 10)]) = some (none, lay s0) := by decide +kernel
