/-! the rows against the bytecode -/
set_option maxRecDepth 100000 in
theorem zk_1a : ((List.range 4).all fun i => zmok (1 + i)) = true := by decide +kernel
