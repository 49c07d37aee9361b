/-! the rows against the bytecode -/
set_option maxRecDepth 100000 in
theorem zk_1_12 : ((List.range 12).all fun i => zmok (12 + i)) = true := by decide +kernel
set_option maxRecDepth 100000 in
theorem zk_1_24 : ((List.range 12).all fun i => zmok (24 + i)) = true := by decide +kernel
set_option maxRecDepth 100000 in
theorem zk_1_36 : ((List.range 12).all fun i => zmok (36 + i)) = true := by decide +kernel
set_option maxRecDepth 100000 in
theorem zk_1_48 : ((List.range 12).all fun i => zmok (48 + i)) = true := by decide +kernel
set_option maxRecDepth 100000 in
theorem zk_1_72 : ((List.range 12).all fun i => zmok (72 + i)) = true := by decide +kernel
set_option maxRecDepth 100000 in
theorem zk_1_84 : ((List.range 12).all fun i => zmok (84 + i)) = true := by decide +kernel
set_option maxRecDepth 100000 in
theorem zk_1_96 : ((List.range 12).all fun i => zmok (96 + i)) = true := by decide +kernel
set_option maxRecDepth 100000 in
theorem zk_1_108 : ((List.range 12).all fun i => zmok (108 + i)) = true := by decide +kernel
set_option maxRecDepth 100000 in
theorem zk_1_120 : ((List.range 3).all fun i => zmok (120 + i)) = true := by decide +kernel
set_option maxRecDepth 100000 in
theorem zk_1_1 : ((List.range 1).all fun i => zmok (1 + i)) = true := by decide +kernel
set_option maxRecDepth 100000 in
theorem zk_1_2 : ((List.range 1).all fun i => zmok (2 + i)) = true := by decide +kernel
set_option maxRecDepth 100000 in
theorem zk_1_3 : ((List.range 1).all fun i => zmok (3 + i)) = true := by decide +kernel
set_option maxRecDepth 100000 in
theorem zk_1_4 : ((List.range 1).all fun i => zmok (4 + i)) = true := by decide +kernel
set_option maxRecDepth 100000 in
theorem zk_1_5 : ((List.range 1).all fun i => zmok (5 + i)) = true := by decide +kernel
set_option maxRecDepth 100000 in
theorem zk_1_6 : ((List.range 1).all fun i => zmok (6 + i)) = true := by decide +kernel
set_option maxRecDepth 100000 in
theorem zk_1_7 : ((List.range 1).all fun i => zmok (7 + i)) = true := by decide +kernel
set_option maxRecDepth 100000 in
theorem zk_1_8 : ((List.range 1).all fun i => zmok (8 + i)) = true := by decide +kernel
set_option maxRecDepth 100000 in
theorem zk_1_9 : ((List.range 1).all fun i => zmok (9 + i)) = true := by decide +kernel
set_option maxRecDepth 100000 in
theorem zk_1_10 : ((List.range 1).all fun i => zmok (10 + i)) = true := by decide +kernel
set_option maxRecDepth 100000 in
theorem zk_1_11 : ((List.range 1).all fun i => zmok (11 + i)) = true := by decide +kernel
set_option maxRecDepth 100000 in
theorem zk_1_60 : ((List.range 1).all fun i => zmok (60 + i)) = true := by decide +kernel
set_option maxRecDepth 100000 in
theorem zk_1_61 : ((List.range 1).all fun i => zmok (61 + i)) = true := by decide +kernel
set_option maxRecDepth 100000 in
theorem zk_1_62 : ((List.range 1).all fun i => zmok (62 + i)) = true := by decide +kernel
set_option maxRecDepth 100000 in
theorem zk_1_63 : ((List.range 1).all fun i => zmok (63 + i)) = true := by decide +kernel
set_option maxRecDepth 100000 in
theorem zk_1_64 : ((List.range 1).all fun i => zmok (64 + i)) = true := by decide +kernel
set_option maxRecDepth 100000 in
theorem zk_1_65 : ((List.range 1).all fun i => zmok (65 + i)) = true := by decide +kernel
set_option maxRecDepth 100000 in
theorem zk_1_66 : ((List.range 1).all fun i => zmok (66 + i)) = true := by decide +kernel
set_option maxRecDepth 100000 in
theorem zk_1_67 : ((List.range 1).all fun i => zmok (67 + i)) = true := by decide +kernel
set_option maxRecDepth 100000 in
theorem zk_1_69 : ((List.range 1).all fun i => zmok (69 + i)) = true := by decide +kernel
set_option maxRecDepth 100000 in
theorem zk_1_70 : ((List.range 1).all fun i => zmok (70 + i)) = true := by decide +kernel
set_option maxRecDepth 100000 in
theorem zk_1_71 : ((List.range 1).all fun i => zmok (71 + i)) = true := by decide +kernel
