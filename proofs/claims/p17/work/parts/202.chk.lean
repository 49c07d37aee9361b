/-! Printed by wip/v2/gen9.py: the rows against the bytecode, a method at a time. -/
set_option maxRecDepth 100000 in
theorem zk_m1 : zmok 1 = true := by decide +kernel
set_option maxRecDepth 100000 in
theorem zk_m2 : zmok 2 = true := by decide +kernel
set_option maxRecDepth 100000 in
theorem zk_m3 : zmok 3 = true := by decide +kernel
set_option maxRecDepth 100000 in
theorem zk_m4 : zmok 4 = true := by decide +kernel
set_option maxRecDepth 100000 in
theorem zk_m5 : zmok 5 = true := by decide +kernel
set_option maxRecDepth 100000 in
theorem zk_m6 : zmok 6 = true := by decide +kernel
set_option maxRecDepth 100000 in
theorem zk_m7 : zmok 7 = true := by decide +kernel
set_option maxRecDepth 100000 in
theorem zk_m8 : zmok 8 = true := by decide +kernel
set_option maxRecDepth 100000 in
theorem zk_m9 : zmok 9 = true := by decide +kernel
set_option maxRecDepth 100000 in
theorem zk_m10 : zmok 10 = true := by decide +kernel
set_option maxRecDepth 100000 in
theorem zk_m11 : zmok 11 = true := by decide +kernel
set_option maxRecDepth 100000 in
theorem zk_m12 : zmok 12 = true := by decide +kernel
set_option maxRecDepth 100000 in
theorem zk_m13 : zmok 13 = true := by decide +kernel
set_option maxRecDepth 100000 in
theorem zk_m14 : zmok 14 = true := by decide +kernel
set_option maxRecDepth 100000 in
theorem zk_m15 : zmok 15 = true := by decide +kernel
set_option maxRecDepth 100000 in
theorem zk_m16 : zmok 16 = true := by decide +kernel
set_option maxRecDepth 100000 in
theorem zk_m17 : zmok 17 = true := by decide +kernel
set_option maxRecDepth 100000 in
theorem zk_m18 : zmok 18 = true := by decide +kernel
set_option maxRecDepth 100000 in
theorem zk_m19 : zmok 19 = true := by decide +kernel
set_option maxRecDepth 100000 in
theorem zk_m20 : zmok 20 = true := by decide +kernel
set_option maxRecDepth 100000 in
theorem zk_m21 : zmok 21 = true := by decide +kernel
set_option maxRecDepth 100000 in
theorem zk_m22 : zmok 22 = true := by decide +kernel
set_option maxRecDepth 100000 in
theorem zk_m23 : zmok 23 = true := by decide +kernel
set_option maxRecDepth 100000 in
theorem zk_m24 : zmok 24 = true := by decide +kernel
set_option maxRecDepth 100000 in
theorem zk_m25 : zmok 25 = true := by decide +kernel
set_option maxRecDepth 100000 in
theorem zk_m26 : zmok 26 = true := by decide +kernel
set_option maxRecDepth 100000 in
theorem zk_m27 : zmok 27 = true := by decide +kernel
set_option maxRecDepth 100000 in
theorem zk_m28 : zmok 28 = true := by decide +kernel
set_option maxRecDepth 100000 in
theorem zk_m29 : zmok 29 = true := by decide +kernel
set_option maxRecDepth 100000 in
theorem zk_m30 : zmok 30 = true := by decide +kernel
set_option maxRecDepth 100000 in
theorem zk_m31 : zmok 31 = true := by decide +kernel
set_option maxRecDepth 100000 in
theorem zk_m32 : zmok 32 = true := by decide +kernel
set_option maxRecDepth 100000 in
theorem zk_m33 : zmok 33 = true := by decide +kernel
set_option maxRecDepth 100000 in
theorem zk_m34 : zmok 34 = true := by decide +kernel
set_option maxRecDepth 100000 in
theorem zk_m35 : zmok 35 = true := by decide +kernel
set_option maxRecDepth 100000 in
theorem zk_m36 : zmok 36 = true := by decide +kernel
set_option maxRecDepth 100000 in
theorem zk_m37 : zmok 37 = true := by decide +kernel
set_option maxRecDepth 100000 in
theorem zk_m38 : zmok 38 = true := by decide +kernel
set_option maxRecDepth 100000 in
theorem zk_m39 : zmok 39 = true := by decide +kernel
set_option maxRecDepth 100000 in
theorem zk_m40 : zmok 40 = true := by decide +kernel
set_option maxRecDepth 100000 in
theorem zk_m41 : zmok 41 = true := by decide +kernel
set_option maxRecDepth 100000 in
theorem zk_m42 : zmok 42 = true := by decide +kernel
set_option maxRecDepth 100000 in
theorem zk_m43 : zmok 43 = true := by decide +kernel
set_option maxRecDepth 100000 in
theorem zk_m44 : zmok 44 = true := by decide +kernel
set_option maxRecDepth 100000 in
theorem zk_m45 : zmok 45 = true := by decide +kernel
set_option maxRecDepth 100000 in
theorem zk_m46 : zmok 46 = true := by decide +kernel
set_option maxRecDepth 100000 in
theorem zk_m47 : zmok 47 = true := by decide +kernel
set_option maxRecDepth 100000 in
theorem zk_m48 : zmok 48 = true := by decide +kernel
set_option maxRecDepth 100000 in
theorem zk_m49 : zmok 49 = true := by decide +kernel
set_option maxRecDepth 100000 in
theorem zk_m50 : zmok 50 = true := by decide +kernel
set_option maxRecDepth 100000 in
theorem zk_m51 : zmok 51 = true := by decide +kernel
set_option maxRecDepth 100000 in
theorem zk_m52 : zmok 52 = true := by decide +kernel
set_option maxRecDepth 100000 in
theorem zk_m53 : zmok 53 = true := by decide +kernel
set_option maxRecDepth 100000 in
theorem zk_m54 : zmok 54 = true := by decide +kernel
set_option maxRecDepth 100000 in
theorem zk_m55 : zmok 55 = true := by decide +kernel
set_option maxRecDepth 100000 in
theorem zk_m56 : zmok 56 = true := by decide +kernel
set_option maxRecDepth 100000 in
theorem zk_m57 : zmok 57 = true := by decide +kernel
set_option maxRecDepth 100000 in
theorem zk_m58 : zmok 58 = true := by decide +kernel
set_option maxRecDepth 100000 in
theorem zk_m59 : zmok 59 = true := by decide +kernel
set_option maxRecDepth 100000 in
theorem zk_m60 : zmok 60 = true := by decide +kernel
set_option maxRecDepth 100000 in
theorem zk_m61 : zmok 61 = true := by decide +kernel
set_option maxRecDepth 100000 in
theorem zk_m62 : zmok 62 = true := by decide +kernel
set_option maxRecDepth 100000 in
theorem zk_m63 : zmok 63 = true := by decide +kernel
set_option maxRecDepth 100000 in
theorem zk_m64 : zmok 64 = true := by decide +kernel
set_option maxRecDepth 100000 in
theorem zk_m65 : zmok 65 = true := by decide +kernel
set_option maxRecDepth 100000 in
theorem zk_m66 : zmok 66 = true := by decide +kernel
set_option maxRecDepth 100000 in
theorem zk_m67 : zmok 67 = true := by decide +kernel
set_option maxRecDepth 100000 in
theorem zk_m68 : zmok 68 = true := by decide +kernel
set_option maxRecDepth 100000 in
theorem zk_m69 : zmok 69 = true := by decide +kernel
set_option maxRecDepth 100000 in
theorem zk_m70 : zmok 70 = true := by decide +kernel
set_option maxRecDepth 100000 in
theorem zk_m71 : zmok 71 = true := by decide +kernel
set_option maxRecDepth 100000 in
theorem zk_m72 : zmok 72 = true := by decide +kernel
set_option maxRecDepth 100000 in
theorem zk_m73 : zmok 73 = true := by decide +kernel
set_option maxRecDepth 100000 in
theorem zk_m74 : zmok 74 = true := by decide +kernel
set_option maxRecDepth 100000 in
theorem zk_m75 : zmok 75 = true := by decide +kernel
set_option maxRecDepth 100000 in
theorem zk_m76 : zmok 76 = true := by decide +kernel
set_option maxRecDepth 100000 in
theorem zk_m77 : zmok 77 = true := by decide +kernel
set_option maxRecDepth 100000 in
theorem zk_m78 : zmok 78 = true := by decide +kernel
set_option maxRecDepth 100000 in
theorem zk_m79 : zmok 79 = true := by decide +kernel
set_option maxRecDepth 100000 in
theorem zk_m80 : zmok 80 = true := by decide +kernel
set_option maxRecDepth 100000 in
theorem zk_m81 : zmok 81 = true := by decide +kernel
set_option maxRecDepth 100000 in
theorem zk_m82 : zmok 82 = true := by decide +kernel
set_option maxRecDepth 100000 in
theorem zk_m83 : zmok 83 = true := by decide +kernel
set_option maxRecDepth 100000 in
theorem zk_m84 : zmok 84 = true := by decide +kernel
set_option maxRecDepth 100000 in
theorem zk_m85 : zmok 85 = true := by decide +kernel
set_option maxRecDepth 100000 in
theorem zk_m86 : zmok 86 = true := by decide +kernel
set_option maxRecDepth 100000 in
theorem zk_m87 : zmok 87 = true := by decide +kernel
set_option maxRecDepth 100000 in
theorem zk_m88 : zmok 88 = true := by decide +kernel
set_option maxRecDepth 100000 in
theorem zk_m89 : zmok 89 = true := by decide +kernel
set_option maxRecDepth 100000 in
theorem zk_m90 : zmok 90 = true := by decide +kernel
set_option maxRecDepth 100000 in
theorem zk_m91 : zmok 91 = true := by decide +kernel
set_option maxRecDepth 100000 in
theorem zk_m92 : zmok 92 = true := by decide +kernel
set_option maxRecDepth 100000 in
theorem zk_m93 : zmok 93 = true := by decide +kernel
set_option maxRecDepth 100000 in
theorem zk_m94 : zmok 94 = true := by decide +kernel
