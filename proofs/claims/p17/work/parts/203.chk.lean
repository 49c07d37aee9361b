/-! Printed by wip/v2/gen9.py: the rows against the bytecode, a method at a time. -/
set_option maxRecDepth 100000 in
theorem zk_m95 : zmok 95 = true := by decide +kernel
set_option maxRecDepth 100000 in
theorem zk_m96 : zmok 96 = true := by decide +kernel
set_option maxRecDepth 100000 in
theorem zk_m97 : zmok 97 = true := by decide +kernel
set_option maxRecDepth 100000 in
theorem zk_m98 : zmok 98 = true := by decide +kernel
set_option maxRecDepth 100000 in
theorem zk_m99 : zmok 99 = true := by decide +kernel
set_option maxRecDepth 100000 in
theorem zk_m100 : zmok 100 = true := by decide +kernel
set_option maxRecDepth 100000 in
theorem zk_m101 : zmok 101 = true := by decide +kernel
set_option maxRecDepth 100000 in
theorem zk_m102 : zmok 102 = true := by decide +kernel
set_option maxRecDepth 100000 in
theorem zk_m103 : zmok 103 = true := by decide +kernel
set_option maxRecDepth 100000 in
theorem zk_m104 : zmok 104 = true := by decide +kernel
set_option maxRecDepth 100000 in
theorem zk_m105 : zmok 105 = true := by decide +kernel
set_option maxRecDepth 100000 in
theorem zk_m106 : zmok 106 = true := by decide +kernel
set_option maxRecDepth 100000 in
theorem zk_m107 : zmok 107 = true := by decide +kernel
set_option maxRecDepth 100000 in
theorem zk_m108 : zmok 108 = true := by decide +kernel
set_option maxRecDepth 100000 in
theorem zk_m109 : zmok 109 = true := by decide +kernel
set_option maxRecDepth 100000 in
theorem zk_m110 : zmok 110 = true := by decide +kernel
set_option maxRecDepth 100000 in
theorem zk_m111 : zmok 111 = true := by decide +kernel
set_option maxRecDepth 100000 in
theorem zk_m112 : zmok 112 = true := by decide +kernel
set_option maxRecDepth 100000 in
theorem zk_m113 : zmok 113 = true := by decide +kernel
set_option maxRecDepth 100000 in
theorem zk_m114 : zmok 114 = true := by decide +kernel
set_option maxRecDepth 100000 in
theorem zk_m115 : zmok 115 = true := by decide +kernel
set_option maxRecDepth 100000 in
theorem zk_m116 : zmok 116 = true := by decide +kernel
set_option maxRecDepth 100000 in
theorem zk_m117 : zmok 117 = true := by decide +kernel
set_option maxRecDepth 100000 in
theorem zk_m118 : zmok 118 = true := by decide +kernel
set_option maxRecDepth 100000 in
theorem zk_m119 : zmok 119 = true := by decide +kernel
set_option maxRecDepth 100000 in
theorem zk_m120 : zmok 120 = true := by decide +kernel
set_option maxRecDepth 100000 in
theorem zk_m121 : zmok 121 = true := by decide +kernel
set_option maxRecDepth 100000 in
theorem zk_m122 : zmok 122 = true := by decide +kernel
set_option maxRecDepth 100000 in
theorem zk_m123 : zmok 123 = true := by decide +kernel
set_option maxRecDepth 100000 in
theorem zk_m124 : zmok 124 = true := by decide +kernel
set_option maxRecDepth 100000 in
theorem zk_m125 : zmok 125 = true := by decide +kernel
set_option maxRecDepth 100000 in
theorem zk_m126 : zmok 126 = true := by decide +kernel
set_option maxRecDepth 100000 in
theorem zk_m127 : zmok 127 = true := by decide +kernel
set_option maxRecDepth 100000 in
theorem zk_m128 : zmok 128 = true := by decide +kernel
set_option maxRecDepth 100000 in
theorem zk_m129 : zmok 129 = true := by decide +kernel
set_option maxRecDepth 100000 in
theorem zk_m130 : zmok 130 = true := by decide +kernel
set_option maxRecDepth 100000 in
theorem zk_m131 : zmok 131 = true := by decide +kernel
set_option maxRecDepth 100000 in
theorem zk_m132 : zmok 132 = true := by decide +kernel
set_option maxRecDepth 100000 in
theorem zk_m133 : zmok 133 = true := by decide +kernel
set_option maxRecDepth 100000 in
theorem zk_m134 : zmok 134 = true := by decide +kernel
set_option maxRecDepth 100000 in
theorem zk_m135 : zmok 135 = true := by decide +kernel
set_option maxRecDepth 100000 in
theorem zk_m136 : zmok 136 = true := by decide +kernel
set_option maxRecDepth 100000 in
theorem zk_m137 : zmok 137 = true := by decide +kernel
set_option maxRecDepth 100000 in
theorem zk_m138 : zmok 138 = true := by decide +kernel
set_option maxRecDepth 100000 in
theorem zk_m139 : zmok 139 = true := by decide +kernel
set_option maxRecDepth 100000 in
theorem zk_m140 : zmok 140 = true := by decide +kernel
set_option maxRecDepth 100000 in
theorem zk_m141 : zmok 141 = true := by decide +kernel
set_option maxRecDepth 100000 in
theorem zk_m142 : zmok 142 = true := by decide +kernel
set_option maxRecDepth 100000 in
theorem zk_m143 : zmok 143 = true := by decide +kernel
set_option maxRecDepth 100000 in
theorem zk_m144 : zmok 144 = true := by decide +kernel
set_option maxRecDepth 100000 in
theorem zk_m145 : zmok 145 = true := by decide +kernel
set_option maxRecDepth 100000 in
theorem zk_m146 : zmok 146 = true := by decide +kernel
set_option maxRecDepth 100000 in
theorem zk_m147 : zmok 147 = true := by decide +kernel
set_option maxRecDepth 100000 in
theorem zk_m148 : zmok 148 = true := by decide +kernel
set_option maxRecDepth 100000 in
theorem zk_m149 : zmok 149 = true := by decide +kernel
set_option maxRecDepth 100000 in
theorem zk_m150 : zmok 150 = true := by decide +kernel
set_option maxRecDepth 100000 in
theorem zk_m151 : zmok 151 = true := by decide +kernel
set_option maxRecDepth 100000 in
theorem zk_m152 : zmok 152 = true := by decide +kernel
set_option maxRecDepth 100000 in
theorem zk_m153 : zmok 153 = true := by decide +kernel
set_option maxRecDepth 100000 in
theorem zk_m154 : zmok 154 = true := by decide +kernel
set_option maxRecDepth 100000 in
theorem zk_m155 : zmok 155 = true := by decide +kernel
set_option maxRecDepth 100000 in
theorem zk_m156 : zmok 156 = true := by decide +kernel
set_option maxRecDepth 100000 in
theorem zk_m157 : zmok 157 = true := by decide +kernel
set_option maxRecDepth 100000 in
theorem zk_m158 : zmok 158 = true := by decide +kernel
set_option maxRecDepth 100000 in
theorem zk_m159 : zmok 159 = true := by decide +kernel
set_option maxRecDepth 100000 in
theorem zk_m160 : zmok 160 = true := by decide +kernel
set_option maxRecDepth 100000 in
theorem zk_m161 : zmok 161 = true := by decide +kernel
set_option maxRecDepth 100000 in
theorem zk_m162 : zmok 162 = true := by decide +kernel
set_option maxRecDepth 100000 in
theorem zk_m163 : zmok 163 = true := by decide +kernel
set_option maxRecDepth 100000 in
theorem zk_m164 : zmok 164 = true := by decide +kernel
set_option maxRecDepth 100000 in
theorem zk_m165 : zmok 165 = true := by decide +kernel
set_option maxRecDepth 100000 in
theorem zk_m166 : zmok 166 = true := by decide +kernel
set_option maxRecDepth 100000 in
theorem zk_m167 : zmok 167 = true := by decide +kernel
set_option maxRecDepth 100000 in
theorem zk_m168 : zmok 168 = true := by decide +kernel
set_option maxRecDepth 100000 in
theorem zk_m169 : zmok 169 = true := by decide +kernel
set_option maxRecDepth 100000 in
theorem zk_m170 : zmok 170 = true := by decide +kernel
set_option maxRecDepth 100000 in
theorem zk_m171 : zmok 171 = true := by decide +kernel
set_option maxRecDepth 100000 in
theorem zk_m172 : zmok 172 = true := by decide +kernel
set_option maxRecDepth 100000 in
theorem zk_m173 : zmok 173 = true := by decide +kernel
set_option maxRecDepth 100000 in
theorem zk_m174 : zmok 174 = true := by decide +kernel
set_option maxRecDepth 100000 in
theorem zk_m175 : zmok 175 = true := by decide +kernel
set_option maxRecDepth 100000 in
theorem zk_m176 : zmok 176 = true := by decide +kernel
set_option maxRecDepth 100000 in
theorem zk_m177 : zmok 177 = true := by decide +kernel
set_option maxRecDepth 100000 in
theorem zk_m178 : zmok 178 = true := by decide +kernel
set_option maxRecDepth 100000 in
theorem zk_m179 : zmok 179 = true := by decide +kernel
set_option maxRecDepth 100000 in
theorem zk_m180 : zmok 180 = true := by decide +kernel
set_option maxRecDepth 100000 in
theorem zk_m181 : zmok 181 = true := by decide +kernel
set_option maxRecDepth 100000 in
theorem zk_m182 : zmok 182 = true := by decide +kernel
set_option maxRecDepth 100000 in
theorem zk_m183 : zmok 183 = true := by decide +kernel
set_option maxRecDepth 100000 in
theorem zk_m184 : zmok 184 = true := by decide +kernel
set_option maxRecDepth 100000 in
theorem zk_m185 : zmok 185 = true := by decide +kernel
set_option maxRecDepth 100000 in
theorem zk_m186 : zmok 186 = true := by decide +kernel
set_option maxRecDepth 100000 in
theorem zk_m187 : zmok 187 = true := by decide +kernel
set_option maxRecDepth 100000 in
theorem zk_m188 : zmok 188 = true := by decide +kernel
