/-! Printed by wip/v2/gen9.py: the rows against the bytecode, a method at a time. -/
set_option maxRecDepth 100000 in
theorem zk_m189 : zmok 189 = true := by decide +kernel
set_option maxRecDepth 100000 in
theorem zk_m190 : zmok 190 = true := by decide +kernel
set_option maxRecDepth 100000 in
theorem zk_m191 : zmok 191 = true := by decide +kernel
set_option maxRecDepth 100000 in
theorem zk_m192 : zmok 192 = true := by decide +kernel
set_option maxRecDepth 100000 in
theorem zk_m193 : zmok 193 = true := by decide +kernel
set_option maxRecDepth 100000 in
theorem zk_m194 : zmok 194 = true := by decide +kernel
set_option maxRecDepth 100000 in
theorem zk_m195 : zmok 195 = true := by decide +kernel
set_option maxRecDepth 100000 in
theorem zk_m196 : zmok 196 = true := by decide +kernel
set_option maxRecDepth 100000 in
theorem zk_m197 : zmok 197 = true := by decide +kernel
set_option maxRecDepth 100000 in
theorem zk_m198 : zmok 198 = true := by decide +kernel
set_option maxRecDepth 100000 in
theorem zk_m199 : zmok 199 = true := by decide +kernel
set_option maxRecDepth 100000 in
theorem zk_m200 : zmok 200 = true := by decide +kernel
set_option maxRecDepth 100000 in
theorem zk_m201 : zmok 201 = true := by decide +kernel
set_option maxRecDepth 100000 in
theorem zk_m202 : zmok 202 = true := by decide +kernel
set_option maxRecDepth 100000 in
theorem zk_m203 : zmok 203 = true := by decide +kernel
set_option maxRecDepth 100000 in
theorem zk_m204 : zmok 204 = true := by decide +kernel
set_option maxRecDepth 100000 in
theorem zk_m205 : zmok 205 = true := by decide +kernel
set_option maxRecDepth 100000 in
theorem zk_m206 : zmok 206 = true := by decide +kernel
set_option maxRecDepth 100000 in
theorem zk_m207 : zmok 207 = true := by decide +kernel
set_option maxRecDepth 100000 in
theorem zk_m208 : zmok 208 = true := by decide +kernel
set_option maxRecDepth 100000 in
theorem zk_m209 : zmok 209 = true := by decide +kernel
set_option maxRecDepth 100000 in
theorem zk_m210 : zmok 210 = true := by decide +kernel
set_option maxRecDepth 100000 in
theorem zk_m211 : zmok 211 = true := by decide +kernel
set_option maxRecDepth 100000 in
theorem zk_m212 : zmok 212 = true := by decide +kernel
set_option maxRecDepth 100000 in
theorem zk_m213 : zmok 213 = true := by decide +kernel
set_option maxRecDepth 100000 in
theorem zk_m214 : zmok 214 = true := by decide +kernel
set_option maxRecDepth 100000 in
theorem zk_m215 : zmok 215 = true := by decide +kernel
set_option maxRecDepth 100000 in
theorem zk_m216 : zmok 216 = true := by decide +kernel
set_option maxRecDepth 100000 in
theorem zk_m217 : zmok 217 = true := by decide +kernel
set_option maxRecDepth 100000 in
theorem zk_m218 : zmok 218 = true := by decide +kernel
set_option maxRecDepth 100000 in
theorem zk_m219 : zmok 219 = true := by decide +kernel
set_option maxRecDepth 100000 in
theorem zk_m220 : zmok 220 = true := by decide +kernel
set_option maxRecDepth 100000 in
theorem zk_m221 : zmok 221 = true := by decide +kernel
set_option maxRecDepth 100000 in
theorem zk_m222 : zmok 222 = true := by decide +kernel
set_option maxRecDepth 100000 in
theorem zk_m223 : zmok 223 = true := by decide +kernel
set_option maxRecDepth 100000 in
theorem zk_m224 : zmok 224 = true := by decide +kernel
set_option maxRecDepth 100000 in
theorem zk_m225 : zmok 225 = true := by decide +kernel
set_option maxRecDepth 100000 in
theorem zk_m226 : zmok 226 = true := by decide +kernel
set_option maxRecDepth 100000 in
theorem zk_m227 : zmok 227 = true := by decide +kernel
set_option maxRecDepth 100000 in
theorem zk_m228 : zmok 228 = true := by decide +kernel
set_option maxRecDepth 100000 in
theorem zk_m229 : zmok 229 = true := by decide +kernel
set_option maxRecDepth 100000 in
theorem zk_m230 : zmok 230 = true := by decide +kernel
set_option maxRecDepth 100000 in
theorem zk_m231 : zmok 231 = true := by decide +kernel
set_option maxRecDepth 100000 in
theorem zk_m232 : zmok 232 = true := by decide +kernel
set_option maxRecDepth 100000 in
theorem zk_m233 : zmok 233 = true := by decide +kernel
set_option maxRecDepth 100000 in
theorem zk_m234 : zmok 234 = true := by decide +kernel
set_option maxRecDepth 100000 in
theorem zk_m235 : zmok 235 = true := by decide +kernel
set_option maxRecDepth 100000 in
theorem zk_m236 : zmok 236 = true := by decide +kernel
set_option maxRecDepth 100000 in
theorem zk_m237 : zmok 237 = true := by decide +kernel
set_option maxRecDepth 100000 in
theorem zk_m238 : zmok 238 = true := by decide +kernel
set_option maxRecDepth 100000 in
theorem zk_m239 : zmok 239 = true := by decide +kernel
set_option maxRecDepth 100000 in
theorem zk_m240 : zmok 240 = true := by decide +kernel
set_option maxRecDepth 100000 in
theorem zk_m241 : zmok 241 = true := by decide +kernel
set_option maxRecDepth 100000 in
theorem zk_m242 : zmok 242 = true := by decide +kernel
set_option maxRecDepth 100000 in
theorem zk_m243 : zmok 243 = true := by decide +kernel
set_option maxRecDepth 100000 in
theorem zk_m244 : zmok 244 = true := by decide +kernel
set_option maxRecDepth 100000 in
theorem zk_m245 : zmok 245 = true := by decide +kernel
set_option maxRecDepth 100000 in
theorem zk_m246 : zmok 246 = true := by decide +kernel
set_option maxRecDepth 100000 in
theorem zk_m247 : zmok 247 = true := by decide +kernel
set_option maxRecDepth 100000 in
theorem zk_m248 : zmok 248 = true := by decide +kernel
set_option maxRecDepth 100000 in
theorem zk_m249 : zmok 249 = true := by decide +kernel
set_option maxRecDepth 100000 in
theorem zk_m250 : zmok 250 = true := by decide +kernel
set_option maxRecDepth 100000 in
theorem zk_m251 : zmok 251 = true := by decide +kernel
set_option maxRecDepth 100000 in
theorem zk_m252 : zmok 252 = true := by decide +kernel
set_option maxRecDepth 100000 in
theorem zk_m253 : zmok 253 = true := by decide +kernel
set_option maxRecDepth 100000 in
theorem zk_m254 : zmok 254 = true := by decide +kernel
set_option maxRecDepth 100000 in
theorem zk_m255 : zmok 255 = true := by decide +kernel
set_option maxRecDepth 100000 in
theorem zk_m256 : zmok 256 = true := by decide +kernel
set_option maxRecDepth 100000 in
theorem zk_m257 : zmok 257 = true := by decide +kernel
set_option maxRecDepth 100000 in
theorem zk_m258 : zmok 258 = true := by decide +kernel
set_option maxRecDepth 100000 in
theorem zk_m259 : zmok 259 = true := by decide +kernel
set_option maxRecDepth 100000 in
theorem zk_m260 : zmok 260 = true := by decide +kernel
set_option maxRecDepth 100000 in
theorem zk_m261 : zmok 261 = true := by decide +kernel
set_option maxRecDepth 100000 in
theorem zk_m262 : zmok 262 = true := by decide +kernel
set_option maxRecDepth 100000 in
theorem zk_m263 : zmok 263 = true := by decide +kernel
set_option maxRecDepth 100000 in
theorem zk_m264 : zmok 264 = true := by decide +kernel
set_option maxRecDepth 100000 in
theorem zk_m265 : zmok 265 = true := by decide +kernel
set_option maxRecDepth 100000 in
theorem zk_m266 : zmok 266 = true := by decide +kernel
set_option maxRecDepth 100000 in
theorem zk_m267 : zmok 267 = true := by decide +kernel
set_option maxRecDepth 100000 in
theorem zk_m268 : zmok 268 = true := by decide +kernel
set_option maxRecDepth 100000 in
theorem zk_m269 : zmok 269 = true := by decide +kernel
set_option maxRecDepth 100000 in
theorem zk_m270 : zmok 270 = true := by decide +kernel
set_option maxRecDepth 100000 in
theorem zk_m271 : zmok 271 = true := by decide +kernel
set_option maxRecDepth 100000 in
theorem zk_m272 : zmok 272 = true := by decide +kernel
set_option maxRecDepth 100000 in
theorem zk_m273 : zmok 273 = true := by decide +kernel
set_option maxRecDepth 100000 in
theorem zk_m274 : zmok 274 = true := by decide +kernel
set_option maxRecDepth 100000 in
theorem zk_m275 : zmok 275 = true := by decide +kernel
set_option maxRecDepth 100000 in
theorem zk_m276 : zmok 276 = true := by decide +kernel
set_option maxRecDepth 100000 in
theorem zk_m277 : zmok 277 = true := by decide +kernel
set_option maxRecDepth 100000 in
theorem zk_m278 : zmok 278 = true := by decide +kernel
set_option maxRecDepth 100000 in
theorem zk_m279 : zmok 279 = true := by decide +kernel
set_option maxRecDepth 100000 in
theorem zk_m280 : zmok 280 = true := by decide +kernel
set_option maxRecDepth 100000 in
theorem zk_m281 : zmok 281 = true := by decide +kernel
