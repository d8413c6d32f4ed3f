/-! the bytes of the methods, part 4 -/
set_option maxRecDepth 100000 in
theorem zk_183 : zk_P 183 0 82 := zk_of (by decide +kernel)
set_option maxRecDepth 100000 in
theorem zk_184 : zk_P 184 0 35 := zk_of (by decide +kernel)
set_option maxRecDepth 100000 in
theorem zk_185 : zk_P 185 0 92 := zk_of (by decide +kernel)
set_option maxRecDepth 100000 in
theorem zk_186 : zk_P 186 0 45 := zk_of (by decide +kernel)
set_option maxRecDepth 100000 in
theorem zk_187 : zk_P 187 0 74 := zk_of (by decide +kernel)
set_option maxRecDepth 100000 in
theorem zk_188 : zk_P 188 0 69 := zk_of (by decide +kernel)
set_option maxRecDepth 100000 in
theorem zk_189 : zk_P 189 0 82 := zk_of (by decide +kernel)
set_option maxRecDepth 100000 in
theorem zk_190 : zk_P 190 0 107 := zk_of (by decide +kernel)
set_option maxRecDepth 100000 in
theorem zk_191 : zk_P 191 0 42 := zk_of (by decide +kernel)
set_option maxRecDepth 100000 in
theorem zk_192 : zk_P 192 0 33 := zk_of (by decide +kernel)
set_option maxRecDepth 100000 in
theorem zk_193 : zk_P 193 0 63 := zk_of (by decide +kernel)
set_option maxRecDepth 100000 in
theorem zk_194 : zk_P 194 0 115 := zk_of (by decide +kernel)
set_option maxRecDepth 100000 in
theorem zk_195 : zk_P 195 0 89 := zk_of (by decide +kernel)
set_option maxRecDepth 100000 in
theorem zk_196 : zk_P 196 0 42 := zk_of (by decide +kernel)
set_option maxRecDepth 100000 in
theorem zk_197 : zk_P 197 0 34 := zk_of (by decide +kernel)
set_option maxRecDepth 100000 in
theorem zk_198 : zk_P 198 0 32 := zk_of (by decide +kernel)
set_option maxRecDepth 100000 in
theorem zk_199 : zk_P 199 0 13 := zk_of (by decide +kernel)
set_option maxRecDepth 100000 in
theorem zk_200 : zk_P 200 0 96 := zk_of (by decide +kernel)
set_option maxRecDepth 100000 in
theorem zk_201_0 : zk_P 201 0 120 := zk_of (by decide +kernel)
set_option maxRecDepth 100000 in
theorem zk_201_120 : zk_P 201 120 140 := zk_of (by decide +kernel)
theorem zk_201 : zk_P 201 0 140 := zk_app zk_201_0 (zk_201_120)
set_option maxRecDepth 100000 in
theorem zk_202 : zk_P 202 0 87 := zk_of (by decide +kernel)
set_option maxRecDepth 100000 in
theorem zk_203_0 : zk_P 203 0 120 := zk_of (by decide +kernel)
set_option maxRecDepth 100000 in
theorem zk_203_120 : zk_P 203 120 240 := zk_of (by decide +kernel)
set_option maxRecDepth 100000 in
theorem zk_203_240 : zk_P 203 240 247 := zk_of (by decide +kernel)
theorem zk_203 : zk_P 203 0 247 := zk_app zk_203_0 (zk_app zk_203_120 (zk_203_240))
set_option maxRecDepth 100000 in
theorem zk_204 : zk_P 204 0 110 := zk_of (by decide +kernel)
set_option maxRecDepth 100000 in
theorem zk_205 : zk_P 205 0 27 := zk_of (by decide +kernel)
set_option maxRecDepth 100000 in
theorem zk_206 : zk_P 206 0 106 := zk_of (by decide +kernel)
set_option maxRecDepth 100000 in
theorem zk_207 : zk_P 207 0 110 := zk_of (by decide +kernel)
set_option maxRecDepth 100000 in
theorem zk_208 : zk_P 208 0 86 := zk_of (by decide +kernel)
set_option maxRecDepth 100000 in
theorem zk_209 : zk_P 209 0 64 := zk_of (by decide +kernel)
set_option maxRecDepth 100000 in
theorem zk_210 : zk_P 210 0 91 := zk_of (by decide +kernel)
set_option maxRecDepth 100000 in
theorem zk_211 : zk_P 211 0 84 := zk_of (by decide +kernel)
set_option maxRecDepth 100000 in
theorem zk_212_0 : zk_P 212 0 120 := zk_of (by decide +kernel)
set_option maxRecDepth 100000 in
theorem zk_212_120 : zk_P 212 120 123 := zk_of (by decide +kernel)
theorem zk_212 : zk_P 212 0 123 := zk_app zk_212_0 (zk_212_120)
set_option maxRecDepth 100000 in
theorem zk_213_0 : zk_P 213 0 120 := zk_of (by decide +kernel)
set_option maxRecDepth 100000 in
theorem zk_213_120 : zk_P 213 120 203 := zk_of (by decide +kernel)
theorem zk_213 : zk_P 213 0 203 := zk_app zk_213_0 (zk_213_120)
set_option maxRecDepth 100000 in
theorem zk_214 : zk_P 214 0 108 := zk_of (by decide +kernel)
set_option maxRecDepth 100000 in
theorem zk_215 : zk_P 215 0 36 := zk_of (by decide +kernel)
set_option maxRecDepth 100000 in
theorem zk_216 : zk_P 216 0 20 := zk_of (by decide +kernel)
set_option maxRecDepth 100000 in
theorem zk_217 : zk_P 217 0 83 := zk_of (by decide +kernel)
set_option maxRecDepth 100000 in
theorem zk_218 : zk_P 218 0 104 := zk_of (by decide +kernel)
set_option maxRecDepth 100000 in
theorem zk_219 : zk_P 219 0 46 := zk_of (by decide +kernel)
set_option maxRecDepth 100000 in
theorem zk_220 : zk_P 220 0 30 := zk_of (by decide +kernel)
set_option maxRecDepth 100000 in
theorem zk_221 : zk_P 221 0 88 := zk_of (by decide +kernel)
set_option maxRecDepth 100000 in
theorem zk_222_0 : zk_P 222 0 120 := zk_of (by decide +kernel)
set_option maxRecDepth 100000 in
theorem zk_222_120 : zk_P 222 120 142 := zk_of (by decide +kernel)
theorem zk_222 : zk_P 222 0 142 := zk_app zk_222_0 (zk_222_120)
set_option maxRecDepth 100000 in
theorem zk_223 : zk_P 223 0 104 := zk_of (by decide +kernel)
