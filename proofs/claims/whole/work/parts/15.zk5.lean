/-! the bytes of the methods, part 5 -/
set_option maxRecDepth 100000 in
theorem zk_224 : zk_P 224 0 114 := zk_of (by decide +kernel)
set_option maxRecDepth 100000 in
theorem zk_225 : zk_P 225 0 46 := zk_of (by decide +kernel)
set_option maxRecDepth 100000 in
theorem zk_226 : zk_P 226 0 94 := zk_of (by decide +kernel)
set_option maxRecDepth 100000 in
theorem zk_227 : zk_P 227 0 30 := zk_of (by decide +kernel)
set_option maxRecDepth 100000 in
theorem zk_228 : zk_P 228 0 50 := zk_of (by decide +kernel)
set_option maxRecDepth 100000 in
theorem zk_229 : zk_P 229 0 76 := zk_of (by decide +kernel)
set_option maxRecDepth 100000 in
theorem zk_230 : zk_P 230 0 12 := zk_of (by decide +kernel)
set_option maxRecDepth 100000 in
theorem zk_231 : zk_P 231 0 60 := zk_of (by decide +kernel)
set_option maxRecDepth 100000 in
theorem zk_232 : zk_P 232 0 75 := zk_of (by decide +kernel)
set_option maxRecDepth 100000 in
theorem zk_233 : zk_P 233 0 49 := zk_of (by decide +kernel)
set_option maxRecDepth 100000 in
theorem zk_234_0 : zk_P 234 0 120 := zk_of (by decide +kernel)
set_option maxRecDepth 100000 in
theorem zk_234_120 : zk_P 234 120 233 := zk_of (by decide +kernel)
theorem zk_234 : zk_P 234 0 233 := zk_app zk_234_0 (zk_234_120)
set_option maxRecDepth 100000 in
theorem zk_235 : zk_P 235 0 95 := zk_of (by decide +kernel)
set_option maxRecDepth 100000 in
theorem zk_236 : zk_P 236 0 72 := zk_of (by decide +kernel)
set_option maxRecDepth 100000 in
theorem zk_237 : zk_P 237 0 23 := zk_of (by decide +kernel)
set_option maxRecDepth 100000 in
theorem zk_238 : zk_P 238 0 21 := zk_of (by decide +kernel)
set_option maxRecDepth 100000 in
theorem zk_239_0 : zk_P 239 0 120 := zk_of (by decide +kernel)
set_option maxRecDepth 100000 in
theorem zk_239_120 : zk_P 239 120 240 := zk_of (by decide +kernel)
set_option maxRecDepth 100000 in
theorem zk_239_240 : zk_P 239 240 360 := zk_of (by decide +kernel)
set_option maxRecDepth 100000 in
theorem zk_239_360 : zk_P 239 360 480 := zk_of (by decide +kernel)
set_option maxRecDepth 100000 in
theorem zk_239_480 : zk_P 239 480 600 := zk_of (by decide +kernel)
set_option maxRecDepth 100000 in
theorem zk_239_600 : zk_P 239 600 720 := zk_of (by decide +kernel)
set_option maxRecDepth 100000 in
theorem zk_239_720 : zk_P 239 720 840 := zk_of (by decide +kernel)
set_option maxRecDepth 100000 in
theorem zk_239_840 : zk_P 239 840 960 := zk_of (by decide +kernel)
set_option maxRecDepth 100000 in
theorem zk_239_960 : zk_P 239 960 1080 := zk_of (by decide +kernel)
set_option maxRecDepth 100000 in
theorem zk_239_1080 : zk_P 239 1080 1200 := zk_of (by decide +kernel)
set_option maxRecDepth 100000 in
theorem zk_239_1200 : zk_P 239 1200 1320 := zk_of (by decide +kernel)
set_option maxRecDepth 100000 in
theorem zk_239_1320 : zk_P 239 1320 1440 := zk_of (by decide +kernel)
set_option maxRecDepth 100000 in
theorem zk_239_1440 : zk_P 239 1440 1560 := zk_of (by decide +kernel)
set_option maxRecDepth 100000 in
theorem zk_239_1560 : zk_P 239 1560 1680 := zk_of (by decide +kernel)
set_option maxRecDepth 100000 in
theorem zk_239_1680 : zk_P 239 1680 1745 := zk_of (by decide +kernel)
theorem zk_239 : zk_P 239 0 1745 := zk_app zk_239_0 (zk_app zk_239_120 (zk_app zk_239_240 (zk_app zk_239_360 (zk_app zk_239_480 (zk_app zk_239_600 (zk_app zk_239_720 (zk_app zk_239_840 (zk_app zk_239_960 (zk_app zk_239_1080 (zk_app zk_239_1200 (zk_app zk_239_1320 (zk_app zk_239_1440 (zk_app zk_239_1560 (zk_239_1680))))))))))))))
