/-! the bytes of the methods, part 2 -/
set_option maxRecDepth 100000 in
theorem zk_71 : zk_P 71 0 39 := zk_of (by decide +kernel)
set_option maxRecDepth 100000 in
theorem zk_72 : zk_P 72 0 18 := zk_of (by decide +kernel)
set_option maxRecDepth 100000 in
theorem zk_73 : zk_P 73 0 19 := zk_of (by decide +kernel)
set_option maxRecDepth 100000 in
theorem zk_74 : zk_P 74 0 40 := zk_of (by decide +kernel)
set_option maxRecDepth 100000 in
theorem zk_75 : zk_P 75 0 31 := zk_of (by decide +kernel)
set_option maxRecDepth 100000 in
theorem zk_76 : zk_P 76 0 52 := zk_of (by decide +kernel)
set_option maxRecDepth 100000 in
theorem zk_77_0 : zk_P 77 0 120 := zk_of (by decide +kernel)
set_option maxRecDepth 100000 in
theorem zk_77_120 : zk_P 77 120 240 := zk_of (by decide +kernel)
set_option maxRecDepth 100000 in
theorem zk_77_240 : zk_P 77 240 302 := zk_of (by decide +kernel)
theorem zk_77 : zk_P 77 0 302 := zk_app zk_77_0 (zk_app zk_77_120 (zk_77_240))
set_option maxRecDepth 100000 in
theorem zk_78 : zk_P 78 0 37 := zk_of (by decide +kernel)
set_option maxRecDepth 100000 in
theorem zk_79 : zk_P 79 0 37 := zk_of (by decide +kernel)
set_option maxRecDepth 100000 in
theorem zk_80 : zk_P 80 0 22 := zk_of (by decide +kernel)
set_option maxRecDepth 100000 in
theorem zk_81 : zk_P 81 0 43 := zk_of (by decide +kernel)
set_option maxRecDepth 100000 in
theorem zk_82 : zk_P 82 0 29 := zk_of (by decide +kernel)
set_option maxRecDepth 100000 in
theorem zk_83 : zk_P 83 0 83 := zk_of (by decide +kernel)
set_option maxRecDepth 100000 in
theorem zk_84 : zk_P 84 0 54 := zk_of (by decide +kernel)
set_option maxRecDepth 100000 in
theorem zk_85 : zk_P 85 0 64 := zk_of (by decide +kernel)
set_option maxRecDepth 100000 in
theorem zk_86 : zk_P 86 0 26 := zk_of (by decide +kernel)
set_option maxRecDepth 100000 in
theorem zk_87 : zk_P 87 0 22 := zk_of (by decide +kernel)
set_option maxRecDepth 100000 in
theorem zk_88 : zk_P 88 0 48 := zk_of (by decide +kernel)
set_option maxRecDepth 100000 in
theorem zk_89 : zk_P 89 0 102 := zk_of (by decide +kernel)
set_option maxRecDepth 100000 in
theorem zk_90 : zk_P 90 0 51 := zk_of (by decide +kernel)
set_option maxRecDepth 100000 in
theorem zk_91 : zk_P 91 0 97 := zk_of (by decide +kernel)
set_option maxRecDepth 100000 in
theorem zk_92 : zk_P 92 0 70 := zk_of (by decide +kernel)
set_option maxRecDepth 100000 in
theorem zk_93 : zk_P 93 0 80 := zk_of (by decide +kernel)
set_option maxRecDepth 100000 in
theorem zk_94 : zk_P 94 0 87 := zk_of (by decide +kernel)
set_option maxRecDepth 100000 in
theorem zk_95 : zk_P 95 0 57 := zk_of (by decide +kernel)
set_option maxRecDepth 100000 in
theorem zk_96 : zk_P 96 0 58 := zk_of (by decide +kernel)
set_option maxRecDepth 100000 in
theorem zk_97 : zk_P 97 0 79 := zk_of (by decide +kernel)
set_option maxRecDepth 100000 in
theorem zk_98 : zk_P 98 0 67 := zk_of (by decide +kernel)
set_option maxRecDepth 100000 in
theorem zk_99 : zk_P 99 0 34 := zk_of (by decide +kernel)
set_option maxRecDepth 100000 in
theorem zk_100 : zk_P 100 0 94 := zk_of (by decide +kernel)
set_option maxRecDepth 100000 in
theorem zk_101_0 : zk_P 101 0 120 := zk_of (by decide +kernel)
set_option maxRecDepth 100000 in
theorem zk_101_120 : zk_P 101 120 136 := zk_of (by decide +kernel)
theorem zk_101 : zk_P 101 0 136 := zk_app zk_101_0 (zk_101_120)
set_option maxRecDepth 100000 in
theorem zk_102 : zk_P 102 0 75 := zk_of (by decide +kernel)
set_option maxRecDepth 100000 in
theorem zk_103 : zk_P 103 0 79 := zk_of (by decide +kernel)
set_option maxRecDepth 100000 in
theorem zk_104 : zk_P 104 0 58 := zk_of (by decide +kernel)
set_option maxRecDepth 100000 in
theorem zk_105 : zk_P 105 0 109 := zk_of (by decide +kernel)
set_option maxRecDepth 100000 in
theorem zk_106 : zk_P 106 0 86 := zk_of (by decide +kernel)
set_option maxRecDepth 100000 in
theorem zk_107 : zk_P 107 0 95 := zk_of (by decide +kernel)
set_option maxRecDepth 100000 in
theorem zk_108_0 : zk_P 108 0 120 := zk_of (by decide +kernel)
set_option maxRecDepth 100000 in
theorem zk_108_120 : zk_P 108 120 148 := zk_of (by decide +kernel)
theorem zk_108 : zk_P 108 0 148 := zk_app zk_108_0 (zk_108_120)
set_option maxRecDepth 100000 in
theorem zk_109_0 : zk_P 109 0 120 := zk_of (by decide +kernel)
set_option maxRecDepth 100000 in
theorem zk_109_120 : zk_P 109 120 142 := zk_of (by decide +kernel)
theorem zk_109 : zk_P 109 0 142 := zk_app zk_109_0 (zk_109_120)
set_option maxRecDepth 100000 in
theorem zk_110 : zk_P 110 0 52 := zk_of (by decide +kernel)
set_option maxRecDepth 100000 in
theorem zk_111 : zk_P 111 0 66 := zk_of (by decide +kernel)
set_option maxRecDepth 100000 in
theorem zk_112 : zk_P 112 0 35 := zk_of (by decide +kernel)
set_option maxRecDepth 100000 in
theorem zk_113 : zk_P 113 0 40 := zk_of (by decide +kernel)
set_option maxRecDepth 100000 in
theorem zk_114 : zk_P 114 0 12 := zk_of (by decide +kernel)
set_option maxRecDepth 100000 in
theorem zk_115 : zk_P 115 0 12 := zk_of (by decide +kernel)
set_option maxRecDepth 100000 in
theorem zk_116 : zk_P 116 0 18 := zk_of (by decide +kernel)
set_option maxRecDepth 100000 in
theorem zk_117 : zk_P 117 0 41 := zk_of (by decide +kernel)
set_option maxRecDepth 100000 in
theorem zk_118 : zk_P 118 0 33 := zk_of (by decide +kernel)
set_option maxRecDepth 100000 in
theorem zk_119 : zk_P 119 0 37 := zk_of (by decide +kernel)
set_option maxRecDepth 100000 in
theorem zk_120 : zk_P 120 0 44 := zk_of (by decide +kernel)
set_option maxRecDepth 100000 in
theorem zk_121 : zk_P 121 0 29 := zk_of (by decide +kernel)
set_option maxRecDepth 100000 in
theorem zk_122 : zk_P 122 0 26 := zk_of (by decide +kernel)
set_option maxRecDepth 100000 in
theorem zk_123_0 : zk_P 123 0 120 := zk_of (by decide +kernel)
set_option maxRecDepth 100000 in
theorem zk_123_120 : zk_P 123 120 122 := zk_of (by decide +kernel)
theorem zk_123 : zk_P 123 0 122 := zk_app zk_123_0 (zk_123_120)
set_option maxRecDepth 100000 in
theorem zk_124 : zk_P 124 0 70 := zk_of (by decide +kernel)
set_option maxRecDepth 100000 in
theorem zk_125 : zk_P 125 0 90 := zk_of (by decide +kernel)
set_option maxRecDepth 100000 in
theorem zk_126 : zk_P 126 0 44 := zk_of (by decide +kernel)
set_option maxRecDepth 100000 in
theorem zk_127 : zk_P 127 0 17 := zk_of (by decide +kernel)
set_option maxRecDepth 100000 in
theorem zk_128 : zk_P 128 0 32 := zk_of (by decide +kernel)
set_option maxRecDepth 100000 in
theorem zk_129 : zk_P 129 0 16 := zk_of (by decide +kernel)
set_option maxRecDepth 100000 in
theorem zk_130 : zk_P 130 0 15 := zk_of (by decide +kernel)
