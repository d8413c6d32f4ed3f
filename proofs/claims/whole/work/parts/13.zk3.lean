/-! the bytes of the methods, part 3 -/
set_option maxRecDepth 100000 in
theorem zk_131 : zk_P 131 0 16 := zk_of (by decide +kernel)
set_option maxRecDepth 100000 in
theorem zk_132 : zk_P 132 0 35 := zk_of (by decide +kernel)
set_option maxRecDepth 100000 in
theorem zk_133 : zk_P 133 0 24 := zk_of (by decide +kernel)
set_option maxRecDepth 100000 in
theorem zk_134 : zk_P 134 0 89 := zk_of (by decide +kernel)
set_option maxRecDepth 100000 in
theorem zk_135 : zk_P 135 0 49 := zk_of (by decide +kernel)
set_option maxRecDepth 100000 in
theorem zk_136 : zk_P 136 0 102 := zk_of (by decide +kernel)
set_option maxRecDepth 100000 in
theorem zk_137 : zk_P 137 0 35 := zk_of (by decide +kernel)
set_option maxRecDepth 100000 in
theorem zk_138 : zk_P 138 0 27 := zk_of (by decide +kernel)
set_option maxRecDepth 100000 in
theorem zk_139 : zk_P 139 0 20 := zk_of (by decide +kernel)
set_option maxRecDepth 100000 in
theorem zk_140 : zk_P 140 0 60 := zk_of (by decide +kernel)
set_option maxRecDepth 100000 in
theorem zk_141 : zk_P 141 0 16 := zk_of (by decide +kernel)
set_option maxRecDepth 100000 in
theorem zk_142 : zk_P 142 0 12 := zk_of (by decide +kernel)
set_option maxRecDepth 100000 in
theorem zk_143 : zk_P 143 0 7 := zk_of (by decide +kernel)
set_option maxRecDepth 100000 in
theorem zk_144 : zk_P 144 0 12 := zk_of (by decide +kernel)
set_option maxRecDepth 100000 in
theorem zk_145 : zk_P 145 0 31 := zk_of (by decide +kernel)
set_option maxRecDepth 100000 in
theorem zk_146 : zk_P 146 0 9 := zk_of (by decide +kernel)
set_option maxRecDepth 100000 in
theorem zk_147 : zk_P 147 0 7 := zk_of (by decide +kernel)
set_option maxRecDepth 100000 in
theorem zk_148 : zk_P 148 0 30 := zk_of (by decide +kernel)
set_option maxRecDepth 100000 in
theorem zk_149 : zk_P 149 0 7 := zk_of (by decide +kernel)
set_option maxRecDepth 100000 in
theorem zk_150 : zk_P 150 0 74 := zk_of (by decide +kernel)
set_option maxRecDepth 100000 in
theorem zk_151 : zk_P 151 0 46 := zk_of (by decide +kernel)
set_option maxRecDepth 100000 in
theorem zk_152_0 : zk_P 152 0 120 := zk_of (by decide +kernel)
set_option maxRecDepth 100000 in
theorem zk_152_120 : zk_P 152 120 219 := zk_of (by decide +kernel)
theorem zk_152 : zk_P 152 0 219 := zk_app zk_152_0 (zk_152_120)
set_option maxRecDepth 100000 in
theorem zk_153 : zk_P 153 0 96 := zk_of (by decide +kernel)
set_option maxRecDepth 100000 in
theorem zk_154 : zk_P 154 0 73 := zk_of (by decide +kernel)
set_option maxRecDepth 100000 in
theorem zk_155_0 : zk_P 155 0 120 := zk_of (by decide +kernel)
set_option maxRecDepth 100000 in
theorem zk_155_120 : zk_P 155 120 122 := zk_of (by decide +kernel)
theorem zk_155 : zk_P 155 0 122 := zk_app zk_155_0 (zk_155_120)
set_option maxRecDepth 100000 in
theorem zk_156_0 : zk_P 156 0 120 := zk_of (by decide +kernel)
set_option maxRecDepth 100000 in
theorem zk_156_120 : zk_P 156 120 138 := zk_of (by decide +kernel)
theorem zk_156 : zk_P 156 0 138 := zk_app zk_156_0 (zk_156_120)
set_option maxRecDepth 100000 in
theorem zk_157_0 : zk_P 157 0 120 := zk_of (by decide +kernel)
set_option maxRecDepth 100000 in
theorem zk_157_120 : zk_P 157 120 150 := zk_of (by decide +kernel)
theorem zk_157 : zk_P 157 0 150 := zk_app zk_157_0 (zk_157_120)
set_option maxRecDepth 100000 in
theorem zk_158_0 : zk_P 158 0 120 := zk_of (by decide +kernel)
set_option maxRecDepth 100000 in
theorem zk_158_120 : zk_P 158 120 171 := zk_of (by decide +kernel)
theorem zk_158 : zk_P 158 0 171 := zk_app zk_158_0 (zk_158_120)
set_option maxRecDepth 100000 in
theorem zk_159 : zk_P 159 0 45 := zk_of (by decide +kernel)
set_option maxRecDepth 100000 in
theorem zk_160 : zk_P 160 0 66 := zk_of (by decide +kernel)
set_option maxRecDepth 100000 in
theorem zk_161 : zk_P 161 0 75 := zk_of (by decide +kernel)
set_option maxRecDepth 100000 in
theorem zk_162 : zk_P 162 0 47 := zk_of (by decide +kernel)
set_option maxRecDepth 100000 in
theorem zk_163 : zk_P 163 0 25 := zk_of (by decide +kernel)
set_option maxRecDepth 100000 in
theorem zk_164 : zk_P 164 0 22 := zk_of (by decide +kernel)
set_option maxRecDepth 100000 in
theorem zk_165 : zk_P 165 0 19 := zk_of (by decide +kernel)
set_option maxRecDepth 100000 in
theorem zk_166 : zk_P 166 0 24 := zk_of (by decide +kernel)
set_option maxRecDepth 100000 in
theorem zk_167 : zk_P 167 0 74 := zk_of (by decide +kernel)
set_option maxRecDepth 100000 in
theorem zk_168_0 : zk_P 168 0 120 := zk_of (by decide +kernel)
set_option maxRecDepth 100000 in
theorem zk_168_120 : zk_P 168 120 226 := zk_of (by decide +kernel)
theorem zk_168 : zk_P 168 0 226 := zk_app zk_168_0 (zk_168_120)
set_option maxRecDepth 100000 in
theorem zk_169 : zk_P 169 0 87 := zk_of (by decide +kernel)
set_option maxRecDepth 100000 in
theorem zk_170 : zk_P 170 0 73 := zk_of (by decide +kernel)
set_option maxRecDepth 100000 in
theorem zk_171 : zk_P 171 0 90 := zk_of (by decide +kernel)
set_option maxRecDepth 100000 in
theorem zk_172 : zk_P 172 0 39 := zk_of (by decide +kernel)
set_option maxRecDepth 100000 in
theorem zk_173 : zk_P 173 0 39 := zk_of (by decide +kernel)
set_option maxRecDepth 100000 in
theorem zk_174 : zk_P 174 0 93 := zk_of (by decide +kernel)
set_option maxRecDepth 100000 in
theorem zk_175_0 : zk_P 175 0 120 := zk_of (by decide +kernel)
set_option maxRecDepth 100000 in
theorem zk_175_120 : zk_P 175 120 179 := zk_of (by decide +kernel)
theorem zk_175 : zk_P 175 0 179 := zk_app zk_175_0 (zk_175_120)
set_option maxRecDepth 100000 in
theorem zk_176_0 : zk_P 176 0 120 := zk_of (by decide +kernel)
set_option maxRecDepth 100000 in
theorem zk_176_120 : zk_P 176 120 149 := zk_of (by decide +kernel)
theorem zk_176 : zk_P 176 0 149 := zk_app zk_176_0 (zk_176_120)
set_option maxRecDepth 100000 in
theorem zk_177_0 : zk_P 177 0 120 := zk_of (by decide +kernel)
set_option maxRecDepth 100000 in
theorem zk_177_120 : zk_P 177 120 240 := zk_of (by decide +kernel)
set_option maxRecDepth 100000 in
theorem zk_177_240 : zk_P 177 240 246 := zk_of (by decide +kernel)
theorem zk_177 : zk_P 177 0 246 := zk_app zk_177_0 (zk_app zk_177_120 (zk_177_240))
set_option maxRecDepth 100000 in
theorem zk_178_0 : zk_P 178 0 120 := zk_of (by decide +kernel)
set_option maxRecDepth 100000 in
theorem zk_178_120 : zk_P 178 120 144 := zk_of (by decide +kernel)
theorem zk_178 : zk_P 178 0 144 := zk_app zk_178_0 (zk_178_120)
set_option maxRecDepth 100000 in
theorem zk_179 : zk_P 179 0 14 := zk_of (by decide +kernel)
set_option maxRecDepth 100000 in
theorem zk_180 : zk_P 180 0 41 := zk_of (by decide +kernel)
set_option maxRecDepth 100000 in
theorem zk_181 : zk_P 181 0 16 := zk_of (by decide +kernel)
set_option maxRecDepth 100000 in
theorem zk_182 : zk_P 182 0 108 := zk_of (by decide +kernel)
