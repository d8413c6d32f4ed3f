/-! a block is a row: by computation -/
set_option maxRecDepth 100000 in
set_option maxHeartbeats 4000000 in
theorem fHa_leastRight_eq (d : Nat) (h : zm_H) : fHa_leastRight (d + 1) h =
  fHa_leastRight_c2 (d + 1) ((0 : Int32)) h :=
  (zm_lim_eq (d + 1) 24 0 _ _ h).trans ((zs zt_24_0.1 rfl).trans ((zgo zt_24_1.2).trans ((zs (q := (2, [some (.ref (14)), some (.int ((0 : Int32)))], [], h)) zt_24_1.1 rfl).trans ((zgoK zq_24_2).trans rfl))))
set_option maxRecDepth 100000 in
set_option maxHeartbeats 4000000 in
theorem fHa_leastRight_c2_eq (d : Nat) (x1 : Int32) (h : zm_H) : fHa_leastRight_c2 (d + 1) x1 h =
  cond (decide ((200 : Int32) < x1))
  (some (some (.int ((-2 : Int32))), h))
  (zb_I (fHa_isRightAt d x1 h) (fun v2 h1 =>
   cond (decide (v2 = 0))
   (fHa_leastRight_c2 (d + 1) ((x1 + (1 : Int32))) h1)
   (some (some (.int x1), h1)))) :=
  (zm_lim_eq (d + 1) 24 2 _ _ h).trans ((zs zt_24_2.1 rfl).trans ((zgo zt_24_3.2).trans ((zs zt_24_3.1 rfl).trans ((zgo zt_24_6.2).trans (zsB zt_24_6.1 rfl ((zgo zt_24_25.2).trans ((zs zt_24_25.1 rfl).trans ((zgo zt_24_27.2).trans (zsRI zt_24_27.1 zB_24)))) ((zgo zt_24_9.2).trans ((zs zt_24_9.1 rfl).trans ((zgo zt_24_10.2).trans ((zs zt_24_10.1 rfl).trans ((zgo zt_24_11.2).trans (zsCt zt_24_11.1 rfl zo_14_2 (zdI (fHa_isRightAt_call _ _ _) (fun v2 h1 => (zgo zt_24_14.2).trans (zsB zt_24_14.1 rfl ((zgo zt_24_19.2).trans ((zs (q := (22, [some (.ref (14)), some (.int ((x1 + (1 : Int32))))], [], h1)) zt_24_19.1 rfl).trans ((zgo zt_24_22.2).trans ((zs zt_24_22.1 rfl).trans ((zgoK zq_24_2).trans rfl))))) ((zgo zt_24_17.2).trans ((zs zt_24_17.1 rfl).trans ((zgo zt_24_18.2).trans (zsRI zt_24_18.1 zB_24))))))))))))))))))
set_option maxRecDepth 100000 in
set_option maxHeartbeats 4000000 in
theorem fLa_joined_eq (d : Nat) (a0 : Int32) (a1 : Int32) (a2 : Int32) (h : zm_H) : fLa_joined (d + 1) a0 a1 a2 h =
  cond (decide (a0 = (37 : Int32)))
  (cond (!(decide (a2 = 0)))
   (cond (!(decide (a2 = 0))) (some (some (.int ((a1 - a1 / a2 * a2))), h)) none)
   (some (some (.int ((0 : Int32))), h)))
  (cond (decide (a0 = (38 : Int32)))
  (cond (decide (a1 = 0))
   (some (some (.int ((0 : Int32))), h))
   (cond (decide (a2 = 0))
    (some (some (.int ((0 : Int32))), h))
    (some (some (.int ((1 : Int32))), h))))
  (cond (decide (a0 = (42 : Int32)))
  (some (some (.int ((a1 * a2))), h))
  (cond (decide (a0 = (43 : Int32)))
  (some (some (.int ((a1 + a2))), h))
  (cond (decide (a0 = (45 : Int32)))
  (some (some (.int ((a1 - a2))), h))
  (cond (decide (a0 = (47 : Int32)))
  (cond (!(decide (a2 = 0)))
   (cond (!(decide (a2 = 0))) (some (some (.int ((a1 / a2))), h)) none)
   (some (some (.int ((0 : Int32))), h)))
  (cond (decide (a0 = (60 : Int32)))
  (cond (decide (a2 ≤ a1))
   (some (some (.int ((0 : Int32))), h))
   (some (some (.int ((1 : Int32))), h)))
  (cond (decide (a0 = (61 : Int32)))
  (cond (!(decide (a1 = a2)))
   (some (some (.int ((0 : Int32))), h))
   (some (some (.int ((1 : Int32))), h)))
  (cond (decide (a0 = (62 : Int32)))
  (cond (decide (a1 ≤ a2))
   (some (some (.int ((0 : Int32))), h))
   (some (some (.int ((1 : Int32))), h)))
  (cond (decide (a0 = (124 : Int32)))
  (cond (!(decide (a1 = 0)))
   (some (some (.int ((1 : Int32))), h))
   (cond (decide (a2 = 0))
    (some (some (.int ((0 : Int32))), h))
    (some (some (.int ((1 : Int32))), h))))
  (some (some (.int ((0 : Int32))), h))))))))))) :=
  (zm_lim_eq (d + 1) 37 0 _ _ h).trans ((zs zt_37_0.1 rfl).trans ((zgo zt_37_1.2).trans (zsS zt_37_1.1 rfl (zsw1 ((zgo zt_37_177.2).trans ((zs zt_37_177.1 rfl).trans ((zgo zt_37_178.2).trans (zsB zt_37_178.1 rfl ((zgo zt_37_185.2).trans ((zs zt_37_185.1 rfl).trans ((zgo zt_37_186.2).trans ((zs zt_37_186.1 rfl).trans ((zgo zt_37_187.2).trans (zsG zt_37_187.1 rfl ((zgo zt_37_188.2).trans (zsRI zt_37_188.1 zB_37)))))))) ((zgo zt_37_181.2).trans ((zs zt_37_181.1 rfl).trans ((zgo zt_37_182.2).trans ((zs zt_37_182.1 rfl).trans ((zgo zt_37_188.2).trans (zsRI zt_37_188.1 zB_37)))))))))) (zsw1 ((zgo zt_37_106.2).trans ((zs zt_37_106.1 rfl).trans ((zgo zt_37_107.2).trans (zsB zt_37_107.1 rfl ((zgo zt_37_118.2).trans ((zs zt_37_118.1 rfl).trans ((zgo zt_37_119.2).trans (zsRI zt_37_119.1 zB_37)))) ((zgo zt_37_110.2).trans ((zs zt_37_110.1 rfl).trans ((zgo zt_37_111.2).trans (zsB zt_37_111.1 rfl ((zgo zt_37_118.2).trans ((zs zt_37_118.1 rfl).trans ((zgo zt_37_119.2).trans (zsRI zt_37_119.1 zB_37)))) ((zgo zt_37_114.2).trans ((zs zt_37_114.1 rfl).trans ((zgo zt_37_115.2).trans ((zs zt_37_115.1 rfl).trans ((zgo zt_37_119.2).trans (zsRI zt_37_119.1 zB_37)))))))))))))) (zsw1 ((zgo zt_37_161.2).trans ((zs zt_37_161.1 rfl).trans ((zgo zt_37_162.2).trans ((zs zt_37_162.1 rfl).trans ((zgo zt_37_163.2).trans ((zs (q := (164, [some (.int a0), some (.int a1), some (.int a2)], [.int ((a1 * a2))], h)) zt_37_163.1 rfl).trans ((zgo zt_37_164.2).trans (zsRI zt_37_164.1 zB_37)))))))) (zsw1 ((zgo zt_37_153.2).trans ((zs zt_37_153.1 rfl).trans ((zgo zt_37_154.2).trans ((zs zt_37_154.1 rfl).trans ((zgo zt_37_155.2).trans ((zs (q := (156, [some (.int a0), some (.int a1), some (.int a2)], [.int ((a1 + a2))], h)) zt_37_155.1 rfl).trans ((zgo zt_37_156.2).trans (zsRI zt_37_156.1 zB_37)))))))) (zsw1 ((zgo zt_37_157.2).trans ((zs zt_37_157.1 rfl).trans ((zgo zt_37_158.2).trans ((zs zt_37_158.1 rfl).trans ((zgo zt_37_159.2).trans ((zs (q := (160, [some (.int a0), some (.int a1), some (.int a2)], [.int ((a1 - a2))], h)) zt_37_159.1 rfl).trans ((zgo zt_37_160.2).trans (zsRI zt_37_160.1 zB_37)))))))) (zsw1 ((zgo zt_37_165.2).trans ((zs zt_37_165.1 rfl).trans ((zgo zt_37_166.2).trans (zsB zt_37_166.1 rfl ((zgo zt_37_173.2).trans ((zs zt_37_173.1 rfl).trans ((zgo zt_37_174.2).trans ((zs zt_37_174.1 rfl).trans ((zgo zt_37_175.2).trans (zsG zt_37_175.1 rfl ((zgo zt_37_176.2).trans (zsRI zt_37_176.1 zB_37)))))))) ((zgo zt_37_169.2).trans ((zs zt_37_169.1 rfl).trans ((zgo zt_37_170.2).trans ((zs zt_37_170.1 rfl).trans ((zgo zt_37_176.2).trans (zsRI zt_37_176.1 zB_37)))))))))) (zsw1 ((zgo zt_37_120.2).trans ((zs zt_37_120.1 rfl).trans ((zgo zt_37_121.2).trans ((zs zt_37_121.1 rfl).trans ((zgo zt_37_122.2).trans (zsB zt_37_122.1 rfl ((zgo zt_37_129.2).trans ((zs zt_37_129.1 rfl).trans ((zgo zt_37_130.2).trans (zsRI zt_37_130.1 zB_37)))) ((zgo zt_37_125.2).trans ((zs zt_37_125.1 rfl).trans ((zgo zt_37_126.2).trans ((zs zt_37_126.1 rfl).trans ((zgo zt_37_130.2).trans (zsRI zt_37_130.1 zB_37)))))))))))) (zsw1 ((zgo zt_37_131.2).trans ((zs zt_37_131.1 rfl).trans ((zgo zt_37_132.2).trans ((zs zt_37_132.1 rfl).trans ((zgo zt_37_133.2).trans (zsB zt_37_133.1 rfl ((zgo zt_37_140.2).trans ((zs zt_37_140.1 rfl).trans ((zgo zt_37_141.2).trans (zsRI zt_37_141.1 zB_37)))) ((zgo zt_37_136.2).trans ((zs zt_37_136.1 rfl).trans ((zgo zt_37_137.2).trans ((zs zt_37_137.1 rfl).trans ((zgo zt_37_141.2).trans (zsRI zt_37_141.1 zB_37)))))))))))) (zsw1 ((zgo zt_37_142.2).trans ((zs zt_37_142.1 rfl).trans ((zgo zt_37_143.2).trans ((zs zt_37_143.1 rfl).trans ((zgo zt_37_144.2).trans (zsB zt_37_144.1 rfl ((zgo zt_37_151.2).trans ((zs zt_37_151.1 rfl).trans ((zgo zt_37_152.2).trans (zsRI zt_37_152.1 zB_37)))) ((zgo zt_37_147.2).trans ((zs zt_37_147.1 rfl).trans ((zgo zt_37_148.2).trans ((zs zt_37_148.1 rfl).trans ((zgo zt_37_152.2).trans (zsRI zt_37_152.1 zB_37)))))))))))) (zsw1 ((zgo zt_37_92.2).trans ((zs zt_37_92.1 rfl).trans ((zgo zt_37_93.2).trans (zsB zt_37_93.1 rfl ((zgo zt_37_100.2).trans ((zs zt_37_100.1 rfl).trans ((zgo zt_37_101.2).trans ((zs zt_37_101.1 rfl).trans ((zgo zt_37_105.2).trans (zsRI zt_37_105.1 zB_37)))))) ((zgo zt_37_96.2).trans ((zs zt_37_96.1 rfl).trans ((zgo zt_37_97.2).trans (zsB zt_37_97.1 rfl ((zgo zt_37_104.2).trans ((zs zt_37_104.1 rfl).trans ((zgo zt_37_105.2).trans (zsRI zt_37_105.1 zB_37)))) ((zgo zt_37_100.2).trans ((zs zt_37_100.1 rfl).trans ((zgo zt_37_101.2).trans ((zs zt_37_101.1 rfl).trans ((zgo zt_37_105.2).trans (zsRI zt_37_105.1 zB_37)))))))))))))) (zsw0 ((zgo zt_37_189.2).trans ((zs zt_37_189.1 rfl).trans ((zgo zt_37_190.2).trans (zsRI zt_37_190.1 zB_37))))))))))))))))))
set_option maxRecDepth 100000 in
set_option maxHeartbeats 4000000 in
theorem fLe_copyFrom_eq (d : Nat) (o : Nat) (r0 : Nat) (h : zm_H) : fLe_copyFrom (d + 1) o r0 h =
  cond (zm_isO r0 4) (cond (zm_isO o 4) (cond (zm_isO r0 4) (cond (zm_isO o 4) (cond (zm_isO r0 4) (cond (zm_isO o 4) (cond (zm_isO r0 4) (cond (zm_isO o 4) (some (none, (zm_ui (zm_ui (zm_ui (zm_ui h o 2 (h.1 r0 2)) o 3 ((zm_ui h o 2 (h.1 r0 2)).1 r0 3)) o 4 ((zm_ui (zm_ui h o 2 (h.1 r0 2)) o 3 ((zm_ui h o 2 (h.1 r0 2)).1 r0 3)).1 r0 4)) o 5 ((zm_ui (zm_ui (zm_ui h o 2 (h.1 r0 2)) o 3 ((zm_ui h o 2 (h.1 r0 2)).1 r0 3)) o 4 ((zm_ui (zm_ui h o 2 (h.1 r0 2)) o 3 ((zm_ui h o 2 (h.1 r0 2)).1 r0 3)).1 r0 4)).1 r0 5)))) none) none) none) none) none) none) none) none :=
  (zm_lim_eq (d + 1) 40 0 _ _ h).trans ((zs zt_40_0.1 rfl).trans ((zgo zt_40_1.2).trans ((zs zt_40_1.1 rfl).trans ((zgo zt_40_2.2).trans (zsFIg zt_40_2.1 ((zgo zt_40_5.2).trans (zsPg zt_40_5.1 ((zgo zt_40_8.2).trans ((zs zt_40_8.1 rfl).trans ((zgo zt_40_9.2).trans ((zs zt_40_9.1 rfl).trans ((zgo zt_40_10.2).trans (zsFIg zt_40_10.1 ((zgo zt_40_13.2).trans (zsPg zt_40_13.1 ((zgo zt_40_16.2).trans ((zs zt_40_16.1 rfl).trans ((zgo zt_40_17.2).trans ((zs zt_40_17.1 rfl).trans ((zgo zt_40_18.2).trans (zsFIg zt_40_18.1 ((zgo zt_40_21.2).trans (zsPg zt_40_21.1 ((zgo zt_40_24.2).trans ((zs zt_40_24.1 rfl).trans ((zgo zt_40_25.2).trans ((zs zt_40_25.1 rfl).trans ((zgo zt_40_26.2).trans (zsFIg zt_40_26.1 ((zgo zt_40_29.2).trans (zsPg zt_40_29.1 ((zgo zt_40_32.2).trans (zsR zt_40_32.1 rfl rfl)))))))))))))))))))))))))))))))))
set_option maxRecDepth 100000 in
set_option maxHeartbeats 4000000 in
theorem fNu_has_eq (d : Nat) (a0 : Int32) (a1 : Int32) (h : zm_H) : fNu_has (d + 1) a0 a1 h =
  cond (decide (a1 < 0))
  (some (some (.int ((0 : Int32))), h))
  (zb_I (fNu_howMany d a0 h) (fun v2 h1 =>
   cond (decide (v2 ≤ a1))
   (some (some (.int ((0 : Int32))), h1))
   (some (some (.int ((1 : Int32))), h1)))) :=
  (zm_lim_eq (d + 1) 43 0 _ _ h).trans ((zs zt_43_0.1 rfl).trans ((zgo zt_43_1.2).trans (zsB zt_43_1.1 rfl ((zgo zt_43_17.2).trans ((zs zt_43_17.1 rfl).trans ((zgo zt_43_18.2).trans (zsR zt_43_18.1 rfl (by decide +kernel))))) ((zgo zt_43_4.2).trans ((zs zt_43_4.1 rfl).trans ((zgo zt_43_5.2).trans ((zs zt_43_5.1 rfl).trans ((zgo zt_43_6.2).trans ((zs zt_43_6.1 rfl).trans ((zgo zt_43_7.2).trans (zsCt zt_43_7.1 rfl zo_1_5 (zdI (fNu_howMany_call _ _ _) (fun v2 h1 => (zgo zt_43_10.2).trans (zsB zt_43_10.1 rfl ((zgo zt_43_17.2).trans ((zs zt_43_17.1 rfl).trans ((zgo zt_43_18.2).trans (zsR zt_43_18.1 rfl (by decide +kernel))))) ((zgo zt_43_13.2).trans ((zs zt_43_13.1 rfl).trans ((zgo zt_43_14.2).trans ((zs zt_43_14.1 rfl).trans ((zgo zt_43_18.2).trans (zsR zt_43_18.1 rfl (by decide +kernel)))))))))))))))))))))
set_option maxRecDepth 100000 in
set_option maxHeartbeats 4000000 in
theorem fNu_read_eq (d : Nat) (a0 : Int32) (a1 : Int32) (h : zm_H) : fNu_read (d + 1) a0 a1 h =
  zb_I (fNu_has d a0 a1 h) (fun v2 h1 =>
  cond (decide (v2 = 0))
  (some (some (.int ((0 : Int32))), h1))
  (cond (zm_inR h1 2 ((a0 * (8 : Int32)) + a1)) (some (some (.int ((h1.1 2 (((a0 * (8 : Int32)) + a1)).toNatClampNeg))), h1)) none)) :=
  (zm_lim_eq (d + 1) 44 0 _ _ h).trans ((zs zt_44_0.1 rfl).trans ((zgo zt_44_1.2).trans ((zs zt_44_1.1 rfl).trans ((zgo zt_44_2.2).trans ((zs zt_44_2.1 rfl).trans ((zgo zt_44_3.2).trans (zsCt zt_44_3.1 rfl zo_1_5 (zdI (fNu_has_call _ _ _ _) (fun v2 h1 => (zgo zt_44_6.2).trans (zsB zt_44_6.1 rfl ((zgo zt_44_23.2).trans ((zs zt_44_23.1 rfl).trans ((zgo zt_44_24.2).trans (zsRI zt_44_24.1 zB_44)))) ((zgo zt_44_9.2).trans ((zs zt_44_9.1 rfl).trans ((zgo zt_44_10.2).trans ((zsFR zt_44_10.1 zo_1_5 zr_1_0).trans ((zgo zt_44_13.2).trans ((zs zt_44_13.1 rfl).trans ((zgo zt_44_14.2).trans ((zs zt_44_14.1 rfl).trans ((zgo zt_44_16.2).trans ((zs (q := (17, [some (.ref (1)), some (.int a0), some (.int a1)], [.int ((a0 * (8 : Int32))), .ref (2)], h1)) zt_44_16.1 rfl).trans ((zgo zt_44_17.2).trans ((zs zt_44_17.1 rfl).trans ((zgo zt_44_18.2).trans ((zs (q := (19, [some (.ref (1)), some (.int a0), some (.int a1)], [.int (((a0 * (8 : Int32)) + a1)), .ref (2)], h1)) zt_44_18.1 rfl).trans ((zgo zt_44_19.2).trans (zsG zt_44_19.1 rfl ((zgo zt_44_20.2).trans ((zs zt_44_20.1 rfl).trans ((zgo zt_44_24.2).trans (zsRI zt_44_24.1 zB_44))))))))))))))))))))))))))))))
set_option maxRecDepth 100000 in
set_option maxHeartbeats 4000000 in
theorem fNu_write_eq (d : Nat) (a0 : Int32) (a1 : Int32) (a2 : Int32) (h : zm_H) : fNu_write (d + 1) a0 a1 a2 h =
  zb_I (fNu_has d a0 a1 h) (fun v2 h1 =>
  cond (decide (v2 = 0))
  (some (none, h1))
  (cond (zm_inW 2 ((a0 * (8 : Int32)) + a1)) (some (none, (zm_ui h1 2 (((a0 * (8 : Int32)) + a1)).toNatClampNeg a2))) none)) :=
  (zm_lim_eq (d + 1) 45 0 _ _ h).trans ((zs zt_45_0.1 rfl).trans ((zgo zt_45_1.2).trans ((zs zt_45_1.1 rfl).trans ((zgo zt_45_2.2).trans ((zs zt_45_2.1 rfl).trans ((zgo zt_45_3.2).trans (zsCt zt_45_3.1 rfl zo_1_5 (zdI (fNu_has_call _ _ _ _) (fun v2 h1 => (zgo zt_45_6.2).trans (zsB zt_45_6.1 rfl ((zgo zt_45_21.2).trans (zsR zt_45_21.1 rfl rfl)) ((zgo zt_45_9.2).trans ((zs zt_45_9.1 rfl).trans ((zgo zt_45_10.2).trans ((zsFR zt_45_10.1 zo_1_5 zr_1_0).trans ((zgo zt_45_13.2).trans ((zs zt_45_13.1 rfl).trans ((zgo zt_45_14.2).trans ((zs zt_45_14.1 rfl).trans ((zgo zt_45_16.2).trans ((zs (q := (17, [some (.ref (1)), some (.int a0), some (.int a1), some (.int a2)], [.int ((a0 * (8 : Int32))), .ref (2)], h1)) zt_45_16.1 rfl).trans ((zgo zt_45_17.2).trans ((zs zt_45_17.1 rfl).trans ((zgo zt_45_18.2).trans ((zs (q := (19, [some (.ref (1)), some (.int a0), some (.int a1), some (.int a2)], [.int (((a0 * (8 : Int32)) + a1)), .ref (2)], h1)) zt_45_18.1 rfl).trans ((zgo zt_45_19.2).trans ((zs zt_45_19.1 rfl).trans ((zgo zt_45_20.2).trans (zsG zt_45_20.1 rfl ((zgo zt_45_21.2).trans (zsR zt_45_21.1 rfl rfl))))))))))))))))))))))))))))))
set_option maxRecDepth 100000 in
set_option maxHeartbeats 4000000 in
theorem fNu_howMany_eq (d : Nat) (a0 : Int32) (h : zm_H) : fNu_howMany (d + 1) a0 h =
  cond (decide (a0 < 0))
  (some (some (.int ((0 : Int32))), h))
  (cond (decide (a0 < (13 : Int32)))
   (cond (decide (a0 ≤ (4 : Int32)))
    (some (some (.int ((h.1 1 1))), h))
    (cond (!(decide (a0 = (12 : Int32))))
     (cond (!(decide (a0 = (5 : Int32))))
      (cond (decide ((8 : Int32) < a0))
       (some (some (.int ((h.1 1 2))), h))
       (some (some (.int ((1 : Int32))), h)))
      (some (some (.int ((5 : Int32))), h)))
     (some (some (.int ((h.1 1 1))), h))))
   (some (some (.int ((0 : Int32))), h))) :=
  (zm_lim_eq (d + 1) 48 0 _ _ h).trans ((zs zt_48_0.1 rfl).trans ((zgo zt_48_1.2).trans (zsB zt_48_1.1 rfl ((zgo zt_48_10.2).trans ((zs zt_48_10.1 rfl).trans ((zgo zt_48_11.2).trans (zsRI zt_48_11.1 zB_48)))) ((zgo zt_48_4.2).trans ((zs zt_48_4.1 rfl).trans ((zgo zt_48_5.2).trans ((zs zt_48_5.1 rfl).trans ((zgo zt_48_7.2).trans (zsB zt_48_7.1 rfl ((zgo zt_48_12.2).trans ((zs zt_48_12.1 rfl).trans ((zgo zt_48_13.2).trans ((zs zt_48_13.1 rfl).trans ((zgo zt_48_14.2).trans (zsB zt_48_14.1 rfl ((zgo zt_48_23.2).trans ((zs zt_48_23.1 rfl).trans ((zgo zt_48_24.2).trans ((zsFI zt_48_24.1 zo_1_5).trans ((zgo zt_48_27.2).trans (zsRI zt_48_27.1 zB_48)))))) ((zgo zt_48_17.2).trans ((zs zt_48_17.1 rfl).trans ((zgo zt_48_18.2).trans ((zs zt_48_18.1 rfl).trans ((zgo zt_48_20.2).trans (zsB zt_48_20.1 rfl ((zgo zt_48_28.2).trans ((zs zt_48_28.1 rfl).trans ((zgo zt_48_29.2).trans ((zs zt_48_29.1 rfl).trans ((zgo zt_48_30.2).trans (zsB zt_48_30.1 rfl ((zgo zt_48_35.2).trans ((zs zt_48_35.1 rfl).trans ((zgo zt_48_36.2).trans ((zs zt_48_36.1 rfl).trans ((zgo zt_48_38.2).trans (zsB zt_48_38.1 rfl ((zgo zt_48_45.2).trans ((zs zt_48_45.1 rfl).trans ((zgo zt_48_46.2).trans ((zsFI zt_48_46.1 zo_1_5).trans ((zgo zt_48_49.2).trans (zsRI zt_48_49.1 zB_48)))))) ((zgo zt_48_41.2).trans ((zs zt_48_41.1 rfl).trans ((zgo zt_48_42.2).trans ((zs zt_48_42.1 rfl).trans ((zgo zt_48_49.2).trans (zsRI zt_48_49.1 zB_48)))))))))))) ((zgo zt_48_33.2).trans ((zs zt_48_33.1 rfl).trans ((zgo zt_48_34.2).trans (zsRI zt_48_34.1 zB_48)))))))))) ((zgo zt_48_23.2).trans ((zs zt_48_23.1 rfl).trans ((zgo zt_48_24.2).trans ((zsFI zt_48_24.1 zo_1_5).trans ((zgo zt_48_27.2).trans (zsRI zt_48_27.1 zB_48)))))))))))))))))) ((zgo zt_48_10.2).trans ((zs zt_48_10.1 rfl).trans ((zgo zt_48_11.2).trans (zsRI zt_48_11.1 zB_48)))))))))))))
set_option maxRecDepth 100000 in
set_option maxHeartbeats 4000000 in
theorem fSh_read_eq (d : Nat) (o : Nat) (a0 : Int32) (h : zm_H) : fSh_read (d + 1) o a0 h =
  cond (decide (a0 < 0))
  (some (some (.long ((0 : Int64))), h))
  (cond (zm_isO o 7) (cond (decide ((h.1 o 3) ≤ a0))
   (some (some (.long ((0 : Int64))), h))
   (cond (decide ((60 : Int32) ≤ a0))
    (some (some (.long ((0 : Int64))), h))
    (cond (zm_isO o 7) (cond (zm_inJ (zm_rt o 0) a0) (some (some (.long ((h.2 (zm_rt o 0) (a0).toNatClampNeg))), h)) none) none))) none) :=
  (zm_lim_eq (d + 1) 68 0 _ _ h).trans ((zs zt_68_0.1 rfl).trans ((zgo zt_68_1.2).trans (zsB zt_68_1.1 rfl ((zgo zt_68_27.2).trans ((zs zt_68_27.1 rfl).trans ((zgo zt_68_28.2).trans (zsR zt_68_28.1 rfl rfl)))) ((zgo zt_68_4.2).trans ((zs zt_68_4.1 rfl).trans ((zgo zt_68_5.2).trans ((zs zt_68_5.1 rfl).trans ((zgo zt_68_6.2).trans (zsFIg zt_68_6.1 ((zgo zt_68_9.2).trans (zsB zt_68_9.1 rfl ((zgo zt_68_27.2).trans ((zs zt_68_27.1 rfl).trans ((zgo zt_68_28.2).trans (zsR zt_68_28.1 rfl rfl)))) ((zgo zt_68_12.2).trans ((zs zt_68_12.1 rfl).trans ((zgo zt_68_13.2).trans ((zs zt_68_13.1 rfl).trans ((zgo zt_68_15.2).trans (zsB zt_68_15.1 rfl ((zgo zt_68_27.2).trans ((zs zt_68_27.1 rfl).trans ((zgo zt_68_28.2).trans (zsR zt_68_28.1 rfl rfl)))) ((zgo zt_68_18.2).trans ((zs zt_68_18.1 rfl).trans ((zgo zt_68_19.2).trans (zsFRg zt_68_19.1 ((zgo zt_68_22.2).trans ((zs zt_68_22.1 rfl).trans ((zgo zt_68_23.2).trans (zsG zt_68_23.1 rfl ((zgo zt_68_24.2).trans ((zs zt_68_24.1 rfl).trans ((zgo zt_68_28.2).trans (zsR zt_68_28.1 rfl rfl)))))))))))))))))))))))))))))
