/-! numbers: read, write, add -/
theorem howMany_s (d : Nat) {T P : Nat} {h : zm_H} (eT : h.1 1 1 = iN T) (eP : h.1 1 2 = iN P) {w : Nat} (hw : w < 13) : fNu_howMany (d + 1) (iN w) h = some (some (.int (iN (cnt T P w))), h) := by
  rw [fNu_howMany_eq]
  simp (disch := omega) only [bI, bJ, bV, cN, zi_0, zi_z, Bool.cond_true, Bool.cond_false, decide_true, decide_false, decide_eq_true_eq, Bool.cond_decide, if_true, if_false, ofN12, Bool.not_not, zi_t, zi_f, iN_add, iN_addl, iN_addr, iN_mul, iN_mull, iN_mulr, iN_sub, iN_subl, iN_subr, iN_c, iN_lt, iN_ltl, iN_ltr, iN_le, iN_lel, iN_ler, iN_eq, iN_eql, iN_eqr, eT, eP]
  unfold cnt
  by_cases a : w ≤ 4
  · simp [a, show ¬ w < 0 by omega, show w < 13 by omega]
  · by_cases b : w = 5
    · subst b; simp; rfl
    · by_cases c : w ≤ 8
      · simp [a, b, c, show ¬ w < 0 by omega, show w < 13 by omega, show ¬ w = 12 by omega, show ¬ 8 < w by omega]; rfl
      · by_cases e : w ≤ 11
        · simp [a, b, c, e, show ¬ w < 0 by omega, show w < 13 by omega, show ¬ w = 12 by omega, show 8 < w by omega]
        · have : w = 12 := by omega
          subst this; simp
theorem howMany_no (d : Nat) (h : zm_H) (w : Int32) (hw : w < 0 ∨ 13 ≤ w) : fNu_howMany (d + 1) w h = some (some (.int 0), h) := by
  rw [fNu_howMany_eq]
  by_cases q : w < 0
  · rw [cT q]
  · rw [cF q, cF (by grind)]
theorem has_s (d : Nat) {T P : Nat} {h : zm_H} (eT : h.1 1 1 = iN T) (eP : h.1 1 2 = iN P) {x : Int32} {w : Nat} (ex : x = iN w) (hw : w < 13) (a : Int32) : fNu_has (d + 2) x a h = some (some (.int (zi (decide (0 ≤ a) && decide (a < iN (cnt T P w))))), h) := by
  subst ex
  rw [fNu_has_eq, howMany_s d eT eP hw, bI, cI, cI, bl_b]
theorem has_no (d : Nat) (h : zm_H) (w : Int32) (hw : w < 0 ∨ 13 ≤ w) (a : Int32) : fNu_has (d + 2) w a h = some (some (.int 0), h) := by
  rw [fNu_has_eq, howMany_no d h w hw, bI, cI, cI, bl_b]
  rw [show (decide (0 ≤ a) && decide (a < 0)) = false by grind]; rfl
theorem cnt_le {T P : Nat} (hT : T ≤ 8) (hP : P ≤ 8) (w : Nat) : cnt T P w ≤ 8 := by
  unfold cnt; repeat' split
  all_goals omega
theorem has_y (d : Nat) {T P : Nat} (hT : T ≤ 8) (hP : P ≤ 8) {h : zm_H} (eT : h.1 1 1 = iN T) (eP : h.1 1 2 = iN P) {x : Int32} {w n : Nat} (ex : x = iN w) (hw : w < 13) (hn : n < cnt T P w) : fNu_has (d + 2) x (iN n) h = some (some (.int 1), h) := by
  subst ex
  have := cnt_le hT hP w
  rw [has_s d eT eP rfl hw, show (0 : Int32) = iN 0 from rfl]
  simp (disch := omega) only [iN_add, iN_addl, iN_addr, iN_mul, iN_mull, iN_mulr, iN_sub, iN_subl, iN_subr, iN_c, iN_lt, iN_ltl, iN_ltr, iN_le, iN_lel, iN_ler, iN_eq, iN_eql, iN_eqr]
  simp [hn]; rfl
theorem read_s (d : Nat) {T P : Nat} (hT : T ≤ 8) (hP : P ≤ 8) {h : zm_H} (eT : h.1 1 1 = iN T) (eP : h.1 1 2 = iN P) {x : Int32} {w n : Nat} (ex : x = iN w) (hw : w < 13) (hn : n < cnt T P w) : fNu_read (d + 3) x (iN n) h = some (some (.int (h.1 2 (w * 8 + n))), h) := by
  subst ex
  have := cnt_le hT hP w
  rw [fNu_read_eq, has_y d hT hP eT eP rfl hw hn, bI, cF (by decide)]
  simp (disch := omega) only [bI, bJ, bV, cN, zi_0, zi_z, Bool.cond_true, Bool.cond_false, decide_true, decide_false, decide_eq_true_eq, Bool.cond_decide, if_true, if_false, ofN12, Bool.not_not, zi_t, zi_f, iN_add, iN_addl, iN_addr, iN_mul, iN_mull, iN_mulr, iN_sub, iN_subl, iN_subr, iN_c, iN_lt, iN_ltl, iN_ltr, iN_le, iN_lel, iN_ler, iN_eq, iN_eql, iN_eqr, gR_2, hR_2, gW_2, hW_2, gR_4, hR_4, gW_4, hW_4, gR_5, hR_5, gW_5, hW_5, gR_6, hR_6, gW_6, hW_6, gR_7, hR_7, gW_7, hW_7, gR_9, hR_9, gW_9, hW_9, gR_10, hR_10, gW_10, hW_10, gR_12, hR_12, gW_12, hW_12, gR_13, hR_13, gW_13, hW_13, gR_16, hR_16, gW_16, hW_16, gR_17, hR_17, gW_17, hW_17, gR_18, hR_18, gW_18, hW_18, gR_19, hR_19, gW_19, hW_19, gR_20, hR_20, gW_20, hW_20, gR_21, hR_21, gW_21, hW_21, gR_22, hR_22, gW_22, hW_22, gR_24, hR_24, gW_24, hW_24, gR_25, hR_25, gW_25, hW_25, gR_27, hR_27, gW_27, hW_27, gR_28, hR_28, gW_28, hW_28, gR_30, hR_30, gW_30, hW_30, gR_31, hR_31, gW_31, hW_31, gR_46, hR_46, gW_46, hW_46, gR_47, hR_47, gW_47, hW_47, gR_48, hR_48, gW_48, hW_48, gR_49, hR_49, gW_49, hW_49, gR_50, hR_50, gW_50, hW_50, gR_51, hR_51, gW_51, hW_51, gR_52, hR_52, gW_52, hW_52, gR_53, hR_53, gW_53, hW_53, gR_54, hR_54, gW_54, hW_54, gR_55, hR_55, gW_55, hW_55, gR_56, hR_56, gW_56, hW_56, gR_57, hR_57, gW_57, hW_57, gR_58, hR_58, gW_58, hW_58, gR_59, hR_59, gW_59, hW_59, gR_60, hR_60, gW_60, hW_60, gR_61, hR_61, gW_61, hW_61, gR_62, hR_62, gW_62, hW_62, gR_63, hR_63, gW_63, hW_63, gR_64, hR_64, gW_64, hW_64, gR_65, hR_65, gW_65, hW_65, gR_66, hR_66, gW_66, hW_66, gR_67, hR_67, gW_67, hW_67, gR_68, hR_68, gW_68, hW_68, gR_69, hR_69, gW_69, hW_69, gR_70, hR_70, gW_70, hW_70, gR_71, hR_71, gW_71, hW_71, gR_72, hR_72, gW_72, hW_72, gR_73, hR_73, gW_73, hW_73, gR_74, hR_74, gW_74, hW_74, gR_76, hR_76, gW_76, hW_76, gR_77, hR_77, gW_77, hW_77, gR_78, hR_78, gW_78, hW_78, gR_79, hR_79, gW_79, hW_79, gR_80, hR_80, gW_80, hW_80, gR_81, hR_81, gW_81, hW_81, gR_82, hR_82, gW_82, hW_82, gR_1000, hR_1000, gR_1001, hR_1001, gR_1002, hR_1002, gR_1003, hR_1003, gJ_39, gJ_40, gJ_41, gJ_42, gJ_43, gJ_44, gJ_75, gQ_32]
theorem write_s (d : Nat) {T P : Nat} (hT : T ≤ 8) (hP : P ≤ 8) {h : zm_H} (eT : h.1 1 1 = iN T) (eP : h.1 1 2 = iN P) {x : Int32} {w n : Nat} (ex : x = iN w) (hw : w < 13) (hn : n < cnt T P w) (v : Int32) : fNu_write (d + 3) x (iN n) v h = some (none, zm_ui h 2 (w * 8 + n) v) := by
  subst ex
  have := cnt_le hT hP w
  rw [fNu_write_eq, has_y d hT hP eT eP rfl hw hn, bI, cF (by decide)]
  simp (disch := omega) only [bI, bJ, bV, cN, zi_0, zi_z, Bool.cond_true, Bool.cond_false, decide_true, decide_false, decide_eq_true_eq, Bool.cond_decide, if_true, if_false, ofN12, Bool.not_not, zi_t, zi_f, iN_add, iN_addl, iN_addr, iN_mul, iN_mull, iN_mulr, iN_sub, iN_subl, iN_subr, iN_c, iN_lt, iN_ltl, iN_ltr, iN_le, iN_lel, iN_ler, iN_eq, iN_eql, iN_eqr, gR_2, hR_2, gW_2, hW_2, gR_4, hR_4, gW_4, hW_4, gR_5, hR_5, gW_5, hW_5, gR_6, hR_6, gW_6, hW_6, gR_7, hR_7, gW_7, hW_7, gR_9, hR_9, gW_9, hW_9, gR_10, hR_10, gW_10, hW_10, gR_12, hR_12, gW_12, hW_12, gR_13, hR_13, gW_13, hW_13, gR_16, hR_16, gW_16, hW_16, gR_17, hR_17, gW_17, hW_17, gR_18, hR_18, gW_18, hW_18, gR_19, hR_19, gW_19, hW_19, gR_20, hR_20, gW_20, hW_20, gR_21, hR_21, gW_21, hW_21, gR_22, hR_22, gW_22, hW_22, gR_24, hR_24, gW_24, hW_24, gR_25, hR_25, gW_25, hW_25, gR_27, hR_27, gW_27, hW_27, gR_28, hR_28, gW_28, hW_28, gR_30, hR_30, gW_30, hW_30, gR_31, hR_31, gW_31, hW_31, gR_46, hR_46, gW_46, hW_46, gR_47, hR_47, gW_47, hW_47, gR_48, hR_48, gW_48, hW_48, gR_49, hR_49, gW_49, hW_49, gR_50, hR_50, gW_50, hW_50, gR_51, hR_51, gW_51, hW_51, gR_52, hR_52, gW_52, hW_52, gR_53, hR_53, gW_53, hW_53, gR_54, hR_54, gW_54, hW_54, gR_55, hR_55, gW_55, hW_55, gR_56, hR_56, gW_56, hW_56, gR_57, hR_57, gW_57, hW_57, gR_58, hR_58, gW_58, hW_58, gR_59, hR_59, gW_59, hW_59, gR_60, hR_60, gW_60, hW_60, gR_61, hR_61, gW_61, hW_61, gR_62, hR_62, gW_62, hW_62, gR_63, hR_63, gW_63, hW_63, gR_64, hR_64, gW_64, hW_64, gR_65, hR_65, gW_65, hW_65, gR_66, hR_66, gW_66, hW_66, gR_67, hR_67, gW_67, hW_67, gR_68, hR_68, gW_68, hW_68, gR_69, hR_69, gW_69, hW_69, gR_70, hR_70, gW_70, hW_70, gR_71, hR_71, gW_71, hW_71, gR_72, hR_72, gW_72, hW_72, gR_73, hR_73, gW_73, hW_73, gR_74, hR_74, gW_74, hW_74, gR_76, hR_76, gW_76, hW_76, gR_77, hR_77, gW_77, hW_77, gR_78, hR_78, gW_78, hW_78, gR_79, hR_79, gW_79, hW_79, gR_80, hR_80, gW_80, hW_80, gR_81, hR_81, gW_81, hW_81, gR_82, hR_82, gW_82, hW_82, gR_1000, hR_1000, gR_1001, hR_1001, gR_1002, hR_1002, gR_1003, hR_1003, gJ_39, gJ_40, gJ_41, gJ_42, gJ_43, gJ_44, gJ_75, gQ_32]
theorem has_n (d : Nat) {T P : Nat} (hT : T ≤ 8) (hP : P ≤ 8) {h : zm_H} (eT : h.1 1 1 = iN T) (eP : h.1 1 2 = iN P) {x : Int32} {w n : Nat} (ex : x = iN w) (hw : w < 13) (hn : cnt T P w ≤ n) (hn2 : n < 1000) : fNu_has (d + 2) x (iN n) h = some (some (.int 0), h) := by
  subst ex
  have := cnt_le hT hP w
  rw [has_s d eT eP rfl hw, show (0 : Int32) = iN 0 from rfl]
  simp (disch := omega) only [iN_add, iN_addl, iN_addr, iN_mul, iN_mull, iN_mulr, iN_sub, iN_subl, iN_subr, iN_c, iN_lt, iN_ltl, iN_ltr, iN_le, iN_lel, iN_ler, iN_eq, iN_eql, iN_eqr]
  simp [show ¬ n < cnt T P w by omega]; rfl
theorem read_n (d : Nat) {T P : Nat} (hT : T ≤ 8) (hP : P ≤ 8) {h : zm_H} (eT : h.1 1 1 = iN T) (eP : h.1 1 2 = iN P) {x : Int32} {w n : Nat} (ex : x = iN w) (hw : w < 13) (hn : cnt T P w ≤ n) (hn2 : n < 1000) : fNu_read (d + 3) x (iN n) h = some (some (.int 0), h) := by
  subst ex
  rw [fNu_read_eq, has_n d hT hP eT eP rfl hw hn hn2, bI, cT (by decide)]
theorem write_n (d : Nat) {T P : Nat} (hT : T ≤ 8) (hP : P ≤ 8) {h : zm_H} (eT : h.1 1 1 = iN T) (eP : h.1 1 2 = iN P) {x : Int32} {w n : Nat} (ex : x = iN w) (hw : w < 13) (hn : cnt T P w ≤ n) (hn2 : n < 1000) (v : Int32) : fNu_write (d + 3) x (iN n) v h = some (none, h) := by
  subst ex
  rw [fNu_write_eq, has_n d hT hP eT eP rfl hw hn hn2, bI, cT (by decide)]
theorem addTie_full (d : Nat) {h : zm_H} (eT : h.1 1 1 = iN 8) (l t s : Int32) : fNu_addTie (d + 1) l t s h = some (some (.int (-3)), h) := by
  rw [fNu_addTie_eq, eT, cF (by decide)]
theorem addTie_s (d : Nat) {L : Nat} {xs : Nat → Int32} {T P : Nat} (hT : T < 8) (hP : P ≤ 8) {h : zm_H} (W : rW L xs h) (eT : h.1 1 1 = iN T) (eP : h.1 1 2 = iN P) (l t s : Int32) : fNu_addTie (d + 4) l t s h = some (some (.int (iN T)), zm_ui (zm_ui (zm_ui (zm_ui (zm_ui h 1 1 (iN (T + 1))) 2 (0 * 8 + T) l) 2 (1 * 8 + T) t) 2 (2 * 8 + T) s) 2 (3 * 8 + T) 200) := by
  obtain ⟨_, _, _, W2, _⟩ := W
  rw [fNu_addTie_eq, eT, cT (by simp (disch := omega) only [iN_add, iN_addl, iN_addr, iN_mul, iN_mull, iN_mulr, iN_sub, iN_subl, iN_subr, iN_c, iN_lt, iN_ltl, iN_ltr, iN_le, iN_lel, iN_ler, iN_eq, iN_eql, iN_eqr]; omega)]
  rw [iN_addr]
  rw [write_s d (T := T + 1) (P := P) (x := 0) (w := 0) (by omega) (by omega) (ui_s _ _ _ _) (by rw [ui_k (by omega)]; exact eP) rfl (by omega) (by simp [cnt]), bV]
  rw [write_s d (T := T + 1) (P := P) (x := 1) (w := 1) (by omega) (by omega) (by rw [ui_c (by omega)]; exact ui_s _ _ _ _) (by rw [ui_c (by omega), ui_k (by omega)]; exact eP) rfl (by omega) (by simp [cnt]), bV]
  rw [write_s d (T := T + 1) (P := P) (x := 2) (w := 2) (by omega) (by omega) (by simp (disch := omega) only [ui_s, ui_c]) (by simp (disch := omega) only [ui_s, ui_c, ui_k, eP]) rfl (by omega) (by simp [cnt]), bV]
  rw [hR_1001 (by decide), Bool.cond_true]
  rw [write_s d (T := T + 1) (P := P) (x := 3) (w := 3) (by omega) (by omega) (by simp (disch := omega) only [ui_s, ui_c]) (by simp (disch := omega) only [ui_s, ui_c, ui_k, eP]) rfl (by omega) (by simp [cnt]), bV]
  simp (disch := omega) only [ui_c]
  rw [show Int32.toNatClampNeg 3 = 3 from rfl, W2 3 (by omega)]; rfl
theorem addTier_full (d : Nat) {h : zm_H} (eP : h.1 1 2 = iN 6) (l t s : Int32) : fNu_addTier (d + 1) l t s h = some (some (.int (-3)), h) := by
  rw [fNu_addTier_eq, eP, cF (by decide)]
theorem addTier_s (d : Nat) {T P : Nat} (hT : T ≤ 8) (hP : P < 6) {h : zm_H} (eT : h.1 1 1 = iN T) (eP : h.1 1 2 = iN P) (l t s : Int32) : fNu_addTier (d + 4) l t s h = some (some (.int (iN P)), zm_ui (zm_ui (zm_ui (zm_ui h 1 2 (iN (P + 1))) 2 (9 * 8 + P) l) 2 (10 * 8 + P) t) 2 (11 * 8 + P) s) := by
  rw [fNu_addTier_eq, eP, cT (by simp (disch := omega) only [iN_add, iN_addl, iN_addr, iN_mul, iN_mull, iN_mulr, iN_sub, iN_subl, iN_subr, iN_c, iN_lt, iN_ltl, iN_ltr, iN_le, iN_lel, iN_ler, iN_eq, iN_eql, iN_eqr]; omega)]
  rw [iN_addr]
  rw [write_s d (T := T) (P := P + 1) (x := 9) (w := 9) (by omega) (by omega) (by rw [ui_k (by omega)]; exact eT) (ui_s _ _ _ _) rfl (by omega) (by simp [cnt]), bV]
  rw [write_s d (T := T) (P := P + 1) (x := 10) (w := 10) (by omega) (by omega) (by simp (disch := omega) only [ui_s, ui_c, ui_k, eT]) (by simp (disch := omega) only [ui_s, ui_c, ui_k, eP]) rfl (by omega) (by simp [cnt]), bV]
  rw [write_s d (T := T) (P := P + 1) (x := 11) (w := 11) (by omega) (by omega) (by simp (disch := omega) only [ui_s, ui_c, ui_k, eT]) (by simp (disch := omega) only [ui_s, ui_c, ui_k, eP]) rfl (by omega) (by simp [cnt]), bV]
theorem newTie_s (d : Nat) {T : Nat} (hT : T < 8) {h : zm_H} (eT : h.1 45 0 = iN T) (l t s : Int32) : fM_newTie (d + 1) l t s h = some (some (.int (iN T)), zm_ui (zm_ui (zm_ui (zm_ui (zm_ui (zm_ui (zm_ui h 46 T l) 47 T t) 48 T s) 49 T 200) 50 T 0) 51 T 0) 45 0 (iN (T + 1))) := by
  rw [fM_newTie_eq]
  simp (disch := omega) only [ui_s, ui_c, eT, bI, bJ, bV, cN, zi_0, zi_z, Bool.cond_true, Bool.cond_false, decide_true, decide_false, decide_eq_true_eq, Bool.cond_decide, if_true, if_false, ofN12, Bool.not_not, zi_t, zi_f, iN_add, iN_addl, iN_addr, iN_mul, iN_mull, iN_mulr, iN_sub, iN_subl, iN_subr, iN_c, iN_lt, iN_ltl, iN_ltr, iN_le, iN_lel, iN_ler, iN_eq, iN_eql, iN_eqr, gR_2, hR_2, gW_2, hW_2, gR_4, hR_4, gW_4, hW_4, gR_5, hR_5, gW_5, hW_5, gR_6, hR_6, gW_6, hW_6, gR_7, hR_7, gW_7, hW_7, gR_9, hR_9, gW_9, hW_9, gR_10, hR_10, gW_10, hW_10, gR_12, hR_12, gW_12, hW_12, gR_13, hR_13, gW_13, hW_13, gR_16, hR_16, gW_16, hW_16, gR_17, hR_17, gW_17, hW_17, gR_18, hR_18, gW_18, hW_18, gR_19, hR_19, gW_19, hW_19, gR_20, hR_20, gW_20, hW_20, gR_21, hR_21, gW_21, hW_21, gR_22, hR_22, gW_22, hW_22, gR_24, hR_24, gW_24, hW_24, gR_25, hR_25, gW_25, hW_25, gR_27, hR_27, gW_27, hW_27, gR_28, hR_28, gW_28, hW_28, gR_30, hR_30, gW_30, hW_30, gR_31, hR_31, gW_31, hW_31, gR_46, hR_46, gW_46, hW_46, gR_47, hR_47, gW_47, hW_47, gR_48, hR_48, gW_48, hW_48, gR_49, hR_49, gW_49, hW_49, gR_50, hR_50, gW_50, hW_50, gR_51, hR_51, gW_51, hW_51, gR_52, hR_52, gW_52, hW_52, gR_53, hR_53, gW_53, hW_53, gR_54, hR_54, gW_54, hW_54, gR_55, hR_55, gW_55, hW_55, gR_56, hR_56, gW_56, hW_56, gR_57, hR_57, gW_57, hW_57, gR_58, hR_58, gW_58, hW_58, gR_59, hR_59, gW_59, hW_59, gR_60, hR_60, gW_60, hW_60, gR_61, hR_61, gW_61, hW_61, gR_62, hR_62, gW_62, hW_62, gR_63, hR_63, gW_63, hW_63, gR_64, hR_64, gW_64, hW_64, gR_65, hR_65, gW_65, hW_65, gR_66, hR_66, gW_66, hW_66, gR_67, hR_67, gW_67, hW_67, gR_68, hR_68, gW_68, hW_68, gR_69, hR_69, gW_69, hW_69, gR_70, hR_70, gW_70, hW_70, gR_71, hR_71, gW_71, hW_71, gR_72, hR_72, gW_72, hW_72, gR_73, hR_73, gW_73, hW_73, gR_74, hR_74, gW_74, hW_74, gR_76, hR_76, gW_76, hW_76, gR_77, hR_77, gW_77, hW_77, gR_78, hR_78, gW_78, hW_78, gR_79, hR_79, gW_79, hW_79, gR_80, hR_80, gW_80, hW_80, gR_81, hR_81, gW_81, hW_81, gR_82, hR_82, gW_82, hW_82, gR_1000, hR_1000, gR_1001, hR_1001, gR_1002, hR_1002, gR_1003, hR_1003, gJ_39, gJ_40, gJ_41, gJ_42, gJ_43, gJ_44, gJ_75, gQ_32]
