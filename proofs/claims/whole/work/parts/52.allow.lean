/-! numbers: what is allowed, what there is -/
theorem wi_b (v a b : Int32) : cond (decide (v < a)) (0 : Int32) (cond (decide (b < v)) 0 1) = zi (decide (a ≤ v) && decide (v ≤ b)) := by
  by_cases p : v < a
  · rw [cT p, decide_eq_false (Int32.not_le.mpr p)]; rfl
  · rw [cF p, decide_eq_true (Int32.not_lt.mp p)]
    by_cases q : b < v
    · rw [cT q, decide_eq_false (Int32.not_le.mpr q)]; rfl
    · rw [cF q, decide_eq_true (Int32.not_lt.mp q)]; rfl
theorem within_s (d : Nat) (v a b : Int32) (h : zm_H) : fM_within (d + 1) v a b h = some (some (.int (zi (decide (a ≤ v) && decide (v ≤ b)))), h) := by
  rw [fM_within_eq, cI, cI, wi_b]
theorem le_pred {T : Nat} (hT : T < 1000) (a : Int32) : (a ≤ iN T - 1) = (a < iN T) := by
  have h0 : (0 : Int32) ≤ iN T := by simp (disch := omega) only [iN_add, iN_addl, iN_addr, iN_mul, iN_mull, iN_mulr, iN_sub, iN_subl, iN_subr, iN_c, iN_lt, iN_ltl, iN_ltr, iN_le, iN_lel, iN_ler, iN_eq, iN_eql, iN_eqr]; omega
  have h1 : iN T ≤ (1000 : Int32) := by simp (disch := omega) only [iN_add, iN_addl, iN_addr, iN_mul, iN_mull, iN_mulr, iN_sub, iN_subl, iN_subr, iN_c, iN_lt, iN_ltl, iN_ltr, iN_le, iN_lel, iN_ler, iN_eq, iN_eql, iN_eqr]; omega
  generalize iN T = x at *
  grind
theorem le_predd {T : Nat} (hT : T < 1000) (a : Int32) : decide (a ≤ iN T - 1) = decide (a < iN T) := decide_eq_decide.mpr (by rw [le_pred hT])
theorem isTie_s (d : Nat) {T : Nat} (hT : T < 1000) (a : Int32) (h : zm_H) (e : h.1 45 0 = iN T) : fM_isTie (d + 2) a h = some (some (.int (zi (decide (0 ≤ a) && decide (a < iN T)))), h) := by
  rw [fM_isTie_eq, within_s, bI, zi_z, e, le_predd hT]; rfl
theorem isTier_s (d : Nat) {T : Nat} (hT : T < 1000) (a : Int32) (h : zm_H) (e : h.1 45 11 = iN T) : fM_isTier (d + 2) a h = some (some (.int (zi (decide (0 ≤ a) && decide (a < iN T)))), h) := by
  rw [fM_isTier_eq, within_s, bI, zi_z, e, le_predd hT]; rfl
theorem isKnot_s (d : Nat) (a : Int32) (h : zm_H) : fM_isKnot (d + 2) a h = some (some (.int (zi (decide (0 ≤ a) && decide (a ≤ 4)))), h) := by
  rw [fM_isKnot_eq, within_s, bI, zi_z]; rfl
theorem isPlace_s (d : Nat) (a : Int32) (h : zm_H) : fM_isPlace (d + 2) a h = some (some (.int (zi (decide (0 ≤ a) && decide (a ≤ 200)))), h) := by
  rw [fM_isPlace_eq, within_s, bI, zi_z]; rfl
theorem isShare_s (d : Nat) (a : Int32) (h : zm_H) : fM_isShare (d + 2) a h = some (some (.int (zi (decide (1 ≤ a) && decide (a ≤ 4)))), h) := by
  rw [fM_isShare_eq, within_s, bI, zi_z]; rfl
theorem isShelfM_s (d : Nat) (a : Int32) (h : zm_H) : fM_isShelf (d + 2) a h = some (some (.int (zi (decide (0 ≤ a) && decide (a ≤ 5)))), h) := by
  rw [fM_isShelf_eq, within_s, bI, zi_z]; rfl
theorem isTied_s (d : Nat) {T : Nat} (hT : T < 1000) (a : Int32) (h : zm_H) (e : h.1 45 0 = iN T) : fM_isTied (d + 3) a h = some (some (.int (zi (decide (0 ≤ a) && (decide (0 ≤ a / 10) && decide (a / 10 < iN T) && (decide (0 ≤ a - a / 10 * 10) && decide (a - a / 10 * 10 ≤ 4)))))), h) := by
  rw [fM_isTied_eq]
  by_cases p : a < 0
  · rw [cT p, decide_eq_false (Int32.not_le.mpr p)]; rfl
  · rw [cF p, decide_eq_true (Int32.not_lt.mp p), isTie_s d hT _ _ e, bI, zi_0, isKnot_s]
    simp only [bI, zi_0]
    cases decide (0 ≤ a / 10) <;> cases decide (a / 10 < iN T) <;> cases decide (0 ≤ a - a / 10 * 10) <;> cases decide (a - a / 10 * 10 ≤ 4) <;> rfl
theorem isTry_s (d : Nat) (a : Int32) (h : zm_H) : fM_isTry (d + 3) a h = some (some (.int (zi (decide (0 ≤ a) && (decide (0 ≤ a / 10) && decide (a / 10 ≤ 200) && (decide (1 ≤ a - a / 10 * 10) && decide (a - a / 10 * 10 ≤ 4)))))), h) := by
  rw [fM_isTry_eq]
  by_cases p : a < 0
  · rw [cT p, decide_eq_false (Int32.not_le.mpr p)]; rfl
  · rw [cF p, decide_eq_true (Int32.not_lt.mp p), isPlace_s, bI, zi_0, isShare_s]
    simp only [bI, zi_0]
    cases decide (0 ≤ a / 10) <;> cases decide (a / 10 ≤ 200) <;> cases decide (1 ≤ a - a / 10 * 10) <;> cases decide (a - a / 10 * 10 ≤ 4) <;> rfl
/-! the class's -/
theorem be_b (v b : Int32) : cond (decide (v < 0)) (0 : Int32) (cond (decide (b < v)) 0 1) = zi (decide (0 ≤ v) && decide (v ≤ b)) := wi_b v 0 b
theorem bl_b (v b : Int32) : cond (decide (v < 0)) (0 : Int32) (cond (decide (b ≤ v)) 0 1) = zi (decide (0 ≤ v) && decide (v < b)) := by
  by_cases p : v < 0
  · rw [cT p, decide_eq_false (Int32.not_le.mpr p)]; rfl
  · rw [cF p, decide_eq_true (Int32.not_lt.mp p)]
    by_cases q : b ≤ v
    · rw [cT q, decide_eq_false (Int32.not_lt.mpr q)]; rfl
    · rw [cF q, decide_eq_true (Int32.not_le.mp q)]; rfl
theorem isBeginning_s (d : Nat) (a : Int32) (h : zm_H) : fE_isBeginning (d + 1) a h = some (some (.int (zi (decide (0 ≤ a) && decide (a ≤ 200)))), h) := by
  rw [fE_isBeginning_eq, cI, cI, be_b]
theorem lt_s5 (a : Int32) : decide (a < 5) = decide (a ≤ 4) := decide_eq_decide.mpr (by grind)
theorem lt_s6 (a : Int32) : decide (a < 6) = decide (a ≤ 5) := decide_eq_decide.mpr (by grind)
theorem isKnotE_s (d : Nat) (a : Int32) (h : zm_H) : fE_isKnot (d + 1) a h = some (some (.int (zi (decide (0 ≤ a) && decide (a ≤ 4)))), h) := by
  rw [fE_isKnot_eq, cI, cI, bl_b, lt_s5]
theorem isShelf_s (d : Nat) (a : Int32) (h : zm_H) : fE_isShelf (d + 1) a h = some (some (.int (zi (decide (0 ≤ a) && decide (a ≤ 5)))), h) := by
  rw [fE_isShelf_eq, cI, cI, bl_b, lt_s6]
theorem isKind_s (d : Nat) (a : Int32) (h : zm_H) : fE_isKind (d + 1) a h = some (some (.int (zi (decide (0 ≤ a) && decide (a < 8)))), h) := by
  rw [fE_isKind_eq, cI, cI, bl_b]
theorem isAllowed_s (d : Nat) {L : Nat} {xs : Nat → Int32} {h : zm_H} (W : rW L xs h) {x : Int32} {w : Nat} (ex : x = iN w) (hw : w < 12) (v : Int32) : fE_isAllowed (d + 1) x v h = some (some (.int (zi (decide (lo w ≤ v) && decide (v ≤ hi w)))), h) := by
  subst ex
  obtain ⟨_, _, W1, W2, _⟩ := W
  rw [fE_isAllowed_eq]
  simp (disch := omega) only [bI, bJ, bV, cN, zi_0, zi_z, Bool.cond_true, Bool.cond_false, decide_true, decide_false, decide_eq_true_eq, Bool.cond_decide, if_true, if_false, ofN12, Bool.not_not, zi_t, zi_f, iN_add, iN_addl, iN_addr, iN_mul, iN_mull, iN_mulr, iN_sub, iN_subl, iN_subr, iN_c, iN_lt, iN_ltl, iN_ltr, iN_le, iN_lel, iN_ler, iN_eq, iN_eql, iN_eqr, gR_2, hR_2, gW_2, hW_2, gR_4, hR_4, gW_4, hW_4, gR_5, hR_5, gW_5, hW_5, gR_6, hR_6, gW_6, hW_6, gR_7, hR_7, gW_7, hW_7, gR_9, hR_9, gW_9, hW_9, gR_10, hR_10, gW_10, hW_10, gR_12, hR_12, gW_12, hW_12, gR_13, hR_13, gW_13, hW_13, gR_16, hR_16, gW_16, hW_16, gR_17, hR_17, gW_17, hW_17, gR_18, hR_18, gW_18, hW_18, gR_19, hR_19, gW_19, hW_19, gR_20, hR_20, gW_20, hW_20, gR_21, hR_21, gW_21, hW_21, gR_22, hR_22, gW_22, hW_22, gR_24, hR_24, gW_24, hW_24, gR_25, hR_25, gW_25, hW_25, gR_27, hR_27, gW_27, hW_27, gR_28, hR_28, gW_28, hW_28, gR_30, hR_30, gW_30, hW_30, gR_31, hR_31, gW_31, hW_31, gR_46, hR_46, gW_46, hW_46, gR_47, hR_47, gW_47, hW_47, gR_48, hR_48, gW_48, hW_48, gR_49, hR_49, gW_49, hW_49, gR_50, hR_50, gW_50, hW_50, gR_51, hR_51, gW_51, hW_51, gR_52, hR_52, gW_52, hW_52, gR_53, hR_53, gW_53, hW_53, gR_54, hR_54, gW_54, hW_54, gR_55, hR_55, gW_55, hW_55, gR_56, hR_56, gW_56, hW_56, gR_57, hR_57, gW_57, hW_57, gR_58, hR_58, gW_58, hW_58, gR_59, hR_59, gW_59, hW_59, gR_60, hR_60, gW_60, hW_60, gR_61, hR_61, gW_61, hW_61, gR_62, hR_62, gW_62, hW_62, gR_63, hR_63, gW_63, hW_63, gR_64, hR_64, gW_64, hW_64, gR_65, hR_65, gW_65, hW_65, gR_66, hR_66, gW_66, hW_66, gR_67, hR_67, gW_67, hW_67, gR_68, hR_68, gW_68, hW_68, gR_69, hR_69, gW_69, hW_69, gR_70, hR_70, gW_70, hW_70, gR_71, hR_71, gW_71, hW_71, gR_72, hR_72, gW_72, hW_72, gR_73, hR_73, gW_73, hW_73, gR_74, hR_74, gW_74, hW_74, gR_76, hR_76, gW_76, hW_76, gR_77, hR_77, gW_77, hW_77, gR_78, hR_78, gW_78, hW_78, gR_79, hR_79, gW_79, hW_79, gR_80, hR_80, gW_80, hW_80, gR_81, hR_81, gW_81, hW_81, gR_82, hR_82, gW_82, hW_82, gR_1000, hR_1000, gR_1001, hR_1001, gR_1002, hR_1002, gR_1003, hR_1003, gJ_39, gJ_40, gJ_41, gJ_42, gJ_43, gJ_44, gJ_75, gQ_32, W1, W2]
  by_cases p : v < lo w <;> by_cases q : hi w < v <;> simp [p, q, Int32.not_le.mpr, Int32.not_lt.mp, show ¬ 12 ≤ w by omega] <;> rfl
theorem isAllowed_no (d : Nat) (h : zm_H) (w v : Int32) (hw : w < 0 ∨ 12 ≤ w) : fE_isAllowed (d + 1) w v h = some (some (.int 0), h) := by
  rw [fE_isAllowed_eq]
  rcases hw with p | p
  · rw [cT p]
  · by_cases q : w < 0
    · rw [cT q]
    · rw [cF q, ofN12, cT p]
