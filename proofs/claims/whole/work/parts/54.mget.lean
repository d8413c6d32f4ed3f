/-! the reference's get, becomes, isOf, isFit -/
theorem iN_exn {x c : Int32} (n : Nat) (ec : c = iN n) (hn : n < 2147483648) (h : ¬ (x < 0 ∨ c ≤ x)) : ∃ k, k < n ∧ x = iN k := by
  subst ec
  exact iN_ex (by grind) (by grind) hn
theorem in_f {a c : Int32} (h : ¬ (0 ≤ a ∧ a < c)) : (decide (0 ≤ a) && decide (a < c)) = false := by grind
theorem in_t {a c : Int32} (h : 0 ≤ a ∧ a < c) : (decide (0 ≤ a) && decide (a < c)) = true := by grind
theorem cases12 {w : Nat} (h : w < 12) : w = 0 ∨ w = 1 ∨ w = 2 ∨ w = 3 ∨ w = 4 ∨ w = 5 ∨ w = 6 ∨ w = 7 ∨ w = 8 ∨ w = 9 ∨ w = 10 ∨ w = 11 := by omega
theorem cases13 {w : Nat} (h : w < 13) : w = 0 ∨ w = 1 ∨ w = 2 ∨ w = 3 ∨ w = 4 ∨ w = 5 ∨ w = 6 ∨ w = 7 ∨ w = 8 ∨ w = 9 ∨ w = 10 ∨ w = 11 ∨ w = 12 := by omega
theorem cnt_5 {T P w : Nat} (hw : w = 5) : cnt T P w = 5 := by subst hw; rfl
theorem get_s (d : Nat) {T P : Nat} (hT : T ≤ 8) (hP : P ≤ 7) {x : Int32} {w n : Nat} (ex : x = iN w) (hw : w < 12) (hn : n < cnt T P w) (h : zm_H) : fM_get (d + 1) (iN n) x h = some (some (.int (h.1 (mc w) (mi w n))), h) := by
  subst ex
  rw [fM_get_eq]
  rcases cases12 hw with rfl | rfl | rfl | rfl | rfl | rfl | rfl | rfl | rfl | rfl | rfl | rfl <;>
    simp [cnt] at hn <;> simp (disch := omega) [iN_eqr, gR_2, hR_2, gW_2, hW_2, gR_4, hR_4, gW_4, hW_4, gR_5, hR_5, gW_5, hW_5, gR_6, hR_6, gW_6, hW_6, gR_7, hR_7, gW_7, hW_7, gR_9, hR_9, gW_9, hW_9, gR_10, hR_10, gW_10, hW_10, gR_12, hR_12, gW_12, hW_12, gR_13, hR_13, gW_13, hW_13, gR_16, hR_16, gW_16, hW_16, gR_17, hR_17, gW_17, hW_17, gR_18, hR_18, gW_18, hW_18, gR_19, hR_19, gW_19, hW_19, gR_20, hR_20, gW_20, hW_20, gR_21, hR_21, gW_21, hW_21, gR_22, hR_22, gW_22, hW_22, gR_24, hR_24, gW_24, hW_24, gR_25, hR_25, gW_25, hW_25, gR_27, hR_27, gW_27, hW_27, gR_28, hR_28, gW_28, hW_28, gR_30, hR_30, gW_30, hW_30, gR_31, hR_31, gW_31, hW_31, gR_46, hR_46, gW_46, hW_46, gR_47, hR_47, gW_47, hW_47, gR_48, hR_48, gW_48, hW_48, gR_49, hR_49, gW_49, hW_49, gR_50, hR_50, gW_50, hW_50, gR_51, hR_51, gW_51, hW_51, gR_52, hR_52, gW_52, hW_52, gR_53, hR_53, gW_53, hW_53, gR_54, hR_54, gW_54, hW_54, gR_55, hR_55, gW_55, hW_55, gR_56, hR_56, gW_56, hW_56, gR_57, hR_57, gW_57, hW_57, gR_58, hR_58, gW_58, hW_58, gR_59, hR_59, gW_59, hW_59, gR_60, hR_60, gW_60, hW_60, gR_61, hR_61, gW_61, hW_61, gR_62, hR_62, gW_62, hW_62, gR_63, hR_63, gW_63, hW_63, gR_64, hR_64, gW_64, hW_64, gR_65, hR_65, gW_65, hW_65, gR_66, hR_66, gW_66, hW_66, gR_67, hR_67, gW_67, hW_67, gR_68, hR_68, gW_68, hW_68, gR_69, hR_69, gW_69, hW_69, gR_70, hR_70, gW_70, hW_70, gR_71, hR_71, gW_71, hW_71, gR_72, hR_72, gW_72, hW_72, gR_73, hR_73, gW_73, hW_73, gR_74, hR_74, gW_74, hW_74, gR_76, hR_76, gW_76, hW_76, gR_77, hR_77, gW_77, hW_77, gR_78, hR_78, gW_78, hW_78, gR_79, hR_79, gW_79, hW_79, gR_80, hR_80, gW_80, hW_80, gR_81, hR_81, gW_81, hW_81, gR_82, hR_82, gW_82, hW_82, gR_1000, hR_1000, gR_1001, hR_1001, gR_1002, hR_1002, gR_1003, hR_1003, gJ_39, gJ_40, gJ_41, gJ_42, gJ_43, gJ_44, gJ_75, gQ_32, iN_c] <;> rfl
theorem becomes_s (d : Nat) {T P : Nat} (hT : T ≤ 8) (hP : P ≤ 7) {x : Int32} {w n : Nat} (ex : x = iN w) (hw : w < 12) (hn : n < cnt T P w) (v : Int32) (h : zm_H) : fM_becomes (d + 1) (iN n) x v h = some (none, zm_ui h (mc w) (mi w n) v) := by
  subst ex
  rw [fM_becomes_eq]
  rcases cases12 hw with rfl | rfl | rfl | rfl | rfl | rfl | rfl | rfl | rfl | rfl | rfl | rfl <;>
    simp [cnt] at hn <;> simp (disch := omega) [iN_eqr, gR_2, hR_2, gW_2, hW_2, gR_4, hR_4, gW_4, hW_4, gR_5, hR_5, gW_5, hW_5, gR_6, hR_6, gW_6, hW_6, gR_7, hR_7, gW_7, hW_7, gR_9, hR_9, gW_9, hW_9, gR_10, hR_10, gW_10, hW_10, gR_12, hR_12, gW_12, hW_12, gR_13, hR_13, gW_13, hW_13, gR_16, hR_16, gW_16, hW_16, gR_17, hR_17, gW_17, hW_17, gR_18, hR_18, gW_18, hW_18, gR_19, hR_19, gW_19, hW_19, gR_20, hR_20, gW_20, hW_20, gR_21, hR_21, gW_21, hW_21, gR_22, hR_22, gW_22, hW_22, gR_24, hR_24, gW_24, hW_24, gR_25, hR_25, gW_25, hW_25, gR_27, hR_27, gW_27, hW_27, gR_28, hR_28, gW_28, hW_28, gR_30, hR_30, gW_30, hW_30, gR_31, hR_31, gW_31, hW_31, gR_46, hR_46, gW_46, hW_46, gR_47, hR_47, gW_47, hW_47, gR_48, hR_48, gW_48, hW_48, gR_49, hR_49, gW_49, hW_49, gR_50, hR_50, gW_50, hW_50, gR_51, hR_51, gW_51, hW_51, gR_52, hR_52, gW_52, hW_52, gR_53, hR_53, gW_53, hW_53, gR_54, hR_54, gW_54, hW_54, gR_55, hR_55, gW_55, hW_55, gR_56, hR_56, gW_56, hW_56, gR_57, hR_57, gW_57, hW_57, gR_58, hR_58, gW_58, hW_58, gR_59, hR_59, gW_59, hW_59, gR_60, hR_60, gW_60, hW_60, gR_61, hR_61, gW_61, hW_61, gR_62, hR_62, gW_62, hW_62, gR_63, hR_63, gW_63, hW_63, gR_64, hR_64, gW_64, hW_64, gR_65, hR_65, gW_65, hW_65, gR_66, hR_66, gW_66, hW_66, gR_67, hR_67, gW_67, hW_67, gR_68, hR_68, gW_68, hW_68, gR_69, hR_69, gW_69, hW_69, gR_70, hR_70, gW_70, hW_70, gR_71, hR_71, gW_71, hW_71, gR_72, hR_72, gW_72, hW_72, gR_73, hR_73, gW_73, hW_73, gR_74, hR_74, gW_74, hW_74, gR_76, hR_76, gW_76, hW_76, gR_77, hR_77, gW_77, hW_77, gR_78, hR_78, gW_78, hW_78, gR_79, hR_79, gW_79, hW_79, gR_80, hR_80, gW_80, hW_80, gR_81, hR_81, gW_81, hW_81, gR_82, hR_82, gW_82, hW_82, gR_1000, hR_1000, gR_1001, hR_1001, gR_1002, hR_1002, gR_1003, hR_1003, gJ_39, gJ_40, gJ_41, gJ_42, gJ_43, gJ_44, gJ_75, gQ_32, iN_c] <;> rfl
theorem lt_1 (a : Int32) : decide (a = 0) = (decide (0 ≤ a) && decide (a < 1)) := by grind
theorem isOf_s (d : Nat) {T P : Nat} (hT : T ≤ 8) (hP : P ≤ 6) {h : zm_H} (eT : h.1 45 0 = iN T) (eP : h.1 45 11 = iN P) {x : Int32} {w : Nat} (ex : x = iN w) (hw : w < 12) (a : Int32) : fM_isOf (d + 3) a x h = some (some (.int (zi (decide (0 ≤ a) && decide (a < iN (cnt T P w))))), h) := by
  subst ex
  have hz : ∀ (v : Int32) (b : Bool), v = zi b → (cond (cond (decide (v = 0)) true (decide (v = 1))) (some (some (.int v), h) : zm_R) none) = some (some (.int v), h) := fun v b e => by subst e; rw [zi_z]; rfl
  rw [fM_isOf_eq, within_s, bI, zi_0]
  by_cases p : w ≤ 4
  · rw [show (decide ((0 : Int32) ≤ iN w) && decide (iN w ≤ 4)) = true by simp (disch := omega) only [iN_add, iN_addl, iN_addr, iN_mul, iN_mull, iN_mulr, iN_sub, iN_subl, iN_subr, iN_c, iN_lt, iN_ltl, iN_ltr, iN_le, iN_lel, iN_ler, iN_eq, iN_eql, iN_eqr]; simp [p]]
    rw [isTie_s _ (by omega) _ _ eT, show cnt T P w = T by simp [cnt, p]]
    exact hz _ _ rfl
  · rw [show (decide ((0 : Int32) ≤ iN w) && decide (iN w ≤ 4)) = false by simp (disch := omega) only [iN_add, iN_addl, iN_addr, iN_mul, iN_mull, iN_mulr, iN_sub, iN_subl, iN_subr, iN_c, iN_lt, iN_ltl, iN_ltr, iN_le, iN_lel, iN_ler, iN_eq, iN_eql, iN_eqr]; simp [p]]
    by_cases q : w = 5
    · subst q
      simp only [Bool.not_false, Bool.cond_true]
      rw [cN, cT (by rfl), isKnot_s, ← lt_s5]
      exact hz _ _ rfl
    · simp only [Bool.not_false, Bool.cond_true]
      rw [cN, cF (by simp (disch := omega) only [iN_add, iN_addl, iN_addr, iN_mul, iN_mull, iN_mulr, iN_sub, iN_subl, iN_subr, iN_c, iN_lt, iN_ltl, iN_ltr, iN_le, iN_lel, iN_ler, iN_eq, iN_eql, iN_eqr]; exact q)]
      rw [within_s, bI, zi_0]
      by_cases r : w ≤ 8
      · rw [show (decide ((6 : Int32) ≤ iN w) && decide (iN w ≤ 8)) = true by simp (disch := omega) only [iN_add, iN_addl, iN_addr, iN_mul, iN_mull, iN_mulr, iN_sub, iN_subl, iN_subr, iN_c, iN_lt, iN_ltl, iN_ltr, iN_le, iN_lel, iN_ler, iN_eq, iN_eql, iN_eqr]; simp [r]; omega]
        rw [show cnt T P w = 1 by simp [cnt, p, q, r], show iN 1 = 1 from rfl, ← lt_1]
        by_cases s : a = 0
        · subst s; rfl
        · simp only [Bool.not_true, Bool.cond_false]; rw [cN, cF s, decide_eq_false s]; rfl
      · rw [show (decide ((6 : Int32) ≤ iN w) && decide (iN w ≤ 8)) = false by simp (disch := omega) only [iN_add, iN_addl, iN_addr, iN_mul, iN_mull, iN_mulr, iN_sub, iN_subl, iN_subr, iN_c, iN_lt, iN_ltl, iN_ltr, iN_le, iN_lel, iN_ler, iN_eq, iN_eql, iN_eqr]; simp [r]]
        simp only [Bool.not_false, Bool.cond_true]
        rw [within_s, bI, zi_0]
        rw [show (decide ((9 : Int32) ≤ iN w) && decide (iN w ≤ 11)) = true by simp (disch := omega) only [iN_add, iN_addl, iN_addr, iN_mul, iN_mull, iN_mulr, iN_sub, iN_subl, iN_subr, iN_c, iN_lt, iN_ltl, iN_ltr, iN_le, iN_lel, iN_ler, iN_eq, iN_eql, iN_eqr]; simp; omega]
        simp only [Bool.not_true, Bool.cond_false]
        rw [isTier_s _ (by omega) _ _ eP, bI, zi_0, show cnt T P w = P by simp [cnt, p, q, r]; omega]
        cases (decide (0 ≤ a) && decide (a < iN P)) <;> rfl
theorem isOf_no (d : Nat) (h : zm_H) (w : Int32) (hw : w < 0 ∨ 12 ≤ w) (a : Int32) : fM_isOf (d + 3) a w h = some (some (.int 0), h) := by
  rw [fM_isOf_eq]
  have e1 : (decide (0 ≤ w) && decide (w ≤ 4)) = false := by grind
  have e2 : (decide (6 ≤ w) && decide (w ≤ 8)) = false := by grind
  have e3 : (decide (9 ≤ w) && decide (w ≤ 11)) = false := by grind
  simp only [within_s, e1, bI, zi_0, e2, e3, decide_eq_false (show ¬ w = 5 by grind)]
  rfl
theorem isFit_s (d : Nat) {x : Int32} {w : Nat} (ex : x = iN w) (hw : w < 12) (v : Int32) (h : zm_H) : fM_isFit (d + 3) x v h = some (some (.int (zi (decide (lo w ≤ v) && decide (v ≤ hi w)))), h) := by
  subst ex
  have hz : ∀ (v : Int32) (b : Bool), v = zi b → (cond (cond (decide (v = 0)) true (decide (v = 1))) (some (some (.int v), h) : zm_R) none) = some (some (.int v), h) := fun v b e => by subst e; rw [zi_z]; rfl
  rw [fM_isFit_eq]
  simp only [within_s, isPlace_s, isShare_s, bI, hz _ _ rfl]
  rcases cases12 hw with rfl | rfl | rfl | rfl | rfl | rfl | rfl | rfl | rfl | rfl | rfl | rfl <;> rfl
theorem fit_of {w : Nat} {v : Int32} (h1 : lo w ≤ v) (h2 : v ≤ hi w) : fitW w v := ⟨h1, h2⟩
