/-! changes -/
theorem forget_s (d : Nat) : ∀ (n i : Nat) (h : zm_H), i + n = 40 → 1 ≤ i → ∃ K, fCh_forgetOldest_c2 (d + 1) (iN i) h = some (none, K) ∧ K.1 3 4 = 39 ∧ (∀ b, b ≠ 4 → K.1 3 b = h.1 3 b) ∧
    (∀ a, a ≠ 3 → a ≠ 4 → a ≠ 5 → a ≠ 6 → a ≠ 7 → K.1 a = h.1 a) ∧ K.2 = h.2 ∧ (∀ r, r = 4 ∨ r = 5 ∨ r = 6 ∨ r = 7 → ∀ b, K.1 r b = if i ≤ b + 1 ∧ b < 39 then h.1 r (b + 1) else h.1 r b) := by
  intro n
  induction n with
  | zero =>
    intro i h hi h1
    obtain rfl : i = 40 := by omega
    refine ⟨zm_ui h 3 4 39, ?_, ui_s _ _ _ _, fun b hb => ui_k hb, fun a ha _ _ _ _ => ui_f ha, ui_2 _ _ _ _, ?_⟩
    · rw [fCh_forgetOldest_c2_eq, cT (by decide)]
    · intro r hr b
      rw [ui_c (by omega), if_neg (by omega)]
  | succ n ih =>
    intro i h hi h1
    obtain ⟨K, e, k1, k2, k3, k4, k5⟩ := ih (i + 1) (zm_ui (zm_ui (zm_ui (zm_ui h 4 (i - 1) (h.1 4 i)) 5 (i - 1) (h.1 5 i)) 6 (i - 1) (h.1 6 i)) 7 (i - 1) (h.1 7 i)) (by omega) (by omega)
    refine ⟨K, ?_, k1, ?_, ?_, ?_, ?_⟩
    · rw [fCh_forgetOldest_c2_eq, cF (by simp (disch := omega) only [iN_add, iN_addl, iN_addr, iN_mul, iN_mull, iN_mulr, iN_sub, iN_subl, iN_subr, iN_c, iN_lt, iN_ltl, iN_ltr, iN_le, iN_lel, iN_ler, iN_eq, iN_eql, iN_eqr]; omega)]
      simp (disch := omega) only [bI, bJ, bV, cN, zi_0, zi_z, Bool.cond_true, Bool.cond_false, decide_true, decide_false, decide_eq_true_eq, Bool.cond_decide, if_true, if_false, ofN12, Bool.not_not, zi_t, zi_f, iN_add, iN_addl, iN_addr, iN_mul, iN_mull, iN_mulr, iN_sub, iN_subl, iN_subr, iN_c, iN_lt, iN_ltl, iN_ltr, iN_le, iN_lel, iN_ler, iN_eq, iN_eql, iN_eqr, gR_2, hR_2, gW_2, hW_2, gR_4, hR_4, gW_4, hW_4, gR_5, hR_5, gW_5, hW_5, gR_6, hR_6, gW_6, hW_6, gR_7, hR_7, gW_7, hW_7, gR_9, hR_9, gW_9, hW_9, gR_10, hR_10, gW_10, hW_10, gR_12, hR_12, gW_12, hW_12, gR_13, hR_13, gW_13, hW_13, gR_16, hR_16, gW_16, hW_16, gR_17, hR_17, gW_17, hW_17, gR_18, hR_18, gW_18, hW_18, gR_19, hR_19, gW_19, hW_19, gR_20, hR_20, gW_20, hW_20, gR_21, hR_21, gW_21, hW_21, gR_22, hR_22, gW_22, hW_22, gR_24, hR_24, gW_24, hW_24, gR_25, hR_25, gW_25, hW_25, gR_27, hR_27, gW_27, hW_27, gR_28, hR_28, gW_28, hW_28, gR_30, hR_30, gW_30, hW_30, gR_31, hR_31, gW_31, hW_31, gR_46, hR_46, gW_46, hW_46, gR_47, hR_47, gW_47, hW_47, gR_48, hR_48, gW_48, hW_48, gR_49, hR_49, gW_49, hW_49, gR_50, hR_50, gW_50, hW_50, gR_51, hR_51, gW_51, hW_51, gR_52, hR_52, gW_52, hW_52, gR_53, hR_53, gW_53, hW_53, gR_54, hR_54, gW_54, hW_54, gR_55, hR_55, gW_55, hW_55, gR_56, hR_56, gW_56, hW_56, gR_57, hR_57, gW_57, hW_57, gR_58, hR_58, gW_58, hW_58, gR_59, hR_59, gW_59, hW_59, gR_60, hR_60, gW_60, hW_60, gR_61, hR_61, gW_61, hW_61, gR_62, hR_62, gW_62, hW_62, gR_63, hR_63, gW_63, hW_63, gR_64, hR_64, gW_64, hW_64, gR_65, hR_65, gW_65, hW_65, gR_66, hR_66, gW_66, hW_66, gR_67, hR_67, gW_67, hW_67, gR_68, hR_68, gW_68, hW_68, gR_69, hR_69, gW_69, hW_69, gR_70, hR_70, gW_70, hW_70, gR_71, hR_71, gW_71, hW_71, gR_72, hR_72, gW_72, hW_72, gR_73, hR_73, gW_73, hW_73, gR_74, hR_74, gW_74, hW_74, gR_76, hR_76, gW_76, hW_76, gR_77, hR_77, gW_77, hW_77, gR_78, hR_78, gW_78, hW_78, gR_79, hR_79, gW_79, hW_79, gR_80, hR_80, gW_80, hW_80, gR_81, hR_81, gW_81, hW_81, gR_82, hR_82, gW_82, hW_82, gR_1000, hR_1000, gR_1001, hR_1001, gR_1002, hR_1002, gR_1003, hR_1003, gJ_39, gJ_40, gJ_41, gJ_42, gJ_43, gJ_44, gJ_75, gQ_32, ui_s, ui_k, ui_c]
      exact e
    · intro b hb
      rw [k2 b hb]; simp (disch := omega) only [ui_c]
    · intro a a3 a4 a5 a6 a7
      rw [k3 a a3 a4 a5 a6 a7]; simp (disch := omega) only [ui_f]
    · rw [k4]; rfl
    · intro r hr b
      rw [k5 r hr b]
      by_cases q : b + 1 = i
      · obtain rfl : i = b + 1 := q.symm
        rw [if_neg (show ¬ (b + 1 + 1 ≤ b + 1 ∧ b < 39) by omega), if_pos (show b + 1 ≤ b + 1 ∧ b < 39 by omega)]
        rcases hr with rfl | rfl | rfl | rfl <;> simp (disch := omega) only [ui_s, ui_k, ui_c, Nat.add_sub_cancel]
      · by_cases q2 : i + 1 ≤ b + 1 ∧ b < 39
        · rw [if_pos q2, if_pos (show i ≤ b + 1 ∧ b < 39 by omega)]
          rcases hr with rfl | rfl | rfl | rfl <;> simp (disch := omega) only [ui_s, ui_k, ui_c]
        · rw [if_neg q2, if_neg (show ¬ (i ≤ b + 1 ∧ b < 39) by omega)]
          rcases hr with rfl | rfl | rfl | rfl <;> simp (disch := omega) only [ui_s, ui_k, ui_c]
theorem chAdd_s (d : Nat) {D : Nat} {h : zm_H} (e1 : h.1 3 4 = iN D) (hD : D ≤ 40) (n w was v : Int32) : ∃ K, fCh_add (d + 2) n w was v h = some (none, K) ∧
    (∃ D' o, D' ≤ 39 ∧ D = D' + o ∧ (D < 40 → D' = D) ∧ K.1 3 4 = iN (D' + 1) ∧ K.1 3 5 = iN (D' + 1) ∧ (o = 0 ∨ (o = 1 ∧ D' = 39)) ∧
      (∀ i, i < D' → K.1 4 i = h.1 4 (i + o) ∧ K.1 5 i = h.1 5 (i + o) ∧ K.1 6 i = h.1 6 (i + o) ∧ K.1 7 i = h.1 7 (i + o)) ∧ K.1 4 D' = n ∧ K.1 5 D' = w ∧ K.1 6 D' = was ∧ K.1 7 D' = v) ∧
    (∀ a, a ≠ 3 → a ≠ 4 → a ≠ 5 → a ≠ 6 → a ≠ 7 → K.1 a = h.1 a) ∧ K.2 = h.2 := by
  by_cases q : D < 40
  · refine ⟨zm_ui (zm_ui (zm_ui (zm_ui (zm_ui (zm_ui h 4 D n) 5 D w) 6 D was) 7 D v) 3 4 (iN (D + 1))) 3 5 (iN (D + 1)), ?_, ⟨D, 0, by omega, by omega, fun _ => rfl, ?_, ?_, .inl rfl, ?_, ?_, ?_, ?_, ?_⟩, ?_, ?_⟩
    · rw [fCh_add_eq]
      simp (disch := omega) only [bI, bJ, bV, cN, zi_0, zi_z, Bool.cond_true, Bool.cond_false, decide_true, decide_false, decide_eq_true_eq, Bool.cond_decide, if_true, if_false, ofN12, Bool.not_not, zi_t, zi_f, iN_add, iN_addl, iN_addr, iN_mul, iN_mull, iN_mulr, iN_sub, iN_subl, iN_subr, iN_c, iN_lt, iN_ltl, iN_ltr, iN_le, iN_lel, iN_ler, iN_eq, iN_eql, iN_eqr, gR_2, hR_2, gW_2, hW_2, gR_4, hR_4, gW_4, hW_4, gR_5, hR_5, gW_5, hW_5, gR_6, hR_6, gW_6, hW_6, gR_7, hR_7, gW_7, hW_7, gR_9, hR_9, gW_9, hW_9, gR_10, hR_10, gW_10, hW_10, gR_12, hR_12, gW_12, hW_12, gR_13, hR_13, gW_13, hW_13, gR_16, hR_16, gW_16, hW_16, gR_17, hR_17, gW_17, hW_17, gR_18, hR_18, gW_18, hW_18, gR_19, hR_19, gW_19, hW_19, gR_20, hR_20, gW_20, hW_20, gR_21, hR_21, gW_21, hW_21, gR_22, hR_22, gW_22, hW_22, gR_24, hR_24, gW_24, hW_24, gR_25, hR_25, gW_25, hW_25, gR_27, hR_27, gW_27, hW_27, gR_28, hR_28, gW_28, hW_28, gR_30, hR_30, gW_30, hW_30, gR_31, hR_31, gW_31, hW_31, gR_46, hR_46, gW_46, hW_46, gR_47, hR_47, gW_47, hW_47, gR_48, hR_48, gW_48, hW_48, gR_49, hR_49, gW_49, hW_49, gR_50, hR_50, gW_50, hW_50, gR_51, hR_51, gW_51, hW_51, gR_52, hR_52, gW_52, hW_52, gR_53, hR_53, gW_53, hW_53, gR_54, hR_54, gW_54, hW_54, gR_55, hR_55, gW_55, hW_55, gR_56, hR_56, gW_56, hW_56, gR_57, hR_57, gW_57, hW_57, gR_58, hR_58, gW_58, hW_58, gR_59, hR_59, gW_59, hW_59, gR_60, hR_60, gW_60, hW_60, gR_61, hR_61, gW_61, hW_61, gR_62, hR_62, gW_62, hW_62, gR_63, hR_63, gW_63, hW_63, gR_64, hR_64, gW_64, hW_64, gR_65, hR_65, gW_65, hW_65, gR_66, hR_66, gW_66, hW_66, gR_67, hR_67, gW_67, hW_67, gR_68, hR_68, gW_68, hW_68, gR_69, hR_69, gW_69, hW_69, gR_70, hR_70, gW_70, hW_70, gR_71, hR_71, gW_71, hW_71, gR_72, hR_72, gW_72, hW_72, gR_73, hR_73, gW_73, hW_73, gR_74, hR_74, gW_74, hW_74, gR_76, hR_76, gW_76, hW_76, gR_77, hR_77, gW_77, hW_77, gR_78, hR_78, gW_78, hW_78, gR_79, hR_79, gW_79, hW_79, gR_80, hR_80, gW_80, hW_80, gR_81, hR_81, gW_81, hW_81, gR_82, hR_82, gW_82, hW_82, gR_1000, hR_1000, gR_1001, hR_1001, gR_1002, hR_1002, gR_1003, hR_1003, gJ_39, gJ_40, gJ_41, gJ_42, gJ_43, gJ_44, gJ_75, gQ_32, ui_s, ui_k, ui_c, e1, q]
    · simp (disch := omega) only [ui_s, ui_k, ui_c]
    · simp (disch := omega) only [ui_s, ui_k, ui_c]
    · intro i hi
      simp (disch := omega) only [ui_s, ui_k, ui_c, Nat.add_zero, and_self]
    · simp (disch := omega) only [ui_s, ui_k, ui_c]
    · simp (disch := omega) only [ui_s, ui_k, ui_c]
    · simp (disch := omega) only [ui_s, ui_k, ui_c]
    · simp (disch := omega) only [ui_s, ui_k, ui_c]
    · intro a a3 a4 a5 a6 a7
      simp (disch := omega) only [ui_f]
    · rfl
  · obtain rfl : D = 40 := by omega
    obtain ⟨K, e, k1, k2, k3, k4, k5⟩ := forget_s d 39 1 h (by omega) (by omega)
    have k1' : K.1 3 4 = iN 39 := k1
    refine ⟨zm_ui (zm_ui (zm_ui (zm_ui (zm_ui (zm_ui K 4 39 n) 5 39 w) 6 39 was) 7 39 v) 3 4 (iN 40)) 3 5 (iN 40), ?_, ⟨39, 1, by omega, by omega, fun h => absurd h (by omega), ?_, ?_, .inr ⟨rfl, rfl⟩, ?_, ?_, ?_, ?_, ?_⟩, ?_, ?_⟩
    · rw [fCh_add_eq, e1, cF (by decide), fCh_forgetOldest_eq]
      rw [show (1 : Int32) = iN 1 from rfl, e]
      simp (disch := omega) only [bI, bJ, bV, cN, zi_0, zi_z, Bool.cond_true, Bool.cond_false, decide_true, decide_false, decide_eq_true_eq, Bool.cond_decide, if_true, if_false, ofN12, Bool.not_not, zi_t, zi_f, iN_add, iN_addl, iN_addr, iN_mul, iN_mull, iN_mulr, iN_sub, iN_subl, iN_subr, iN_c, iN_lt, iN_ltl, iN_ltr, iN_le, iN_lel, iN_ler, iN_eq, iN_eql, iN_eqr, gR_2, hR_2, gW_2, hW_2, gR_4, hR_4, gW_4, hW_4, gR_5, hR_5, gW_5, hW_5, gR_6, hR_6, gW_6, hW_6, gR_7, hR_7, gW_7, hW_7, gR_9, hR_9, gW_9, hW_9, gR_10, hR_10, gW_10, hW_10, gR_12, hR_12, gW_12, hW_12, gR_13, hR_13, gW_13, hW_13, gR_16, hR_16, gW_16, hW_16, gR_17, hR_17, gW_17, hW_17, gR_18, hR_18, gW_18, hW_18, gR_19, hR_19, gW_19, hW_19, gR_20, hR_20, gW_20, hW_20, gR_21, hR_21, gW_21, hW_21, gR_22, hR_22, gW_22, hW_22, gR_24, hR_24, gW_24, hW_24, gR_25, hR_25, gW_25, hW_25, gR_27, hR_27, gW_27, hW_27, gR_28, hR_28, gW_28, hW_28, gR_30, hR_30, gW_30, hW_30, gR_31, hR_31, gW_31, hW_31, gR_46, hR_46, gW_46, hW_46, gR_47, hR_47, gW_47, hW_47, gR_48, hR_48, gW_48, hW_48, gR_49, hR_49, gW_49, hW_49, gR_50, hR_50, gW_50, hW_50, gR_51, hR_51, gW_51, hW_51, gR_52, hR_52, gW_52, hW_52, gR_53, hR_53, gW_53, hW_53, gR_54, hR_54, gW_54, hW_54, gR_55, hR_55, gW_55, hW_55, gR_56, hR_56, gW_56, hW_56, gR_57, hR_57, gW_57, hW_57, gR_58, hR_58, gW_58, hW_58, gR_59, hR_59, gW_59, hW_59, gR_60, hR_60, gW_60, hW_60, gR_61, hR_61, gW_61, hW_61, gR_62, hR_62, gW_62, hW_62, gR_63, hR_63, gW_63, hW_63, gR_64, hR_64, gW_64, hW_64, gR_65, hR_65, gW_65, hW_65, gR_66, hR_66, gW_66, hW_66, gR_67, hR_67, gW_67, hW_67, gR_68, hR_68, gW_68, hW_68, gR_69, hR_69, gW_69, hW_69, gR_70, hR_70, gW_70, hW_70, gR_71, hR_71, gW_71, hW_71, gR_72, hR_72, gW_72, hW_72, gR_73, hR_73, gW_73, hW_73, gR_74, hR_74, gW_74, hW_74, gR_76, hR_76, gW_76, hW_76, gR_77, hR_77, gW_77, hW_77, gR_78, hR_78, gW_78, hW_78, gR_79, hR_79, gW_79, hW_79, gR_80, hR_80, gW_80, hW_80, gR_81, hR_81, gW_81, hW_81, gR_82, hR_82, gW_82, hW_82, gR_1000, hR_1000, gR_1001, hR_1001, gR_1002, hR_1002, gR_1003, hR_1003, gJ_39, gJ_40, gJ_41, gJ_42, gJ_43, gJ_44, gJ_75, gQ_32, ui_s, ui_k, ui_c, k1']
    · simp (disch := omega) only [ui_s, ui_k, ui_c]
    · simp (disch := omega) only [ui_s, ui_k, ui_c]
    · intro i hi
      simp (disch := omega) only [ui_s, ui_k, ui_c]
      rw [k5 4 (by omega), k5 5 (by omega), k5 6 (by omega), k5 7 (by omega), if_pos (by omega), if_pos (by omega), if_pos (by omega), if_pos (by omega)]
      exact ⟨rfl, rfl, rfl, rfl⟩
    · simp (disch := omega) only [ui_s, ui_k, ui_c]
    · simp (disch := omega) only [ui_s, ui_k, ui_c]
    · simp (disch := omega) only [ui_s, ui_k, ui_c]
    · simp (disch := omega) only [ui_s, ui_k, ui_c]
    · intro a a3 a4 a5 a6 a7
      simp (disch := omega) only [ui_f, k3 a a3 a4 a5 a6 a7]
    · exact k4
theorem mshift_s (d : Nat) (x1 x2 x3 x4 : Int32) : ∀ (k i : Nat) (h : zm_H), i + k = 156 → h.1 45 39 = iN 40 → ∃ K, fM_mend_c55 (d + 1) x1 x2 x3 x4 (iN i) h = some (some (.int x4), K) ∧ K.1 45 39 = iN 40 ∧ K.1 45 38 = iN 40 ∧
    (∀ b, b ≠ 38 → b ≠ 39 → K.1 45 b = h.1 45 b) ∧ (∀ a, a ≠ 45 → a ≠ 70 → K.1 a = h.1 a) ∧ K.2 = h.2 ∧ (∀ b, b < 156 → K.1 70 b = if i ≤ b then h.1 70 (b + 4) else h.1 70 b) ∧
    K.1 70 156 = x1 ∧ K.1 70 157 = x2 ∧ K.1 70 158 = x4 ∧ K.1 70 159 = x3 := by
  intro k
  induction k with
  | zero =>
    intro i h hi e
    obtain rfl : i = 156 := by omega
    refine ⟨zm_ui (zm_ui (zm_ui (zm_ui (zm_ui (zm_ui (zm_ui h 45 39 (iN 39)) 70 156 x1) 70 157 x2) 70 158 x4) 70 159 x3) 45 39 (iN 40)) 45 38 (iN 40), ?_, ?_, ?_, ?_, ?_, ?_, ?_, ?_, ?_, ?_, ?_⟩
    · rw [fM_mend_c55_eq, cT (by decide)]
      simp (disch := omega) only [bI, bJ, bV, cN, zi_0, zi_z, Bool.cond_true, Bool.cond_false, decide_true, decide_false, decide_eq_true_eq, Bool.cond_decide, if_true, if_false, ofN12, Bool.not_not, zi_t, zi_f, iN_add, iN_addl, iN_addr, iN_mul, iN_mull, iN_mulr, iN_sub, iN_subl, iN_subr, iN_c, iN_lt, iN_ltl, iN_ltr, iN_le, iN_lel, iN_ler, iN_eq, iN_eql, iN_eqr, gR_2, hR_2, gW_2, hW_2, gR_4, hR_4, gW_4, hW_4, gR_5, hR_5, gW_5, hW_5, gR_6, hR_6, gW_6, hW_6, gR_7, hR_7, gW_7, hW_7, gR_9, hR_9, gW_9, hW_9, gR_10, hR_10, gW_10, hW_10, gR_12, hR_12, gW_12, hW_12, gR_13, hR_13, gW_13, hW_13, gR_16, hR_16, gW_16, hW_16, gR_17, hR_17, gW_17, hW_17, gR_18, hR_18, gW_18, hW_18, gR_19, hR_19, gW_19, hW_19, gR_20, hR_20, gW_20, hW_20, gR_21, hR_21, gW_21, hW_21, gR_22, hR_22, gW_22, hW_22, gR_24, hR_24, gW_24, hW_24, gR_25, hR_25, gW_25, hW_25, gR_27, hR_27, gW_27, hW_27, gR_28, hR_28, gW_28, hW_28, gR_30, hR_30, gW_30, hW_30, gR_31, hR_31, gW_31, hW_31, gR_46, hR_46, gW_46, hW_46, gR_47, hR_47, gW_47, hW_47, gR_48, hR_48, gW_48, hW_48, gR_49, hR_49, gW_49, hW_49, gR_50, hR_50, gW_50, hW_50, gR_51, hR_51, gW_51, hW_51, gR_52, hR_52, gW_52, hW_52, gR_53, hR_53, gW_53, hW_53, gR_54, hR_54, gW_54, hW_54, gR_55, hR_55, gW_55, hW_55, gR_56, hR_56, gW_56, hW_56, gR_57, hR_57, gW_57, hW_57, gR_58, hR_58, gW_58, hW_58, gR_59, hR_59, gW_59, hW_59, gR_60, hR_60, gW_60, hW_60, gR_61, hR_61, gW_61, hW_61, gR_62, hR_62, gW_62, hW_62, gR_63, hR_63, gW_63, hW_63, gR_64, hR_64, gW_64, hW_64, gR_65, hR_65, gW_65, hW_65, gR_66, hR_66, gW_66, hW_66, gR_67, hR_67, gW_67, hW_67, gR_68, hR_68, gW_68, hW_68, gR_69, hR_69, gW_69, hW_69, gR_70, hR_70, gW_70, hW_70, gR_71, hR_71, gW_71, hW_71, gR_72, hR_72, gW_72, hW_72, gR_73, hR_73, gW_73, hW_73, gR_74, hR_74, gW_74, hW_74, gR_76, hR_76, gW_76, hW_76, gR_77, hR_77, gW_77, hW_77, gR_78, hR_78, gW_78, hW_78, gR_79, hR_79, gW_79, hW_79, gR_80, hR_80, gW_80, hW_80, gR_81, hR_81, gW_81, hW_81, gR_82, hR_82, gW_82, hW_82, gR_1000, hR_1000, gR_1001, hR_1001, gR_1002, hR_1002, gR_1003, hR_1003, gJ_39, gJ_40, gJ_41, gJ_42, gJ_43, gJ_44, gJ_75, gQ_32, ui_s, ui_k, ui_c, e]
    · simp (disch := omega) only [ui_s, ui_k, ui_c]
    · simp (disch := omega) only [ui_s, ui_k, ui_c]
    · intro b h1 h2
      simp (disch := omega) only [ui_s, ui_k, ui_c]
    · intro a h1 h2
      simp (disch := omega) only [ui_f]
    · rfl
    · intro b hb
      rw [if_neg (by omega)]
      simp (disch := omega) only [ui_s, ui_k, ui_c]
    · simp (disch := omega) only [ui_s, ui_k, ui_c]
    · simp (disch := omega) only [ui_s, ui_k, ui_c]
    · simp (disch := omega) only [ui_s, ui_k, ui_c]
    · simp (disch := omega) only [ui_s, ui_k, ui_c]
  | succ k ih =>
    intro i h hi e
    obtain ⟨K, f, k1, k2, k3, k4, k5, k6, k7⟩ := ih (i + 1) (zm_ui h 70 i (h.1 70 (i + 4))) (by omega) (by rw [ui_c (by omega)]; exact e)
    refine ⟨K, ?_, k1, k2, ?_, ?_, ?_, ?_, k7⟩
    · rw [fM_mend_c55_eq, cF (by simp (disch := omega) only [iN_add, iN_addl, iN_addr, iN_mul, iN_mull, iN_mulr, iN_sub, iN_subl, iN_subr, iN_c, iN_lt, iN_ltl, iN_ltr, iN_le, iN_lel, iN_ler, iN_eq, iN_eql, iN_eqr]; omega)]
      simp (disch := omega) only [bI, bJ, bV, cN, zi_0, zi_z, Bool.cond_true, Bool.cond_false, decide_true, decide_false, decide_eq_true_eq, Bool.cond_decide, if_true, if_false, ofN12, Bool.not_not, zi_t, zi_f, iN_add, iN_addl, iN_addr, iN_mul, iN_mull, iN_mulr, iN_sub, iN_subl, iN_subr, iN_c, iN_lt, iN_ltl, iN_ltr, iN_le, iN_lel, iN_ler, iN_eq, iN_eql, iN_eqr, gR_2, hR_2, gW_2, hW_2, gR_4, hR_4, gW_4, hW_4, gR_5, hR_5, gW_5, hW_5, gR_6, hR_6, gW_6, hW_6, gR_7, hR_7, gW_7, hW_7, gR_9, hR_9, gW_9, hW_9, gR_10, hR_10, gW_10, hW_10, gR_12, hR_12, gW_12, hW_12, gR_13, hR_13, gW_13, hW_13, gR_16, hR_16, gW_16, hW_16, gR_17, hR_17, gW_17, hW_17, gR_18, hR_18, gW_18, hW_18, gR_19, hR_19, gW_19, hW_19, gR_20, hR_20, gW_20, hW_20, gR_21, hR_21, gW_21, hW_21, gR_22, hR_22, gW_22, hW_22, gR_24, hR_24, gW_24, hW_24, gR_25, hR_25, gW_25, hW_25, gR_27, hR_27, gW_27, hW_27, gR_28, hR_28, gW_28, hW_28, gR_30, hR_30, gW_30, hW_30, gR_31, hR_31, gW_31, hW_31, gR_46, hR_46, gW_46, hW_46, gR_47, hR_47, gW_47, hW_47, gR_48, hR_48, gW_48, hW_48, gR_49, hR_49, gW_49, hW_49, gR_50, hR_50, gW_50, hW_50, gR_51, hR_51, gW_51, hW_51, gR_52, hR_52, gW_52, hW_52, gR_53, hR_53, gW_53, hW_53, gR_54, hR_54, gW_54, hW_54, gR_55, hR_55, gW_55, hW_55, gR_56, hR_56, gW_56, hW_56, gR_57, hR_57, gW_57, hW_57, gR_58, hR_58, gW_58, hW_58, gR_59, hR_59, gW_59, hW_59, gR_60, hR_60, gW_60, hW_60, gR_61, hR_61, gW_61, hW_61, gR_62, hR_62, gW_62, hW_62, gR_63, hR_63, gW_63, hW_63, gR_64, hR_64, gW_64, hW_64, gR_65, hR_65, gW_65, hW_65, gR_66, hR_66, gW_66, hW_66, gR_67, hR_67, gW_67, hW_67, gR_68, hR_68, gW_68, hW_68, gR_69, hR_69, gW_69, hW_69, gR_70, hR_70, gW_70, hW_70, gR_71, hR_71, gW_71, hW_71, gR_72, hR_72, gW_72, hW_72, gR_73, hR_73, gW_73, hW_73, gR_74, hR_74, gW_74, hW_74, gR_76, hR_76, gW_76, hW_76, gR_77, hR_77, gW_77, hW_77, gR_78, hR_78, gW_78, hW_78, gR_79, hR_79, gW_79, hW_79, gR_80, hR_80, gW_80, hW_80, gR_81, hR_81, gW_81, hW_81, gR_82, hR_82, gW_82, hW_82, gR_1000, hR_1000, gR_1001, hR_1001, gR_1002, hR_1002, gR_1003, hR_1003, gJ_39, gJ_40, gJ_41, gJ_42, gJ_43, gJ_44, gJ_75, gQ_32, ui_s, ui_k, ui_c]
      exact f
    · intro b h1 h2
      rw [k3 b h1 h2, ui_c (by omega)]
    · intro a h1 h2
      rw [k4 a h1 h2, ui_f h2]
    · exact k5
    · intro b hb
      rw [k6 b hb]
      by_cases q : b = i
      · subst q
        rw [if_neg (show ¬ b + 1 ≤ b by omega), if_pos (show b ≤ b by omega), ui_s]
      · by_cases q2 : i + 1 ≤ b
        · rw [if_pos q2, if_pos (show i ≤ b by omega), ui_k (by omega)]
        · rw [if_neg q2, if_neg (show ¬ i ≤ b by omega), ui_k (by omega)]
/-- one number set, on both sides -/
theorem mcmi {T P w n w' n' : Nat} (hT : T ≤ 8) (hP : P ≤ 6) (hw : w < 13) (hw' : w' < 13) (hn : n < cnt T P w) (hn' : n' < cnt T P w') (hne : ¬ (w' = w ∧ n' = n)) : mc w' ≠ mc w ∨ mi w' n' ≠ mi w n := by
  by_cases q : w' = w
  · subst q
    right
    have : n' ≠ n := fun e => hne ⟨rfl, e⟩
    rcases cases13 hw with rfl | rfl | rfl | rfl | rfl | rfl | rfl | rfl | rfl | rfl | rfl | rfl | rfl <;> simp only [mi] <;> first | exact this | (simp [cnt] at hn hn'; omega)
  · by_cases q1 : w = 6 ∨ w = 7 ∨ w = 8
    · by_cases q2 : w' = 6 ∨ w' = 7 ∨ w' = 8
      · right
        rcases q1 with rfl | rfl | rfl <;> rcases q2 with rfl | rfl | rfl <;> simp [mi] at q ⊢
      · left
        have e1 : mc w = 45 := by rcases q1 with rfl | rfl | rfl <;> rfl
        rw [e1]
        rcases cases13 hw' with rfl | rfl | rfl | rfl | rfl | rfl | rfl | rfl | rfl | rfl | rfl | rfl | rfl <;> simp [mc] at q2 ⊢
    · left
      rcases cases13 hw with rfl | rfl | rfl | rfl | rfl | rfl | rfl | rfl | rfl | rfl | rfl | rfl | rfl <;> simp at q1 <;>
      rcases cases13 hw' with rfl | rfl | rfl | rfl | rfl | rfl | rfl | rfl | rfl | rfl | rfl | rfl | rfl <;> simp [mc] at q ⊢
theorem mc_not2 (w : Nat) : mc w ≠ 2 ∧ mc w ≠ 1 ∧ 45 ≤ mc w ∧ mc w ≤ 55 := by
  unfold mc; split <;> omega
theorem mi_45 {w n : Nat} (hw : w < 13) (h : mc w = 45) : mi w n = 8 ∨ mi w n = 9 ∨ mi w n = 10 := by
  rcases cases13 hw with rfl | rfl | rfl | rfl | rfl | rfl | rfl | rfl | rfl | rfl | rfl | rfl | rfl <;> simp [mc] at h <;> simp [mi]
theorem mi_12 {w n : Nat} (hw : w < 13) (h : mc w = 45) : mi w n < 12 := by
  rcases cases13 hw with rfl | rfl | rfl | rfl | rfl | rfl | rfl | rfl | rfl | rfl | rfl | rfl | rfl <;> simp [mc] at h <;> simp [mi]
theorem rN_set {T P : Nat} {h K : zm_H} (r : rN T P h) {w n : Nat} (hw : w < 13) (hn : n < cnt T P w) {v : Int32} (hv : w < 12 → fitW w v) (k1 : K.1 1 = h.1 1) (k2 : K.1 2 = (zm_ui h 2 (w * 8 + n) v).1 2)
    (k3 : ∀ a b, 45 ≤ a → a ≤ 55 → (a = 45 → b < 12) → K.1 a b = h.1 a b) : rN T P (zm_ui K (mc w) (mi w n) v) := by
  obtain ⟨⟨hT, hP, n1, n2, n3, n4⟩, N1, N2, N3⟩ := r
  have hm := mc_not2 w
  have hc := Nat.lt_of_lt_of_le hn (cnt_le hT (by omega) w)
  have h45 : ∀ b, b = 0 ∨ b = 11 → (zm_ui K (mc w) (mi w n) v).1 45 b = h.1 45 b := by
    intro b hb
    rw [← k3 45 b (by omega) (by omega) (by omega), ui_r, if_neg]
    rintro ⟨e1, e2⟩
    have := mi_45 (n := n) hw e1.symm
    omega
  refine ⟨⟨hT, hP, ?_, ?_, ?_, ?_⟩, ?_, ?_, ?_⟩
  · rw [ui_c (by omega), k1]; exact n1
  · rw [h45 _ (.inl rfl)]; exact n2
  · rw [ui_c (by omega), k1]; exact n3
  · rw [h45 _ (.inr rfl)]; exact n4
  · intro w' n' hw' hn'
    have hc' := Nat.lt_of_lt_of_le hn' (cnt_le hT (by omega) w')
    rw [ui_c (c := mc w) (a := 2) (by omega), k2]
    by_cases q : w' = w ∧ n' = n
    · obtain ⟨rfl, rfl⟩ := q
      rw [ui_s, ui_s]
    · have := mcmi hT hP hw hw' hn hn' q
      rw [ui_r, if_neg (by omega), k3 _ _ (mc_not2 w').2.2.1 (mc_not2 w').2.2.2 (mi_12 hw'), N1 w' n' hw' hn', ui_k]
      intro e
      exact q (by omega)
  · intro w' n' hw' hn'
    have hc' := Nat.lt_of_lt_of_le hn' (cnt_le hT (by omega) w')
    rw [ui_c (c := mc w) (a := 2) (by omega), k2]
    by_cases q : w' = w ∧ n' = n
    · obtain ⟨rfl, rfl⟩ := q
      rw [ui_s]; exact hv hw'
    · rw [ui_k (by intro e; exact q (by omega))]; exact N2 w' n' hw' hn'
  · intro t h1 h2
    have g : ∀ b, b ≠ w * 8 + n → (zm_ui K (mc w) (mi w n) v).1 2 b = h.1 2 b := fun b hb => by rw [ui_c (by omega), k2, ui_k hb]
    rw [g, g]
    · exact N3 t h1 h2
    · intro e
      have : w = 12 ∧ n = t := by omega
      obtain ⟨rfl, rfl⟩ := this
      simp [cnt] at hn; omega
    · intro e
      have : w = 4 ∧ n = t := by omega
      obtain ⟨rfl, rfl⟩ := this
      simp [cnt] at hn; omega
