/-! back -/
theorem layBack_s (d : Nat) {T P : Nat} (hT : T ≤ 8) (hP : P ≤ 6) : ∀ (k i : Nat) (h : zm_H), i + k = 8 → h.1 1 1 = iN T → h.1 1 2 = iN P → ∃ K, fLe_layTiesBack_c2 (d + 4) 26 (iN i) h = some (none, K) ∧ (∀ a, a ≠ 2 → K.1 a = h.1 a) ∧ K.2 = h.2 ∧
    (∀ b, (b < 32 ∨ 40 ≤ b) → (b < 96 ∨ 104 ≤ b) → K.1 2 b = h.1 2 b) ∧ (∀ t, t < 8 → (t < i ∨ T ≤ t) → K.1 2 (32 + t) = h.1 2 (32 + t) ∧ K.1 2 (96 + t) = h.1 2 (96 + t)) ∧
    (∀ t, t < T → i ≤ t → K.1 2 (32 + t) = h.1 27 t ∧ K.1 2 (96 + t) = h.1 28 t) := by
  intro k
  induction k with
  | zero =>
    intro i h hi e1 e2
    obtain rfl : i = 8 := by omega
    refine ⟨h, ?_, fun _ _ => rfl, rfl, fun _ _ _ => rfl, fun t _ _ => ⟨rfl, rfl⟩, fun t h1 h2 => absurd h1 (by omega)⟩
    rw [fLe_layTiesBack_c2_eq, cT (by decide)]
  | succ k ih =>
    intro i h hi e1 e2
    have hw4 : cnt T P 4 = T := rfl
    have hw12 : cnt T P 12 = T := rfl
    by_cases q : i < T
    · obtain ⟨K, f, k1, k2, k3, k4, k5⟩ := ih (i + 1) (zm_ui (zm_ui h 2 (4 * 8 + i) (h.1 27 i)) 2 (12 * 8 + i) (h.1 28 i)) (by omega) (by simp (disch := omega) only [ui_c]; exact e1) (by simp (disch := omega) only [ui_c]; exact e2)
      refine ⟨K, ?_, ?_, ?_, ?_, ?_, ?_⟩
      · rw [fLe_layTiesBack_c2_eq, cF (by simp (disch := omega) only [iN_add, iN_addl, iN_addr, iN_mul, iN_mull, iN_mulr, iN_sub, iN_subl, iN_subr, iN_c, iN_lt, iN_ltl, iN_ltr, iN_le, iN_lel, iN_ler, iN_eq, iN_eql, iN_eqr]; omega), isO_26, Bool.cond_true, rt_26_0, gR_27 (by omega), Bool.cond_true, iN_c (by omega)]
        rw [write_s d hT (by omega) e1 e2 (x := 4) (w := 4) rfl (by omega) q, bV, Bool.cond_true, rt_26_1, gR_28 (by omega), Bool.cond_true]
        rw [write_s d (T := T) (P := P) (h := zm_ui h 2 (4 * 8 + i) (h.1 27 i)) hT (by omega) (by simp (disch := omega) only [ui_c]; exact e1) (by simp (disch := omega) only [ui_c]; exact e2) (x := 12) (w := 12) rfl (by omega) q, bV]
        simp (disch := omega) only [ui_c, iN_addr]
        exact f
      · intro a h1
        rw [k1 a h1]; simp (disch := omega) only [ui_f]
      · rw [k2]; rfl
      · intro b h1 h2
        rw [k3 b h1 h2]; simp (disch := omega) only [ui_k]
      · intro t h1 h2
        rw [(k4 t h1 (by omega)).1, (k4 t h1 (by omega)).2]; simp (disch := omega) only [ui_k, and_self]
      · intro t h1 h2
        by_cases e : t = i
        · subst e
          rw [(k4 t (by omega) (by omega)).1, (k4 t (by omega) (by omega)).2]
          rw [show 32 + t = 4 * 8 + t by omega, show 96 + t = 12 * 8 + t by omega]
          simp (disch := omega) only [ui_s, ui_k, and_self]
        · have := k5 t h1 (by omega)
          simp (disch := omega) only [ui_c] at this
          exact this
    · obtain ⟨K, f, k1, k2, k3, k4, k5⟩ := ih (i + 1) h (by omega) e1 e2
      refine ⟨K, ?_, k1, k2, k3, fun t h1 h2 => k4 t h1 (by omega), fun t h1 h2 => k5 t h1 (by omega)⟩
      rw [fLe_layTiesBack_c2_eq, cF (by simp (disch := omega) only [iN_add, iN_addl, iN_addr, iN_mul, iN_mull, iN_mulr, iN_sub, iN_subl, iN_subr, iN_c, iN_lt, iN_ltl, iN_ltr, iN_le, iN_lel, iN_ler, iN_eq, iN_eql, iN_eqr]; omega), isO_26, Bool.cond_true, rt_26_0, gR_27 (by omega), Bool.cond_true, iN_c (by omega)]
      rw [write_n d (T := T) (P := P) hT (by omega) e1 e2 (x := 4) (w := 4) rfl (by omega) (by rw [hw4]; omega) (by omega), bV, Bool.cond_true, rt_26_1, gR_28 (by omega), Bool.cond_true]
      rw [write_n d (T := T) (P := P) hT (by omega) e1 e2 (x := 12) (w := 12) rfl (by omega) (by rw [hw12]; omega) (by omega), bV, iN_addr]
      exact f
theorem mback74_s (d : Nat) : ∀ (k i : Nat) (h : zm_H), i + k = 4 → ∃ K, fM_back_c74 (d + 1) (iN i) h = some (some (.int (K.1 66 0)), K) ∧ (∀ a, a ≠ 66 → K.1 a = h.1 a) ∧ K.2 = h.2 ∧
    (∀ t, t < 4 → i ≤ t → K.1 66 t = h.1 69 t) ∧ (∀ t, t < i → K.1 66 t = h.1 66 t) := by
  intro k
  induction k with
  | zero =>
    intro i h hi
    obtain rfl : i = 4 := by omega
    refine ⟨h, ?_, fun _ _ => rfl, rfl, fun t h1 h2 => absurd h1 (by omega), fun t _ => rfl⟩
    rw [fM_back_c74_eq, cT (by decide)]
    simp (disch := omega) only [bI, bJ, bV, cN, zi_0, zi_z, Bool.cond_true, Bool.cond_false, decide_true, decide_false, decide_eq_true_eq, Bool.cond_decide, if_true, if_false, ofN12, Bool.not_not, zi_t, zi_f, gR_2, hR_2, gW_2, hW_2, gR_4, hR_4, gW_4, hW_4, gR_5, hR_5, gW_5, hW_5, gR_6, hR_6, gW_6, hW_6, gR_7, hR_7, gW_7, hW_7, gR_9, hR_9, gW_9, hW_9, gR_10, hR_10, gW_10, hW_10, gR_12, hR_12, gW_12, hW_12, gR_13, hR_13, gW_13, hW_13, gR_16, hR_16, gW_16, hW_16, gR_17, hR_17, gW_17, hW_17, gR_18, hR_18, gW_18, hW_18, gR_19, hR_19, gW_19, hW_19, gR_20, hR_20, gW_20, hW_20, gR_21, hR_21, gW_21, hW_21, gR_22, hR_22, gW_22, hW_22, gR_24, hR_24, gW_24, hW_24, gR_25, hR_25, gW_25, hW_25, gR_27, hR_27, gW_27, hW_27, gR_28, hR_28, gW_28, hW_28, gR_30, hR_30, gW_30, hW_30, gR_31, hR_31, gW_31, hW_31, gR_46, hR_46, gW_46, hW_46, gR_47, hR_47, gW_47, hW_47, gR_48, hR_48, gW_48, hW_48, gR_49, hR_49, gW_49, hW_49, gR_50, hR_50, gW_50, hW_50, gR_51, hR_51, gW_51, hW_51, gR_52, hR_52, gW_52, hW_52, gR_53, hR_53, gW_53, hW_53, gR_54, hR_54, gW_54, hW_54, gR_55, hR_55, gW_55, hW_55, gR_56, hR_56, gW_56, hW_56, gR_57, hR_57, gW_57, hW_57, gR_58, hR_58, gW_58, hW_58, gR_59, hR_59, gW_59, hW_59, gR_60, hR_60, gW_60, hW_60, gR_61, hR_61, gW_61, hW_61, gR_62, hR_62, gW_62, hW_62, gR_63, hR_63, gW_63, hW_63, gR_64, hR_64, gW_64, hW_64, gR_65, hR_65, gW_65, hW_65, gR_66, hR_66, gW_66, hW_66, gR_67, hR_67, gW_67, hW_67, gR_68, hR_68, gW_68, hW_68, gR_69, hR_69, gW_69, hW_69, gR_70, hR_70, gW_70, hW_70, gR_71, hR_71, gW_71, hW_71, gR_72, hR_72, gW_72, hW_72, gR_73, hR_73, gW_73, hW_73, gR_74, hR_74, gW_74, hW_74, gR_76, hR_76, gW_76, hW_76, gR_77, hR_77, gW_77, hW_77, gR_78, hR_78, gW_78, hW_78, gR_79, hR_79, gW_79, hW_79, gR_80, hR_80, gW_80, hW_80, gR_81, hR_81, gW_81, hW_81, gR_82, hR_82, gW_82, hW_82, gR_1000, hR_1000, gR_1001, hR_1001, gR_1002, hR_1002, gR_1003, hR_1003, gJ_39, gJ_40, gJ_41, gJ_42, gJ_43, gJ_44, gJ_75, gQ_32, c_0]
  | succ k ih =>
    intro i h hi
    obtain ⟨K, f, k1, k2, k3, k4⟩ := ih (i + 1) (zm_ui h 66 i (h.1 69 i)) (by omega)
    refine ⟨K, ?_, ?_, ?_, ?_, ?_⟩
    · rw [fM_back_c74_eq, cF (by simp (disch := omega) only [iN_add, iN_addl, iN_addr, iN_mul, iN_mull, iN_mulr, iN_sub, iN_subl, iN_subr, iN_c, iN_lt, iN_ltl, iN_ltr, iN_le, iN_lel, iN_ler, iN_eq, iN_eql, iN_eqr]; omega)]
      simp (disch := omega) only [bI, bJ, bV, cN, zi_0, zi_z, Bool.cond_true, Bool.cond_false, decide_true, decide_false, decide_eq_true_eq, Bool.cond_decide, if_true, if_false, ofN12, Bool.not_not, zi_t, zi_f, iN_add, iN_addl, iN_addr, iN_mul, iN_mull, iN_mulr, iN_sub, iN_subl, iN_subr, iN_c, iN_lt, iN_ltl, iN_ltr, iN_le, iN_lel, iN_ler, iN_eq, iN_eql, iN_eqr, gR_2, hR_2, gW_2, hW_2, gR_4, hR_4, gW_4, hW_4, gR_5, hR_5, gW_5, hW_5, gR_6, hR_6, gW_6, hW_6, gR_7, hR_7, gW_7, hW_7, gR_9, hR_9, gW_9, hW_9, gR_10, hR_10, gW_10, hW_10, gR_12, hR_12, gW_12, hW_12, gR_13, hR_13, gW_13, hW_13, gR_16, hR_16, gW_16, hW_16, gR_17, hR_17, gW_17, hW_17, gR_18, hR_18, gW_18, hW_18, gR_19, hR_19, gW_19, hW_19, gR_20, hR_20, gW_20, hW_20, gR_21, hR_21, gW_21, hW_21, gR_22, hR_22, gW_22, hW_22, gR_24, hR_24, gW_24, hW_24, gR_25, hR_25, gW_25, hW_25, gR_27, hR_27, gW_27, hW_27, gR_28, hR_28, gW_28, hW_28, gR_30, hR_30, gW_30, hW_30, gR_31, hR_31, gW_31, hW_31, gR_46, hR_46, gW_46, hW_46, gR_47, hR_47, gW_47, hW_47, gR_48, hR_48, gW_48, hW_48, gR_49, hR_49, gW_49, hW_49, gR_50, hR_50, gW_50, hW_50, gR_51, hR_51, gW_51, hW_51, gR_52, hR_52, gW_52, hW_52, gR_53, hR_53, gW_53, hW_53, gR_54, hR_54, gW_54, hW_54, gR_55, hR_55, gW_55, hW_55, gR_56, hR_56, gW_56, hW_56, gR_57, hR_57, gW_57, hW_57, gR_58, hR_58, gW_58, hW_58, gR_59, hR_59, gW_59, hW_59, gR_60, hR_60, gW_60, hW_60, gR_61, hR_61, gW_61, hW_61, gR_62, hR_62, gW_62, hW_62, gR_63, hR_63, gW_63, hW_63, gR_64, hR_64, gW_64, hW_64, gR_65, hR_65, gW_65, hW_65, gR_66, hR_66, gW_66, hW_66, gR_67, hR_67, gW_67, hW_67, gR_68, hR_68, gW_68, hW_68, gR_69, hR_69, gW_69, hW_69, gR_70, hR_70, gW_70, hW_70, gR_71, hR_71, gW_71, hW_71, gR_72, hR_72, gW_72, hW_72, gR_73, hR_73, gW_73, hW_73, gR_74, hR_74, gW_74, hW_74, gR_76, hR_76, gW_76, hW_76, gR_77, hR_77, gW_77, hW_77, gR_78, hR_78, gW_78, hW_78, gR_79, hR_79, gW_79, hW_79, gR_80, hR_80, gW_80, hW_80, gR_81, hR_81, gW_81, hW_81, gR_82, hR_82, gW_82, hW_82, gR_1000, hR_1000, gR_1001, hR_1001, gR_1002, hR_1002, gR_1003, hR_1003, gJ_39, gJ_40, gJ_41, gJ_42, gJ_43, gJ_44, gJ_75, gQ_32]
      exact f
    · intro a h1
      rw [k1 a h1]; simp (disch := omega) only [ui_f]
    · rw [k2]; rfl
    · intro t h1 h2
      by_cases q : t = i
      · subst q
        rw [k4 t (by omega), ui_s]
      · rw [k3 t h1 (by omega), ui_c (by omega)]
    · intro t h1
      rw [k4 t (by omega), ui_k (by omega)]
theorem mback12_s (d : Nat) {O : Nat} (hO : O ≤ 8) : ∀ (k i : Nat) (h : zm_H), i + k = 8 → h.1 45 34 = iN O → ∃ K, fM_back_c12 (d + 1) (iN i) h = some (some (.int (K.1 66 0)), K) ∧ (∀ a, a ≠ 50 → a ≠ 51 → a ≠ 66 → K.1 a = h.1 a) ∧ K.2 = h.2 ∧
    (∀ t, t < 4 → K.1 66 t = h.1 69 t) ∧ (∀ t, t < 8 → i ≤ t → K.1 50 t = (if t < O then h.1 67 t else 0) ∧ K.1 51 t = (if t < O then h.1 68 t else 0)) ∧ (∀ t, t < i → K.1 50 t = h.1 50 t ∧ K.1 51 t = h.1 51 t) := by
  intro k
  induction k with
  | zero =>
    intro i h hi eO
    obtain rfl : i = 8 := by omega
    obtain ⟨K, f, k1, k2, k3, k4⟩ := mback74_s d 4 0 h (by omega)
    refine ⟨K, ?_, fun a _ _ h3 => k1 a h3, k2, fun t ht => k3 t ht (by omega), fun t h1 h2 => absurd h1 (by omega), fun t _ => ?_⟩
    · rw [fM_back_c12_eq, cT (by decide)]; exact f
    · rw [k1 _ (by omega), k1 _ (by omega)]; exact ⟨rfl, rfl⟩
  | succ k ih =>
    intro i h hi eO
    obtain ⟨K, f, k1, k2, k3, k4, k5⟩ := ih (i + 1) (zm_ui (zm_ui h 50 i (if i < O then h.1 67 i else 0)) 51 i (if i < O then h.1 68 i else 0)) (by omega) (by simp (disch := omega) only [ui_c]; exact eO)
    refine ⟨K, ?_, ?_, ?_, ?_, ?_, ?_⟩
    · rw [fM_back_c12_eq, cF (by simp (disch := omega) only [iN_add, iN_addl, iN_addr, iN_mul, iN_mull, iN_mulr, iN_sub, iN_subl, iN_subr, iN_c, iN_lt, iN_ltl, iN_ltr, iN_le, iN_lel, iN_ler, iN_eq, iN_eql, iN_eqr]; omega)]
      by_cases q : i < O
      · rw [if_pos q, if_pos q] at f
        simp (disch := omega) only [bI, bJ, bV, cN, zi_0, zi_z, Bool.cond_true, Bool.cond_false, decide_true, decide_false, decide_eq_true_eq, Bool.cond_decide, if_true, if_false, ofN12, Bool.not_not, zi_t, zi_f, iN_add, iN_addl, iN_addr, iN_mul, iN_mull, iN_mulr, iN_sub, iN_subl, iN_subr, iN_c, iN_lt, iN_ltl, iN_ltr, iN_le, iN_lel, iN_ler, iN_eq, iN_eql, iN_eqr, gR_2, hR_2, gW_2, hW_2, gR_4, hR_4, gW_4, hW_4, gR_5, hR_5, gW_5, hW_5, gR_6, hR_6, gW_6, hW_6, gR_7, hR_7, gW_7, hW_7, gR_9, hR_9, gW_9, hW_9, gR_10, hR_10, gW_10, hW_10, gR_12, hR_12, gW_12, hW_12, gR_13, hR_13, gW_13, hW_13, gR_16, hR_16, gW_16, hW_16, gR_17, hR_17, gW_17, hW_17, gR_18, hR_18, gW_18, hW_18, gR_19, hR_19, gW_19, hW_19, gR_20, hR_20, gW_20, hW_20, gR_21, hR_21, gW_21, hW_21, gR_22, hR_22, gW_22, hW_22, gR_24, hR_24, gW_24, hW_24, gR_25, hR_25, gW_25, hW_25, gR_27, hR_27, gW_27, hW_27, gR_28, hR_28, gW_28, hW_28, gR_30, hR_30, gW_30, hW_30, gR_31, hR_31, gW_31, hW_31, gR_46, hR_46, gW_46, hW_46, gR_47, hR_47, gW_47, hW_47, gR_48, hR_48, gW_48, hW_48, gR_49, hR_49, gW_49, hW_49, gR_50, hR_50, gW_50, hW_50, gR_51, hR_51, gW_51, hW_51, gR_52, hR_52, gW_52, hW_52, gR_53, hR_53, gW_53, hW_53, gR_54, hR_54, gW_54, hW_54, gR_55, hR_55, gW_55, hW_55, gR_56, hR_56, gW_56, hW_56, gR_57, hR_57, gW_57, hW_57, gR_58, hR_58, gW_58, hW_58, gR_59, hR_59, gW_59, hW_59, gR_60, hR_60, gW_60, hW_60, gR_61, hR_61, gW_61, hW_61, gR_62, hR_62, gW_62, hW_62, gR_63, hR_63, gW_63, hW_63, gR_64, hR_64, gW_64, hW_64, gR_65, hR_65, gW_65, hW_65, gR_66, hR_66, gW_66, hW_66, gR_67, hR_67, gW_67, hW_67, gR_68, hR_68, gW_68, hW_68, gR_69, hR_69, gW_69, hW_69, gR_70, hR_70, gW_70, hW_70, gR_71, hR_71, gW_71, hW_71, gR_72, hR_72, gW_72, hW_72, gR_73, hR_73, gW_73, hW_73, gR_74, hR_74, gW_74, hW_74, gR_76, hR_76, gW_76, hW_76, gR_77, hR_77, gW_77, hW_77, gR_78, hR_78, gW_78, hW_78, gR_79, hR_79, gW_79, hW_79, gR_80, hR_80, gW_80, hW_80, gR_81, hR_81, gW_81, hW_81, gR_82, hR_82, gW_82, hW_82, gR_1000, hR_1000, gR_1001, hR_1001, gR_1002, hR_1002, gR_1003, hR_1003, gJ_39, gJ_40, gJ_41, gJ_42, gJ_43, gJ_44, gJ_75, gQ_32, ui_c, eO]
        rw [if_neg (by omega), if_neg (by omega)]
        exact f
      · rw [if_neg q, if_neg q] at f
        simp (disch := omega) only [bI, bJ, bV, cN, zi_0, zi_z, Bool.cond_true, Bool.cond_false, decide_true, decide_false, decide_eq_true_eq, Bool.cond_decide, if_true, if_false, ofN12, Bool.not_not, zi_t, zi_f, iN_add, iN_addl, iN_addr, iN_mul, iN_mull, iN_mulr, iN_sub, iN_subl, iN_subr, iN_c, iN_lt, iN_ltl, iN_ltr, iN_le, iN_lel, iN_ler, iN_eq, iN_eql, iN_eqr, gR_2, hR_2, gW_2, hW_2, gR_4, hR_4, gW_4, hW_4, gR_5, hR_5, gW_5, hW_5, gR_6, hR_6, gW_6, hW_6, gR_7, hR_7, gW_7, hW_7, gR_9, hR_9, gW_9, hW_9, gR_10, hR_10, gW_10, hW_10, gR_12, hR_12, gW_12, hW_12, gR_13, hR_13, gW_13, hW_13, gR_16, hR_16, gW_16, hW_16, gR_17, hR_17, gW_17, hW_17, gR_18, hR_18, gW_18, hW_18, gR_19, hR_19, gW_19, hW_19, gR_20, hR_20, gW_20, hW_20, gR_21, hR_21, gW_21, hW_21, gR_22, hR_22, gW_22, hW_22, gR_24, hR_24, gW_24, hW_24, gR_25, hR_25, gW_25, hW_25, gR_27, hR_27, gW_27, hW_27, gR_28, hR_28, gW_28, hW_28, gR_30, hR_30, gW_30, hW_30, gR_31, hR_31, gW_31, hW_31, gR_46, hR_46, gW_46, hW_46, gR_47, hR_47, gW_47, hW_47, gR_48, hR_48, gW_48, hW_48, gR_49, hR_49, gW_49, hW_49, gR_50, hR_50, gW_50, hW_50, gR_51, hR_51, gW_51, hW_51, gR_52, hR_52, gW_52, hW_52, gR_53, hR_53, gW_53, hW_53, gR_54, hR_54, gW_54, hW_54, gR_55, hR_55, gW_55, hW_55, gR_56, hR_56, gW_56, hW_56, gR_57, hR_57, gW_57, hW_57, gR_58, hR_58, gW_58, hW_58, gR_59, hR_59, gW_59, hW_59, gR_60, hR_60, gW_60, hW_60, gR_61, hR_61, gW_61, hW_61, gR_62, hR_62, gW_62, hW_62, gR_63, hR_63, gW_63, hW_63, gR_64, hR_64, gW_64, hW_64, gR_65, hR_65, gW_65, hW_65, gR_66, hR_66, gW_66, hW_66, gR_67, hR_67, gW_67, hW_67, gR_68, hR_68, gW_68, hW_68, gR_69, hR_69, gW_69, hW_69, gR_70, hR_70, gW_70, hW_70, gR_71, hR_71, gW_71, hW_71, gR_72, hR_72, gW_72, hW_72, gR_73, hR_73, gW_73, hW_73, gR_74, hR_74, gW_74, hW_74, gR_76, hR_76, gW_76, hW_76, gR_77, hR_77, gW_77, hW_77, gR_78, hR_78, gW_78, hW_78, gR_79, hR_79, gW_79, hW_79, gR_80, hR_80, gW_80, hW_80, gR_81, hR_81, gW_81, hW_81, gR_82, hR_82, gW_82, hW_82, gR_1000, hR_1000, gR_1001, hR_1001, gR_1002, hR_1002, gR_1003, hR_1003, gJ_39, gJ_40, gJ_41, gJ_42, gJ_43, gJ_44, gJ_75, gQ_32, ui_c, eO]
        rw [if_pos (by omega), if_pos (by omega)]
        exact f
    · intro a h1 h2 h3
      rw [k1 a h1 h2 h3]; simp (disch := omega) only [ui_f]
    · rw [k2]; rfl
    · intro t h1
      rw [k3 t h1]; simp (disch := omega) only [ui_c]
    · intro t h1 h2
      by_cases q : t = i
      · subst q
        rw [(k5 t (by omega)).1, (k5 t (by omega)).2]
        simp (disch := omega) only [ui_s, ui_c, and_self]
      · have := k4 t h1 (by omega)
        simp (disch := omega) only [ui_c] at this
        exact this
    · intro t h1
      rw [(k5 t (by omega)).1, (k5 t (by omega)).2]
      simp (disch := omega) only [ui_k, ui_c, and_self]
theorem K_back (d : Nat) {L : Nat} {xs : Nat → Int32} {h : zm_H} (r : RR L xs h) : okC L xs (fE_back (d + 6)) (fM_back (d + 6)) h := by
  have r0 := r
  obtain ⟨T, P, D, A, S, B, Q, W, N, C, T', Lw, G, I, Bd, Sh⟩ := r
  have N0 := N
  obtain ⟨⟨hT, hP, n1, n2, n3, n4⟩, N1, N2, N3⟩ := N
  have I0 := I
  obtain ⟨i1, i2 | ⟨i2, i3, i4, i5, i6, O, hO, i7, i8, i9⟩⟩ := I
  · refine okC_same r0 (-5) ?_ ?_
    · rw [fE_back_eq, i2, cN, cT rfl]
    · rw [fM_back_eq, i1, i2, cN, cT rfl]
  · obtain ⟨K, f, k1, k2, k3, k4, k5⟩ := layBack_s (d + 1) hT hP 8 0 (zm_ui (zm_ui (zm_ui (zm_ui h 23 2 (h.1 26 2)) 23 3 (h.1 26 3)) 23 4 (h.1 26 4)) 23 5 (h.1 26 5)) (by omega) (by simp (disch := omega) only [ui_c]; exact n1) (by simp (disch := omega) only [ui_c]; exact n3)
    have hE : fE_back (d + 6) h = some (some (.int (h.1 26 2)), K) := by
      rw [fE_back_eq, i2, cN, cF (by decide), fLe_copyFrom_eq, isO_26, isO_23]
      simp (disch := omega) only [bI, bJ, bV, cN, zi_0, zi_z, Bool.cond_true, Bool.cond_false, decide_true, decide_false, decide_eq_true_eq, Bool.cond_decide, if_true, if_false, ofN12, Bool.not_not, zi_t, zi_f, ui_s, ui_k, ui_c]
      rw [fLe_layTiesBack_eq, show (0 : Int32) = iN 0 from rfl, f]
      simp (disch := omega) only [bI, bJ, bV, cN, zi_0, zi_z, Bool.cond_true, Bool.cond_false, decide_true, decide_false, decide_eq_true_eq, Bool.cond_decide, if_true, if_false, ofN12, Bool.not_not, zi_t, zi_f, ui_s, ui_k, ui_c, k1]
    have e45 : K.1 45 = h.1 45 := by simp (disch := omega) only [k1, ui_f]
    obtain ⟨M, m0, m1, m2, m3, m4, m5⟩ := mback12_s (d + 5) (by omega : O ≤ 8) 8 0 K (by omega) (by rw [e45]; exact i7)
    have hM : fM_back (d + 6) K = some (some (.int (h.1 26 2)), M) := by
      rw [fM_back_eq, e45, i1, i2, cN, cF (by decide), show (0 : Int32) = iN 0 from rfl, m0, m3 0 (by omega)]
      simp (disch := omega) only [ui_s, ui_k, ui_c, k1, i3]
    refine ⟨_, _, _, hE, hM, T, P, D, A, S, B, Q, rW_d ?_ W, rN_wt N0 ?_ ?_ ?_ ?_ ?_ ?_, rC_d ?_ C, rT_d ?_ T', rL_d ?_ Lw, ⟨?_, ?_, ?_, ?_⟩, rI_d ?_ I0, rB_d ?_ Bd, rS_d ?_ Sh⟩
    · simp (disch := omega) only [dW, ui_f, ui_c, ui_k, ui_2, ul_1, ul_f, m1, k1, and_self]
    · simp (disch := omega) only [m1, k1, ui_f]
    · intro b h1 h2
      rw [m1 2 (by omega) (by omega) (by omega), k3 b h1 h2]
      simp (disch := omega) only [ui_c]
    · intro t ht
      rw [(m4 t (by omega) (by omega)).1, (m4 t (by omega) (by omega)).2, m1 2 (by omega) (by omega) (by omega), (k5 t ht (by omega)).1, (k5 t ht (by omega)).2]
      simp (disch := omega) only [ui_c, k1]
      by_cases q : t < O
      · rw [if_pos q, if_pos q]; exact ⟨(i8 t q).1, (i8 t q).2.1⟩
      · rw [if_neg q, if_neg q, (i9 t (by omega) (by omega)).1, (i9 t (by omega) (by omega)).2]; exact ⟨rfl, rfl⟩
    · intro t h1 h2
      rw [m1 2 (by omega) (by omega) (by omega), (k4 t h2 (.inr h1)).1, (k4 t h2 (.inr h1)).2]
      simp (disch := omega) only [ui_c]
      exact N3 t h1 h2
    · intro t ht
      rw [m1 2 (by omega) (by omega) (by omega), (k5 t ht (by omega)).1]
      simp (disch := omega) only [ui_c]
      by_cases q : t < O
      · exact (i8 t q).2.2
      · rw [(i9 t (by omega) (by omega)).1]; decide
    · intro a h1 h2 h3 h4
      simp (disch := omega) only [m1, k1, ui_f]
    · simp (disch := omega) only [dC, ui_f, ui_c, ui_k, ui_2, ul_1, ul_f, m1, k1, and_self]
    · simp (disch := omega) only [dT, ui_f, ui_c, ui_k, ui_2, ul_1, ul_f, m1, k1, and_self]
    · simp (disch := omega) only [dL, ui_f, ui_c, ui_k, ui_2, ul_1, ul_f, m1, k1, and_self]
    · rw [m3 0 (by omega)]; simp (disch := omega) only [ui_s, ui_k, ui_c, k1, m1]; exact i3
    · rw [m3 1 (by omega)]; simp (disch := omega) only [ui_s, ui_k, ui_c, k1, m1]; exact i4
    · rw [m3 2 (by omega)]; simp (disch := omega) only [ui_s, ui_k, ui_c, k1, m1]; exact i5
    · rw [m3 3 (by omega)]; simp (disch := omega) only [ui_s, ui_k, ui_c, k1, m1]; exact i6
    · simp (disch := omega) only [dI, ui_f, ui_c, ui_k, ui_2, ul_1, ul_f, m1, k1, and_self]
    · simp (disch := omega) only [dB, ui_f, ui_c, ui_k, ui_2, ul_1, ul_f, m1, k1, and_self]
    · simp (disch := omega) only [dS, ui_f, ui_c, ui_k, ui_2, ul_1, ul_f, m1, k1, m2, k2, and_self]
