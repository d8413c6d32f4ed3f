/-! row, put, element -/
theorem fillJ_s (d : Nat) {s : Nat} (hs : s < 6) : ∀ (k i : Nat) (h : zm_H), i + k = 60 → ∃ K, fJa_fillJ_c6 (d + 1) (39 + s) 0 (iN i) (iN 60) h = some (none, K) ∧ K.1 = h.1 ∧ (∀ a, a ≠ 39 + s → K.2 a = h.2 a) ∧
    (∀ b, b < 60 → i ≤ b → K.2 (39 + s) b = 0) ∧ (∀ b, b < i → K.2 (39 + s) b = h.2 (39 + s) b) := by
  intro k
  induction k with
  | zero =>
    intro i h hi
    obtain rfl : i = 60 := by omega
    refine ⟨h, ?_, rfl, fun _ _ => rfl, fun b h1 h2 => absurd h1 (by omega), fun b _ => rfl⟩
    rw [fJa_fillJ_c6_eq, cT (by decide)]
  | succ k ih =>
    intro i h hi
    obtain ⟨K, f, k1, k2, k3, k4⟩ := ih (i + 1) (zm_ul h (39 + s) i 0) (by omega)
    refine ⟨K, ?_, ?_, ?_, ?_, ?_⟩
    · rw [fJa_fillJ_c6_eq, cF (by simp (disch := omega) only [iN_add, iN_addl, iN_addr, iN_mul, iN_mull, iN_mulr, iN_sub, iN_subl, iN_subr, iN_c, iN_lt, iN_ltl, iN_ltr, iN_le, iN_lel, iN_ler, iN_eq, iN_eql, iN_eqr]; omega), gJ39 hs (by omega), iN_c (by omega), iN_addr]
      exact f
    · rw [k1]; rfl
    · intro a h1
      rw [k2 a h1, ul_f h1]
    · intro b h1 h2
      by_cases q : b = i
      · subst q
        rw [k4 b (by omega), ul_s]
      · exact k3 b h1 (by omega)
    · intro b h1
      rw [k4 b (by omega), ul_k (by omega)]
theorem mrow_s (d : Nat) {s : Nat} (hs : s < 6) : ∀ (k i : Nat) (h : zm_H), i + k = 60 → ∃ K, fM_row_c48 (d + 1) (iN s) (iN i) h = some (some (.int 1), K) ∧ K.1 = h.1 ∧ (∀ a, a ≠ 75 → K.2 a = h.2 a) ∧
    (∀ b, b < 60 → i ≤ b → K.2 75 (60 * s + b) = 0) ∧ (∀ b, (b < 60 * s + i ∨ 60 * s + 60 ≤ b) → K.2 75 b = h.2 75 b) := by
  intro k
  induction k with
  | zero =>
    intro i h hi
    obtain rfl : i = 60 := by omega
    refine ⟨h, ?_, rfl, fun _ _ => rfl, fun b h1 h2 => absurd h1 (by omega), fun b _ => rfl⟩
    rw [fM_row_c48_eq, cT (by decide)]
  | succ k ih =>
    intro i h hi
    obtain ⟨K, f, k1, k2, k3, k4⟩ := ih (i + 1) (zm_ul h 75 (60 * s + i) 0) (by omega)
    refine ⟨K, ?_, ?_, ?_, ?_, ?_⟩
    · rw [fM_row_c48_eq, cF (by simp (disch := omega) only [iN_add, iN_addl, iN_addr, iN_mul, iN_mull, iN_mulr, iN_sub, iN_subl, iN_subr, iN_c, iN_lt, iN_ltl, iN_ltr, iN_le, iN_lel, iN_ler, iN_eq, iN_eql, iN_eqr]; omega)]
      simp (disch := omega) only [bI, bJ, bV, cN, zi_0, zi_z, Bool.cond_true, Bool.cond_false, decide_true, decide_false, decide_eq_true_eq, Bool.cond_decide, if_true, if_false, ofN12, Bool.not_not, zi_t, zi_f, iN_add, iN_addl, iN_addr, iN_mul, iN_mull, iN_mulr, iN_sub, iN_subl, iN_subr, iN_c, iN_lt, iN_ltl, iN_ltr, iN_le, iN_lel, iN_ler, iN_eq, iN_eql, iN_eqr, gR_2, hR_2, gW_2, hW_2, gR_4, hR_4, gW_4, hW_4, gR_5, hR_5, gW_5, hW_5, gR_6, hR_6, gW_6, hW_6, gR_7, hR_7, gW_7, hW_7, gR_9, hR_9, gW_9, hW_9, gR_10, hR_10, gW_10, hW_10, gR_12, hR_12, gW_12, hW_12, gR_13, hR_13, gW_13, hW_13, gR_16, hR_16, gW_16, hW_16, gR_17, hR_17, gW_17, hW_17, gR_18, hR_18, gW_18, hW_18, gR_19, hR_19, gW_19, hW_19, gR_20, hR_20, gW_20, hW_20, gR_21, hR_21, gW_21, hW_21, gR_22, hR_22, gW_22, hW_22, gR_24, hR_24, gW_24, hW_24, gR_25, hR_25, gW_25, hW_25, gR_27, hR_27, gW_27, hW_27, gR_28, hR_28, gW_28, hW_28, gR_30, hR_30, gW_30, hW_30, gR_31, hR_31, gW_31, hW_31, gR_46, hR_46, gW_46, hW_46, gR_47, hR_47, gW_47, hW_47, gR_48, hR_48, gW_48, hW_48, gR_49, hR_49, gW_49, hW_49, gR_50, hR_50, gW_50, hW_50, gR_51, hR_51, gW_51, hW_51, gR_52, hR_52, gW_52, hW_52, gR_53, hR_53, gW_53, hW_53, gR_54, hR_54, gW_54, hW_54, gR_55, hR_55, gW_55, hW_55, gR_56, hR_56, gW_56, hW_56, gR_57, hR_57, gW_57, hW_57, gR_58, hR_58, gW_58, hW_58, gR_59, hR_59, gW_59, hW_59, gR_60, hR_60, gW_60, hW_60, gR_61, hR_61, gW_61, hW_61, gR_62, hR_62, gW_62, hW_62, gR_63, hR_63, gW_63, hW_63, gR_64, hR_64, gW_64, hW_64, gR_65, hR_65, gW_65, hW_65, gR_66, hR_66, gW_66, hW_66, gR_67, hR_67, gW_67, hW_67, gR_68, hR_68, gW_68, hW_68, gR_69, hR_69, gW_69, hW_69, gR_70, hR_70, gW_70, hW_70, gR_71, hR_71, gW_71, hW_71, gR_72, hR_72, gW_72, hW_72, gR_73, hR_73, gW_73, hW_73, gR_74, hR_74, gW_74, hW_74, gR_76, hR_76, gW_76, hW_76, gR_77, hR_77, gW_77, hW_77, gR_78, hR_78, gW_78, hW_78, gR_79, hR_79, gW_79, hW_79, gR_80, hR_80, gW_80, hW_80, gR_81, hR_81, gW_81, hW_81, gR_82, hR_82, gW_82, hW_82, gR_1000, hR_1000, gR_1001, hR_1001, gR_1002, hR_1002, gR_1003, hR_1003, gJ_39, gJ_40, gJ_41, gJ_42, gJ_43, gJ_44, gJ_75, gQ_32]
      exact f
    · rw [k1]; rfl
    · intro a h1
      rw [k2 a h1, ul_f h1]
    · intro b h1 h2
      by_cases q : b = i
      · subst q
        rw [k4 _ (by omega), ul_s]
      · exact k3 b h1 (by omega)
    · intro b h1
      rw [k4 b (by omega), ul_k (by omega)]
theorem K_row (d : Nat) {L : Nat} {xs : Nat → Int32} {h : zm_H} (r : RR L xs h) (a b c : Int32) : okC L xs (fE_row (d + 6) a b c) (fM_row (d + 6) a b c) h := by
  have r0 := r
  obtain ⟨T, P, D, A, S, B, Q, W, N, C, T', Lw, G, I, Bd, Sh⟩ := r
  by_cases q : a < 0 ∨ 6 ≤ a
  · refine okC_same r0 (-1) ?_ ?_
    · rw [fE_row_eq, isShelf_s, le5_n q, bI, cT (by decide)]
    · rw [fM_row_eq, isShelfM_s, le5_n q, bI, cT (by decide)]
  · have q1 := le5_6 q
    obtain ⟨s, hs, rfl⟩ := iN_exn 6 rfl (by decide) q
    by_cases q2 : b < 0 ∨ 5 ≤ b
    · refine okC_same r0 (-1) ?_ ?_
      · rw [fE_row_eq, isShelf_s, q1, bI, cF (by decide)]
        by_cases e : b < 0
        · rw [cT e]
        · rw [cF e, cT (by grind)]
      · rw [fM_row_eq, isShelfM_s, q1, bI, cF (by decide), within_s, show (decide (0 ≤ b) && decide (b ≤ 4)) = false by grind, bI, cT (by decide)]
    · have q3 : (decide (0 ≤ b) && decide (b ≤ 4)) = true := by grind
      obtain ⟨k, hk, rfl⟩ := iN_exn 5 rfl (by decide) q2
      by_cases q4 : c ≤ 60
      · by_cases q5 : 0 ≤ c
        · obtain ⟨n, hn, rfl⟩ := iN_exn (x := c) (c := 61) 61 rfl (by decide) (by grind)
          obtain ⟨K, f, k1, k2, k3, k4⟩ := fillJ_s (d + 3) hs 60 0 (zm_ui (zm_ui (zm_ui h (33 + s) 1 (-1)) (33 + s) 2 (iN k)) (33 + s) 3 (iN n)) (by omega)
          have em : zm_max 0 (zm_min 60 (iN n)) = iN n := by
            rw [show (60 : Int32) = iN 60 from rfl, zm_min_iN (by omega) (by omega), show (0 : Int32) = iN 0 from rfl, zm_max_iN (by omega) (by omega)]
            rw [show max 0 (min 60 n) = n by omega]
          have hE : fE_row (d + 6) (iN s) (iN k) (iN n) h = some (some (.int 1), K) := by
            rw [fE_row_eq, isShelf_s, q1, bI, cF (by decide), cF (iN_lt0 (by omega)), cF (by simp (disch := omega) only [iN_add, iN_addl, iN_addr, iN_mul, iN_mull, iN_mulr, iN_sub, iN_subl, iN_subr, iN_c, iN_lt, iN_ltl, iN_ltr, iN_le, iN_lel, iN_ler, iN_eq, iN_eql, iN_eqr]; omega), cT q4, cT q5, gQ_32 hs, iN_c (by omega), rt32 hs, isO7 hs]
            rw [fSh_holdRow_eq, isO7 hs, em, rt33 hs, fJa_fillJ_eq, isA39 hs, kd39 hs]
            rw [show ((0 : Int32)) = iN 0 from rfl]
            simp only [Bool.cond_true]
            rw [show (cond (Nat.beq (2, 60).1 5) ((zm_ui (zm_ui (zm_ui h (33 + s) 1 (-1)) (33 + s) 2 (iN k)) (33 + s) 3 (iN n)).1 2001 (0 : Nat)) (Int32.ofNat ((2, 60) : Nat × Nat).2)) = iN 60 from rfl, f]
            rfl
          obtain ⟨M, m0, m1, m2, m3, m4⟩ := mrow_s (d + 5) hs 60 0 (zm_ui (zm_ui K 73 s (iN k)) 74 s (iN n)) (by omega)
          have hM : fM_row (d + 6) (iN s) (iN k) (iN n) K = some (some (.int 1), M) := by
            rw [fM_row_eq, isShelfM_s, q1, bI, cF (by decide), within_s, q3, bI, cF (by decide), cT q4, cT q5]
            simp (disch := omega) only [bI, bJ, bV, cN, zi_0, zi_z, Bool.cond_true, Bool.cond_false, decide_true, decide_false, decide_eq_true_eq, Bool.cond_decide, if_true, if_false, ofN12, Bool.not_not, zi_t, zi_f, iN_add, iN_addl, iN_addr, iN_mul, iN_mull, iN_mulr, iN_sub, iN_subl, iN_subr, iN_c, iN_lt, iN_ltl, iN_ltr, iN_le, iN_lel, iN_ler, iN_eq, iN_eql, iN_eqr, gR_2, hR_2, gW_2, hW_2, gR_4, hR_4, gW_4, hW_4, gR_5, hR_5, gW_5, hW_5, gR_6, hR_6, gW_6, hW_6, gR_7, hR_7, gW_7, hW_7, gR_9, hR_9, gW_9, hW_9, gR_10, hR_10, gW_10, hW_10, gR_12, hR_12, gW_12, hW_12, gR_13, hR_13, gW_13, hW_13, gR_16, hR_16, gW_16, hW_16, gR_17, hR_17, gW_17, hW_17, gR_18, hR_18, gW_18, hW_18, gR_19, hR_19, gW_19, hW_19, gR_20, hR_20, gW_20, hW_20, gR_21, hR_21, gW_21, hW_21, gR_22, hR_22, gW_22, hW_22, gR_24, hR_24, gW_24, hW_24, gR_25, hR_25, gW_25, hW_25, gR_27, hR_27, gW_27, hW_27, gR_28, hR_28, gW_28, hW_28, gR_30, hR_30, gW_30, hW_30, gR_31, hR_31, gW_31, hW_31, gR_46, hR_46, gW_46, hW_46, gR_47, hR_47, gW_47, hW_47, gR_48, hR_48, gW_48, hW_48, gR_49, hR_49, gW_49, hW_49, gR_50, hR_50, gW_50, hW_50, gR_51, hR_51, gW_51, hW_51, gR_52, hR_52, gW_52, hW_52, gR_53, hR_53, gW_53, hW_53, gR_54, hR_54, gW_54, hW_54, gR_55, hR_55, gW_55, hW_55, gR_56, hR_56, gW_56, hW_56, gR_57, hR_57, gW_57, hW_57, gR_58, hR_58, gW_58, hW_58, gR_59, hR_59, gW_59, hW_59, gR_60, hR_60, gW_60, hW_60, gR_61, hR_61, gW_61, hW_61, gR_62, hR_62, gW_62, hW_62, gR_63, hR_63, gW_63, hW_63, gR_64, hR_64, gW_64, hW_64, gR_65, hR_65, gW_65, hW_65, gR_66, hR_66, gW_66, hW_66, gR_67, hR_67, gW_67, hW_67, gR_68, hR_68, gW_68, hW_68, gR_69, hR_69, gW_69, hW_69, gR_70, hR_70, gW_70, hW_70, gR_71, hR_71, gW_71, hW_71, gR_72, hR_72, gW_72, hW_72, gR_73, hR_73, gW_73, hW_73, gR_74, hR_74, gW_74, hW_74, gR_76, hR_76, gW_76, hW_76, gR_77, hR_77, gW_77, hW_77, gR_78, hR_78, gW_78, hW_78, gR_79, hR_79, gW_79, hW_79, gR_80, hR_80, gW_80, hW_80, gR_81, hR_81, gW_81, hW_81, gR_82, hR_82, gW_82, hW_82, gR_1000, hR_1000, gR_1001, hR_1001, gR_1002, hR_1002, gR_1003, hR_1003, gJ_39, gJ_40, gJ_41, gJ_42, gJ_43, gJ_44, gJ_75, gQ_32]
            exact m0
          have kk1 : ∀ a, K.1 a = (zm_ui (zm_ui (zm_ui h (33 + s) 1 (-1)) (33 + s) 2 (iN k)) (33 + s) 3 (iN n)).1 a := fun a => by rw [k1]
          have mm1 : ∀ a, M.1 a = (zm_ui (zm_ui K 73 s (iN k)) 74 s (iN n)).1 a := fun a => by rw [m1]
          refine ⟨_, _, _, hE, hM, T, P, D, A, S, B, Q, rW_d ?_ W, rN_d ?_ N, rC_d ?_ C, rT_d ?_ T', rL_d ?_ Lw, rG_d ?_ G, rI_d ?_ I, rB_d ?_ Bd, rS_upd (s := s) Sh ?_ ?_⟩
          · simp (disch := omega) only [dW, ui_f, ui_c, ui_k, ui_2, ul_1, ul_f, mm1, kk1, and_self]
          · simp (disch := omega) only [dN, ui_f, ui_c, ui_k, ui_2, ul_1, ul_f, mm1, kk1, and_self]
          · simp (disch := omega) only [dC, ui_f, ui_c, ui_k, ui_2, ul_1, ul_f, mm1, kk1, and_self]
          · simp (disch := omega) only [dT, ui_f, ui_c, ui_k, ui_2, ul_1, ul_f, mm1, kk1, and_self]
          · simp (disch := omega) only [dL, ui_f, ui_c, ui_k, ui_2, ul_1, ul_f, mm1, kk1, and_self]
          · simp (disch := omega) only [dG, ui_f, ui_c, ui_k, ui_2, ul_1, ul_f, mm1, kk1, and_self]
          · simp (disch := omega) only [dI, ui_f, ui_c, ui_k, ui_2, ul_1, ul_f, mm1, kk1, and_self]
          · simp (disch := omega) only [dB, ui_f, ui_c, ui_k, ui_2, ul_1, ul_f, mm1, kk1, and_self]
          · intro z hz hne
            refine ⟨?_, ?_, ?_, ?_, ?_⟩
            · simp (disch := omega) only [ui_f, ui_k, ui_c, mm1, kk1]
            · simp (disch := omega) only [ui_f, ui_k, ui_c, mm1, kk1]
            · simp (disch := omega) only [ui_f, ui_k, ui_c, mm1, kk1]
            · rw [m2 _ (by omega), ui_2, ui_2, k2 _ (by omega)]; rfl
            · intro i hi
              rw [m4 _ (by omega), ui_2, ui_2, k2 _ (by omega)]; rfl
          · refine .inr (.inr ⟨k, n, hk, by omega, ?_, ?_, ?_, ?_, ?_, ?_⟩)
            · simp (disch := omega) only [ui_s, ui_f, ui_k, ui_c, mm1, kk1]
            · simp (disch := omega) only [ui_s, ui_f, ui_k, ui_c, mm1, kk1]
            · simp (disch := omega) only [ui_s, ui_f, ui_k, ui_c, mm1, kk1]
            · simp (disch := omega) only [ui_s, ui_f, ui_k, ui_c, mm1, kk1]
            · simp (disch := omega) only [ui_s, ui_f, ui_k, ui_c, mm1, kk1]
            · intro i hi
              rw [m3 i (by omega) (by omega), m2 _ (by omega), ui_2, ui_2, k3 i (by omega) (by omega)]
              exact ⟨rfl, fun _ => rfl⟩
        · refine okC_same r0 (-14) ?_ ?_
          · rw [fE_row_eq, isShelf_s, q1, bI, cF (by decide), cF (iN_lt0 (by omega)), cF (by simp (disch := omega) only [iN_add, iN_addl, iN_addr, iN_mul, iN_mull, iN_mulr, iN_sub, iN_subl, iN_subr, iN_c, iN_lt, iN_ltl, iN_ltr, iN_le, iN_lel, iN_ler, iN_eq, iN_eql, iN_eqr]; omega), cT q4, cF q5]
          · rw [fM_row_eq, isShelfM_s, q1, bI, cF (by decide), within_s, q3, bI, cF (by decide), cT q4, cF q5]
      · refine okC_same r0 (-1) ?_ ?_
        · rw [fE_row_eq, isShelf_s, q1, bI, cF (by decide), cF (iN_lt0 (by omega)), cF (by simp (disch := omega) only [iN_add, iN_addl, iN_addr, iN_mul, iN_mull, iN_mulr, iN_sub, iN_subl, iN_subr, iN_c, iN_lt, iN_ltl, iN_ltr, iN_le, iN_lel, iN_ler, iN_eq, iN_eql, iN_eqr]; omega), cF q4]
        · rw [fM_row_eq, isShelfM_s, q1, bI, cF (by decide), within_s, q3, bI, cF (by decide), cF q4]
