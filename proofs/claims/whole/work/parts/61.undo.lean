/-! undo, redo -/
theorem K_undo (d : Nat) {L : Nat} {xs : Nat → Int32} {h : zm_H} (r : RR L xs h) : okC L xs (fE_undo (d + 6)) (fM_undo (d + 6)) h := by
  have r0 := r
  obtain ⟨T, P, D, A, S, B, Q, W, N, C, T', Lw, G, I, Bd, Sh⟩ := r
  have N0 := N
  obtain ⟨⟨hT, hP, n1, n2, n3, n4⟩, N1, N2, N3⟩ := N
  obtain ⟨⟨c1, c2, c3, c4, c5, c6⟩, C2⟩ := C
  rcases (show D = 0 ∨ ∃ i, D = i + 1 by cases D <;> simp) with rfl | ⟨i, rfl⟩
  · refine okC_same r0 (-5) ?_ ?_
    · rw [fE_undo_eq, fCh_stepBack_eq, c3, cF (by decide), bI]
    · rw [fM_undo_eq, c5, cN, cT (by decide)]
  · obtain ⟨n, w, hw, hn, u1, u2, u3, u4, u5, u6, u7, u8⟩ := C2 i (by omega)
    have hm := mc_not2 w
    have hc := Nat.lt_of_lt_of_le hn (cnt_le hT (by omega) w)
    have hE : fE_undo (d + 6) h = some (some (.int (iN i)), zm_ui (zm_ui h 3 4 (iN i)) 2 (w * 8 + n) (h.1 6 i)) := by
      rw [fE_undo_eq, fCh_stepBack_eq, c3, cT (by rw [show (0 : Int32) = iN 0 from rfl, iN_lt (by omega) (by omega)]; omega)]
      simp (disch := omega) only [bI, bJ, bV, cN, zi_0, zi_z, Bool.cond_true, Bool.cond_false, decide_true, decide_false, decide_eq_true_eq, Bool.cond_decide, if_true, if_false, ofN12, Bool.not_not, zi_t, zi_f, iN_add, iN_addl, iN_addr, iN_mul, iN_mull, iN_mulr, iN_sub, iN_subl, iN_subr, iN_c, iN_lt, iN_ltl, iN_ltr, iN_le, iN_lel, iN_ler, iN_eq, iN_eql, iN_eqr, gR_2, hR_2, gW_2, hW_2, gR_4, hR_4, gW_4, hW_4, gR_5, hR_5, gW_5, hW_5, gR_6, hR_6, gW_6, hW_6, gR_7, hR_7, gW_7, hW_7, gR_9, hR_9, gW_9, hW_9, gR_10, hR_10, gW_10, hW_10, gR_12, hR_12, gW_12, hW_12, gR_13, hR_13, gW_13, hW_13, gR_16, hR_16, gW_16, hW_16, gR_17, hR_17, gW_17, hW_17, gR_18, hR_18, gW_18, hW_18, gR_19, hR_19, gW_19, hW_19, gR_20, hR_20, gW_20, hW_20, gR_21, hR_21, gW_21, hW_21, gR_22, hR_22, gW_22, hW_22, gR_24, hR_24, gW_24, hW_24, gR_25, hR_25, gW_25, hW_25, gR_27, hR_27, gW_27, hW_27, gR_28, hR_28, gW_28, hW_28, gR_30, hR_30, gW_30, hW_30, gR_31, hR_31, gW_31, hW_31, gR_46, hR_46, gW_46, hW_46, gR_47, hR_47, gW_47, hW_47, gR_48, hR_48, gW_48, hW_48, gR_49, hR_49, gW_49, hW_49, gR_50, hR_50, gW_50, hW_50, gR_51, hR_51, gW_51, hW_51, gR_52, hR_52, gW_52, hW_52, gR_53, hR_53, gW_53, hW_53, gR_54, hR_54, gW_54, hW_54, gR_55, hR_55, gW_55, hW_55, gR_56, hR_56, gW_56, hW_56, gR_57, hR_57, gW_57, hW_57, gR_58, hR_58, gW_58, hW_58, gR_59, hR_59, gW_59, hW_59, gR_60, hR_60, gW_60, hW_60, gR_61, hR_61, gW_61, hW_61, gR_62, hR_62, gW_62, hW_62, gR_63, hR_63, gW_63, hW_63, gR_64, hR_64, gW_64, hW_64, gR_65, hR_65, gW_65, hW_65, gR_66, hR_66, gW_66, hW_66, gR_67, hR_67, gW_67, hW_67, gR_68, hR_68, gW_68, hW_68, gR_69, hR_69, gW_69, hW_69, gR_70, hR_70, gW_70, hW_70, gR_71, hR_71, gW_71, hW_71, gR_72, hR_72, gW_72, hW_72, gR_73, hR_73, gW_73, hW_73, gR_74, hR_74, gW_74, hW_74, gR_76, hR_76, gW_76, hW_76, gR_77, hR_77, gW_77, hW_77, gR_78, hR_78, gW_78, hW_78, gR_79, hR_79, gW_79, hW_79, gR_80, hR_80, gW_80, hW_80, gR_81, hR_81, gW_81, hW_81, gR_82, hR_82, gW_82, hW_82, gR_1000, hR_1000, gR_1001, hR_1001, gR_1002, hR_1002, gR_1003, hR_1003, gJ_39, gJ_40, gJ_41, gJ_42, gJ_43, gJ_44, gJ_75, gQ_32, ui_s, ui_k, ui_c, Nat.add_sub_cancel, u1, u3]
      rw [write_s (d + 1) (h := zm_ui h 3 4 (iN i)) hT (by omega) (by rw [ui_c (by omega)]; exact n1) (by rw [ui_c (by omega)]; exact n3) rfl (by omega) hn]
      simp (disch := omega) only [bI, bJ, bV, cN, zi_0, zi_z, Bool.cond_true, Bool.cond_false, decide_true, decide_false, decide_eq_true_eq, Bool.cond_decide, if_true, if_false, ofN12, Bool.not_not, zi_t, zi_f, ui_s, ui_k, ui_c]
    have hM : fM_undo (d + 6) (zm_ui (zm_ui h 3 4 (iN i)) 2 (w * 8 + n) (h.1 6 i)) = some (some (.int (iN i)), zm_ui (zm_ui (zm_ui (zm_ui h 3 4 (iN i)) 2 (w * 8 + n) (h.1 6 i)) 45 39 (iN i)) (mc w) (mi w n) (h.1 6 i)) := by
      rw [fM_undo_eq]
      simp (disch := omega) only [ui_s, ui_k, ui_c, c5]
      rw [cN, cF (by simp (disch := omega) only [iN_add, iN_addl, iN_addr, iN_mul, iN_mull, iN_mulr, iN_sub, iN_subl, iN_subr, iN_c, iN_lt, iN_ltl, iN_ltr, iN_le, iN_lel, iN_ler, iN_eq, iN_eql, iN_eqr]; omega)]
      simp (disch := omega) only [bI, bJ, bV, cN, zi_0, zi_z, Bool.cond_true, Bool.cond_false, decide_true, decide_false, decide_eq_true_eq, Bool.cond_decide, if_true, if_false, ofN12, Bool.not_not, zi_t, zi_f, iN_add, iN_addl, iN_addr, iN_mul, iN_mull, iN_mulr, iN_sub, iN_subl, iN_subr, iN_c, iN_lt, iN_ltl, iN_ltr, iN_le, iN_lel, iN_ler, iN_eq, iN_eql, iN_eqr, gR_2, hR_2, gW_2, hW_2, gR_4, hR_4, gW_4, hW_4, gR_5, hR_5, gW_5, hW_5, gR_6, hR_6, gW_6, hW_6, gR_7, hR_7, gW_7, hW_7, gR_9, hR_9, gW_9, hW_9, gR_10, hR_10, gW_10, hW_10, gR_12, hR_12, gW_12, hW_12, gR_13, hR_13, gW_13, hW_13, gR_16, hR_16, gW_16, hW_16, gR_17, hR_17, gW_17, hW_17, gR_18, hR_18, gW_18, hW_18, gR_19, hR_19, gW_19, hW_19, gR_20, hR_20, gW_20, hW_20, gR_21, hR_21, gW_21, hW_21, gR_22, hR_22, gW_22, hW_22, gR_24, hR_24, gW_24, hW_24, gR_25, hR_25, gW_25, hW_25, gR_27, hR_27, gW_27, hW_27, gR_28, hR_28, gW_28, hW_28, gR_30, hR_30, gW_30, hW_30, gR_31, hR_31, gW_31, hW_31, gR_46, hR_46, gW_46, hW_46, gR_47, hR_47, gW_47, hW_47, gR_48, hR_48, gW_48, hW_48, gR_49, hR_49, gW_49, hW_49, gR_50, hR_50, gW_50, hW_50, gR_51, hR_51, gW_51, hW_51, gR_52, hR_52, gW_52, hW_52, gR_53, hR_53, gW_53, hW_53, gR_54, hR_54, gW_54, hW_54, gR_55, hR_55, gW_55, hW_55, gR_56, hR_56, gW_56, hW_56, gR_57, hR_57, gW_57, hW_57, gR_58, hR_58, gW_58, hW_58, gR_59, hR_59, gW_59, hW_59, gR_60, hR_60, gW_60, hW_60, gR_61, hR_61, gW_61, hW_61, gR_62, hR_62, gW_62, hW_62, gR_63, hR_63, gW_63, hW_63, gR_64, hR_64, gW_64, hW_64, gR_65, hR_65, gW_65, hW_65, gR_66, hR_66, gW_66, hW_66, gR_67, hR_67, gW_67, hW_67, gR_68, hR_68, gW_68, hW_68, gR_69, hR_69, gW_69, hW_69, gR_70, hR_70, gW_70, hW_70, gR_71, hR_71, gW_71, hW_71, gR_72, hR_72, gW_72, hW_72, gR_73, hR_73, gW_73, hW_73, gR_74, hR_74, gW_74, hW_74, gR_76, hR_76, gW_76, hW_76, gR_77, hR_77, gW_77, hW_77, gR_78, hR_78, gW_78, hW_78, gR_79, hR_79, gW_79, hW_79, gR_80, hR_80, gW_80, hW_80, gR_81, hR_81, gW_81, hW_81, gR_82, hR_82, gW_82, hW_82, gR_1000, hR_1000, gR_1001, hR_1001, gR_1002, hR_1002, gR_1003, hR_1003, gJ_39, gJ_40, gJ_41, gJ_42, gJ_43, gJ_44, gJ_75, gQ_32, ui_s, ui_k, ui_c, Nat.add_sub_cancel, u2, u4, u5]
      rw [becomes_s (d + 4) hT (by omega) rfl hw hn, bV]
      rw [show ∀ K : zm_H, (zm_ui (zm_ui K 45 39 (iN i)) (mc w) (mi w n) (h.1 6 i)).1 45 39 = iN i from fun K => by
        rw [ui_r, if_neg, ui_s]
        rintro ⟨e1, e2⟩
        have := mi_12 (n := n) (by omega : w < 13) e1.symm
        omega]
    refine ⟨iN i, _, _, hE, hM, T, P, i, A, S, B, Q, rW_d ?_ W, ?_, ⟨⟨by omega, c2, ?_, ?_, ?_, ?_⟩, ?_⟩, rT_d ?_ T', rL_d ?_ Lw, rG_d ?_ G, rI_d ?_ I, rB_d ?_ Bd, rS_d ?_ Sh⟩
    · simp (disch := omega) only [dW, ui_f, ui_c, ui_k, ui_2, and_self]
    · refine rN_set N0 (by omega) hn (fun _ => u7) ?_ ?_ ?_
      · simp (disch := omega) only [ui_f]
      · simp (disch := omega) only [ui_f]; rfl
      · intro a b h1 h2 h3
        rw [ui_r, if_neg (by omega)]
        simp (disch := omega) only [ui_c]
    · simp (disch := omega) only [ui_c, ui_s]
    · simp (disch := omega) only [ui_c, ui_k]; exact c4
    · rw [ui_r, if_neg, ui_s]
      rintro ⟨e1, e2⟩
      have := mi_12 (n := n) (by omega : w < 13) e1.symm
      omega
    · rw [ui_r, if_neg, ui_k (by omega), ui_c (by omega), ui_c (by omega)]
      · exact c6
      rintro ⟨e1, e2⟩
      have := mi_12 (n := n) (by omega : w < 13) e1.symm
      omega
    · intro j hj
      have := C2 j hj
      simp (disch := omega) only [ui_c]; exact this
    all_goals
      have h45 : ∀ b, b ≠ 39 → (b < 8 ∨ 10 < b) → (zm_ui (zm_ui (zm_ui (zm_ui h 3 4 (iN i)) 2 (w * 8 + n) (h.1 6 i)) 45 39 (iN i)) (mc w) (mi w n) (h.1 6 i)).1 45 b = h.1 45 b := by
        intro b b1 b2
        rw [ui_r, if_neg, ui_k b1, ui_c (by omega), ui_c (by omega)]
        rintro ⟨e1, e2⟩
        have := mi_45 (n := n) (by omega : w < 13) e1.symm
        omega
    · simp (disch := omega) only [dT, h45, ui_f, ui_c, ui_k, ui_2, and_self]
    · simp (disch := omega) only [dL, h45, ui_f, ui_c, ui_k, ui_2, and_self]
    · simp (disch := omega) only [dG, ui_f, ui_c, ui_k, ui_2, and_self]
    · simp (disch := omega) only [dI, h45, ui_f, ui_c, ui_k, ui_2, and_self]
    · simp (disch := omega) only [dB, h45, ui_f, ui_c, ui_k, ui_2, and_self]
    · simp (disch := omega) only [dS, h45, ui_f, ui_c, ui_k, ui_2, and_self]
theorem K_redo (d : Nat) {L : Nat} {xs : Nat → Int32} {h : zm_H} (r : RR L xs h) : okC L xs (fE_redo (d + 6)) (fM_redo (d + 6)) h := by
  have r0 := r
  obtain ⟨T, P, D, A, S, B, Q, W, N, C, T', Lw, G, I, Bd, Sh⟩ := r
  have N0 := N
  obtain ⟨⟨hT, hP, n1, n2, n3, n4⟩, N1, N2, N3⟩ := N
  obtain ⟨⟨c1, c2, c3, c4, c5, c6⟩, C2⟩ := C
  rcases (show D = A ∨ D < A by omega) with rfl | hDA
  · refine okC_same r0 (-5) ?_ ?_
    · rw [fE_redo_eq, fCh_stepOn_eq, c3, c4, cT (by simp (disch := omega) only [iN_add, iN_addl, iN_addr, iN_mul, iN_mull, iN_mulr, iN_sub, iN_subl, iN_subr, iN_c, iN_lt, iN_ltl, iN_ltr, iN_le, iN_lel, iN_ler, iN_eq, iN_eql, iN_eqr]; omega), bI]
    · rw [fM_redo_eq, c5, c6, cN, cT rfl]
  · obtain ⟨n, w, hw, hn, u1, u2, u3, u4, u5, u6, u7, u8⟩ := C2 D hDA
    have hm := mc_not2 w
    have hc := Nat.lt_of_lt_of_le hn (cnt_le hT (by omega) w)
    have hE : fE_redo (d + 6) h = some (some (.int (iN (A - (D + 1)))), zm_ui (zm_ui h 2 (w * 8 + n) (h.1 7 D)) 3 4 (iN (D + 1))) := by
      rw [fE_redo_eq, fCh_stepOn_eq, c3, c4, cF (by simp (disch := omega) only [iN_add, iN_addl, iN_addr, iN_mul, iN_mull, iN_mulr, iN_sub, iN_subl, iN_subr, iN_c, iN_lt, iN_ltl, iN_ltr, iN_le, iN_lel, iN_ler, iN_eq, iN_eql, iN_eqr]; omega), cT (by simp (disch := omega) only [iN_add, iN_addl, iN_addr, iN_mul, iN_mull, iN_mulr, iN_sub, iN_subl, iN_subr, iN_c, iN_lt, iN_ltl, iN_ltr, iN_le, iN_lel, iN_ler, iN_eq, iN_eql, iN_eqr]; omega)]
      simp (disch := omega) only [bI, bJ, bV, cN, zi_0, zi_z, Bool.cond_true, Bool.cond_false, decide_true, decide_false, decide_eq_true_eq, Bool.cond_decide, if_true, if_false, ofN12, Bool.not_not, zi_t, zi_f, iN_add, iN_addl, iN_addr, iN_mul, iN_mull, iN_mulr, iN_sub, iN_subl, iN_subr, iN_c, iN_lt, iN_ltl, iN_ltr, iN_le, iN_lel, iN_ler, iN_eq, iN_eql, iN_eqr, gR_2, hR_2, gW_2, hW_2, gR_4, hR_4, gW_4, hW_4, gR_5, hR_5, gW_5, hW_5, gR_6, hR_6, gW_6, hW_6, gR_7, hR_7, gW_7, hW_7, gR_9, hR_9, gW_9, hW_9, gR_10, hR_10, gW_10, hW_10, gR_12, hR_12, gW_12, hW_12, gR_13, hR_13, gW_13, hW_13, gR_16, hR_16, gW_16, hW_16, gR_17, hR_17, gW_17, hW_17, gR_18, hR_18, gW_18, hW_18, gR_19, hR_19, gW_19, hW_19, gR_20, hR_20, gW_20, hW_20, gR_21, hR_21, gW_21, hW_21, gR_22, hR_22, gW_22, hW_22, gR_24, hR_24, gW_24, hW_24, gR_25, hR_25, gW_25, hW_25, gR_27, hR_27, gW_27, hW_27, gR_28, hR_28, gW_28, hW_28, gR_30, hR_30, gW_30, hW_30, gR_31, hR_31, gW_31, hW_31, gR_46, hR_46, gW_46, hW_46, gR_47, hR_47, gW_47, hW_47, gR_48, hR_48, gW_48, hW_48, gR_49, hR_49, gW_49, hW_49, gR_50, hR_50, gW_50, hW_50, gR_51, hR_51, gW_51, hW_51, gR_52, hR_52, gW_52, hW_52, gR_53, hR_53, gW_53, hW_53, gR_54, hR_54, gW_54, hW_54, gR_55, hR_55, gW_55, hW_55, gR_56, hR_56, gW_56, hW_56, gR_57, hR_57, gW_57, hW_57, gR_58, hR_58, gW_58, hW_58, gR_59, hR_59, gW_59, hW_59, gR_60, hR_60, gW_60, hW_60, gR_61, hR_61, gW_61, hW_61, gR_62, hR_62, gW_62, hW_62, gR_63, hR_63, gW_63, hW_63, gR_64, hR_64, gW_64, hW_64, gR_65, hR_65, gW_65, hW_65, gR_66, hR_66, gW_66, hW_66, gR_67, hR_67, gW_67, hW_67, gR_68, hR_68, gW_68, hW_68, gR_69, hR_69, gW_69, hW_69, gR_70, hR_70, gW_70, hW_70, gR_71, hR_71, gW_71, hW_71, gR_72, hR_72, gW_72, hW_72, gR_73, hR_73, gW_73, hW_73, gR_74, hR_74, gW_74, hW_74, gR_76, hR_76, gW_76, hW_76, gR_77, hR_77, gW_77, hW_77, gR_78, hR_78, gW_78, hW_78, gR_79, hR_79, gW_79, hW_79, gR_80, hR_80, gW_80, hW_80, gR_81, hR_81, gW_81, hW_81, gR_82, hR_82, gW_82, hW_82, gR_1000, hR_1000, gR_1001, hR_1001, gR_1002, hR_1002, gR_1003, hR_1003, gJ_39, gJ_40, gJ_41, gJ_42, gJ_43, gJ_44, gJ_75, gQ_32, ui_s, ui_k, ui_c, u1, u3]
      rw [write_s (d + 1) hT (by omega) n1 n3 rfl (by omega) hn]
      simp (disch := omega) only [bI, bJ, bV, cN, zi_0, zi_z, Bool.cond_true, Bool.cond_false, decide_true, decide_false, decide_eq_true_eq, Bool.cond_decide, if_true, if_false, ofN12, Bool.not_not, zi_t, zi_f, iN_add, iN_addl, iN_addr, iN_mul, iN_mull, iN_mulr, iN_sub, iN_subl, iN_subr, iN_c, iN_lt, iN_ltl, iN_ltr, iN_le, iN_lel, iN_ler, iN_eq, iN_eql, iN_eqr, ui_s, ui_k, ui_c, c3, c4]
    have hM : fM_redo (d + 6) (zm_ui (zm_ui h 2 (w * 8 + n) (h.1 7 D)) 3 4 (iN (D + 1))) = some (some (.int (iN (A - (D + 1)))), zm_ui (zm_ui (zm_ui (zm_ui h 2 (w * 8 + n) (h.1 7 D)) 3 4 (iN (D + 1))) (mc w) (mi w n) (h.1 7 D)) 45 39 (iN (D + 1))) := by
      rw [fM_redo_eq]
      simp (disch := omega) only [ui_s, ui_k, ui_c, c5, c6]
      rw [cN, cF (by simp (disch := omega) only [iN_add, iN_addl, iN_addr, iN_mul, iN_mull, iN_mulr, iN_sub, iN_subl, iN_subr, iN_c, iN_lt, iN_ltl, iN_ltr, iN_le, iN_lel, iN_ler, iN_eq, iN_eql, iN_eqr]; omega)]
      simp (disch := omega) only [bI, bJ, bV, cN, zi_0, zi_z, Bool.cond_true, Bool.cond_false, decide_true, decide_false, decide_eq_true_eq, Bool.cond_decide, if_true, if_false, ofN12, Bool.not_not, zi_t, zi_f, iN_add, iN_addl, iN_addr, iN_mul, iN_mull, iN_mulr, iN_sub, iN_subl, iN_subr, iN_c, iN_lt, iN_ltl, iN_ltr, iN_le, iN_lel, iN_ler, iN_eq, iN_eql, iN_eqr, gR_2, hR_2, gW_2, hW_2, gR_4, hR_4, gW_4, hW_4, gR_5, hR_5, gW_5, hW_5, gR_6, hR_6, gW_6, hW_6, gR_7, hR_7, gW_7, hW_7, gR_9, hR_9, gW_9, hW_9, gR_10, hR_10, gW_10, hW_10, gR_12, hR_12, gW_12, hW_12, gR_13, hR_13, gW_13, hW_13, gR_16, hR_16, gW_16, hW_16, gR_17, hR_17, gW_17, hW_17, gR_18, hR_18, gW_18, hW_18, gR_19, hR_19, gW_19, hW_19, gR_20, hR_20, gW_20, hW_20, gR_21, hR_21, gW_21, hW_21, gR_22, hR_22, gW_22, hW_22, gR_24, hR_24, gW_24, hW_24, gR_25, hR_25, gW_25, hW_25, gR_27, hR_27, gW_27, hW_27, gR_28, hR_28, gW_28, hW_28, gR_30, hR_30, gW_30, hW_30, gR_31, hR_31, gW_31, hW_31, gR_46, hR_46, gW_46, hW_46, gR_47, hR_47, gW_47, hW_47, gR_48, hR_48, gW_48, hW_48, gR_49, hR_49, gW_49, hW_49, gR_50, hR_50, gW_50, hW_50, gR_51, hR_51, gW_51, hW_51, gR_52, hR_52, gW_52, hW_52, gR_53, hR_53, gW_53, hW_53, gR_54, hR_54, gW_54, hW_54, gR_55, hR_55, gW_55, hW_55, gR_56, hR_56, gW_56, hW_56, gR_57, hR_57, gW_57, hW_57, gR_58, hR_58, gW_58, hW_58, gR_59, hR_59, gW_59, hW_59, gR_60, hR_60, gW_60, hW_60, gR_61, hR_61, gW_61, hW_61, gR_62, hR_62, gW_62, hW_62, gR_63, hR_63, gW_63, hW_63, gR_64, hR_64, gW_64, hW_64, gR_65, hR_65, gW_65, hW_65, gR_66, hR_66, gW_66, hW_66, gR_67, hR_67, gW_67, hW_67, gR_68, hR_68, gW_68, hW_68, gR_69, hR_69, gW_69, hW_69, gR_70, hR_70, gW_70, hW_70, gR_71, hR_71, gW_71, hW_71, gR_72, hR_72, gW_72, hW_72, gR_73, hR_73, gW_73, hW_73, gR_74, hR_74, gW_74, hW_74, gR_76, hR_76, gW_76, hW_76, gR_77, hR_77, gW_77, hW_77, gR_78, hR_78, gW_78, hW_78, gR_79, hR_79, gW_79, hW_79, gR_80, hR_80, gW_80, hW_80, gR_81, hR_81, gW_81, hW_81, gR_82, hR_82, gW_82, hW_82, gR_1000, hR_1000, gR_1001, hR_1001, gR_1002, hR_1002, gR_1003, hR_1003, gJ_39, gJ_40, gJ_41, gJ_42, gJ_43, gJ_44, gJ_75, gQ_32, ui_s, ui_k, ui_c, u2, u4, u6]
      rw [becomes_s (d + 4) hT (by omega) rfl hw hn, bV]
      have e1 : ∀ b, b = 38 ∨ b = 39 → (zm_ui (zm_ui (zm_ui h 2 (w * 8 + n) (h.1 7 D)) 3 4 (iN (D + 1))) (mc w) (mi w n) (h.1 7 D)).1 45 b = h.1 45 b := by
        intro b hb
        rw [ui_r, if_neg, ui_c (by omega), ui_c (by omega)]
        rintro ⟨e1, e2⟩
        have := mi_12 (n := n) (by omega : w < 13) e1.symm
        omega
      rw [e1 39 (.inr rfl), c5]
      simp (disch := omega) only [iN_add, iN_addl, iN_addr, iN_mul, iN_mull, iN_mulr, iN_sub, iN_subl, iN_subr, iN_c, iN_lt, iN_ltl, iN_ltr, iN_le, iN_lel, iN_ler, iN_eq, iN_eql, iN_eqr, ui_s, ui_k]
      rw [e1 38 (.inl rfl), c6]
      simp (disch := omega) only [iN_add, iN_addl, iN_addr, iN_mul, iN_mull, iN_mulr, iN_sub, iN_subl, iN_subr, iN_c, iN_lt, iN_ltl, iN_ltr, iN_le, iN_lel, iN_ler, iN_eq, iN_eql, iN_eqr]
    refine ⟨iN (A - (D + 1)), _, _, hE, hM, T, P, D + 1, A, S, B, Q, rW_d ?_ W, rN_d ?_ (rN_set (K := zm_ui (zm_ui h 2 (w * 8 + n) (h.1 7 D)) 3 4 (iN (D + 1))) N0 (by omega) hn (fun _ => u8) ?_ ?_ ?_), ⟨⟨by omega, c2, ?_, ?_, ?_, ?_⟩, ?_⟩, rT_d ?_ T', rL_d ?_ Lw, rG_d ?_ G, rI_d ?_ I, rB_d ?_ Bd, rS_d ?_ Sh⟩
    · simp (disch := omega) only [dW, ui_f, ui_c, ui_k, ui_2, and_self]
    · simp (disch := omega) only [dN, ui_f, ui_k, and_self]
    · simp (disch := omega) only [ui_f]
    · simp (disch := omega) only [ui_f]
    · intro a b h1 h2 h3
      simp (disch := omega) only [ui_c]
    · simp (disch := omega) only [ui_c, ui_s]
    · simp (disch := omega) only [ui_c, ui_k]; exact c4
    · simp (disch := omega) only [ui_s]
    · rw [ui_k (by omega), ui_r, if_neg, ui_c (by omega), ui_c (by omega)]
      · exact c6
      rintro ⟨e1, e2⟩
      have := mi_12 (n := n) (by omega : w < 13) e1.symm
      omega
    · intro j hj
      have := C2 j hj
      simp (disch := omega) only [ui_c]; exact this
    all_goals
      have h45 : ∀ b, b ≠ 39 → (b < 8 ∨ 10 < b) → (zm_ui (zm_ui (zm_ui (zm_ui h 2 (w * 8 + n) (h.1 7 D)) 3 4 (iN (D + 1))) (mc w) (mi w n) (h.1 7 D)) 45 39 (iN (D + 1))).1 45 b = h.1 45 b := by
        intro b b1 b2
        rw [ui_k b1, ui_r, if_neg, ui_c (by omega), ui_c (by omega)]
        rintro ⟨e1, e2⟩
        have := mi_45 (n := n) (by omega : w < 13) e1.symm
        omega
    · simp (disch := omega) only [dT, h45, ui_f, ui_c, ui_k, ui_2, and_self]
    · simp (disch := omega) only [dL, h45, ui_f, ui_c, ui_k, ui_2, and_self]
    · simp (disch := omega) only [dG, ui_f, ui_c, ui_k, ui_2, and_self]
    · simp (disch := omega) only [dI, h45, ui_f, ui_c, ui_k, ui_2, and_self]
    · simp (disch := omega) only [dB, h45, ui_f, ui_c, ui_k, ui_2, and_self]
    · simp (disch := omega) only [dS, h45, ui_f, ui_c, ui_k, ui_2, and_self]
