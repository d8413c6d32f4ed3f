/-! put, element, taken -/
def okJ (L : Nat) (xs : Nat → Int32) (e m : zm_H → zm_R) (h : zm_H) : Prop := ∃ v h1 h2, e h = some (some (.long v), h1) ∧ m h1 = some (some (.long v), h2) ∧ RR L xs h2
theorem span1 {n : Nat} (hn : n < 1000) (a : Int32) : (decide ((0 : Int32) ≤ 1) && decide (1 ≤ iN n) && (decide (0 ≤ a) && decide (a ≤ iN n - 1))) = (decide (0 ≤ a) && decide (a < iN n)) := by
  rw [le_predd hn]
  generalize iN n = x
  grind
theorem iN_1 : iN 1 = 1 := rfl
theorem refP_bad (d : Nat) {a : Int32} (q : a < 0 ∨ 6 ≤ a) (i : Int32) (h : zm_H) : fE_refusalOfPlace (d + 2) a i h = some (some (.int (-1)), h) := by
  rw [fE_refusalOfPlace_eq, isShelf_s, le5_n q, bI, cN, cT (by decide)]
theorem refP_e (d : Nat) {s : Nat} (hs : s < 6) (i : Int32) {h : zm_H} (e1 : h.1 (33 + s) 1 = -1) (e2 : h.1 (33 + s) 2 = -1) : fE_refusalOfPlace (d + 3) (iN s) i h = some (some (.int (-11)), h) := by
  rw [fE_refusalOfPlace_eq, isShelf_s, le5_6 (by simp (disch := omega) only [iN_add, iN_addl, iN_addr, iN_mul, iN_mull, iN_mulr, iN_sub, iN_subl, iN_subr, iN_c, iN_lt, iN_ltl, iN_ltr, iN_le, iN_lel, iN_ler, iN_eq, iN_eql, iN_eqr]; omega), bI, cN, cF (by decide), gQ_32 hs, iN_c (by omega), rt32 hs, isO7 hs, isEmpty_s _ hs, e1, e2]; rfl
theorem refP_t (d : Nat) {s : Nat} (hs : s < 6) (i : Int32) {h : zm_H} {b : Nat} (hb : b < 50) (e1 : h.1 (33 + s) 1 = iN b) (e2 : h.1 (33 + s) 2 = -1) : fE_refusalOfPlace (d + 3) (iN s) i h = some (some (.int (-12)), h) := by
  rw [fE_refusalOfPlace_eq, isShelf_s, le5_6 (by simp (disch := omega) only [iN_add, iN_addl, iN_addr, iN_mul, iN_mull, iN_mulr, iN_sub, iN_subl, iN_subr, iN_c, iN_lt, iN_ltl, iN_ltr, iN_le, iN_lel, iN_ler, iN_eq, iN_eql, iN_eqr]; omega), bI, cN, cF (by decide), gQ_32 hs, iN_c (by omega), rt32 hs, isO7 hs, isEmpty_s _ hs, e1, decide_eq_false (iN_ne1 (by omega))]
  simp only [Bool.cond_true, Bool.cond_false, bI, zi_0, Bool.false_and, Bool.not_false, isRow_s _ hs, e2]; rfl
theorem refP_r (d : Nat) {s : Nat} (hs : s < 6) (i : Int32) {h : zm_H} {k n : Nat} (hk : k < 5) (hn : n ≤ 60) (e2 : h.1 (33 + s) 2 = iN k) (e3 : h.1 (33 + s) 3 = iN n) : fE_refusalOfPlace (d + 3) (iN s) i h = some (some (.int (cond (decide (0 ≤ i) && decide (i < iN n)) 0 (-13))), h) := by
  rw [fE_refusalOfPlace_eq, isShelf_s, le5_6 (by simp (disch := omega) only [iN_add, iN_addl, iN_addr, iN_mul, iN_mull, iN_mulr, iN_sub, iN_subl, iN_subr, iN_c, iN_lt, iN_ltl, iN_ltr, iN_le, iN_lel, iN_ler, iN_eq, iN_eql, iN_eqr]; omega), bI, cN, cF (by decide), gQ_32 hs, iN_c (by omega), rt32 hs, isO7 hs, isEmpty_s _ hs, e2, decide_eq_false (iN_ne1 (by omega))]
  simp only [Bool.cond_true, Bool.cond_false, bI, zi_0, Bool.and_false, Bool.not_false, isRow_s _ hs, hasSpan_s _ hs, e2, e3, span1 (show n < 1000 by omega), decide_eq_false (iN_ne1 (show k < 2147483648 by omega)), Bool.not_not]
  cases (decide (0 ≤ i) && decide (i < iN n)) <;> rfl
theorem isRowM_s (d : Nat) {s : Nat} (hs : s < 6) {h : zm_H} {v : Int32} (e : h.1 73 s = v) : fM_isRow (d + 2) (iN s) h = some (some (.int (zi (decide (0 ≤ v) && decide (v ≤ 4)))), h) := by
  rw [fM_isRow_eq, gR_73 hs, iN_c (by omega), e, within_s, bI, zi_z]; rfl
theorem inrow_t {b : Nat} (hb : b < 1000) : (decide ((0 : Int32) ≤ iN (10 + b)) && decide (iN (10 + b) ≤ 4)) = false := by
  rw [show (decide (iN (10 + b) ≤ 4)) = false by simp (disch := omega) only [iN_add, iN_addl, iN_addr, iN_mul, iN_mull, iN_mulr, iN_sub, iN_subl, iN_subr, iN_c, iN_lt, iN_ltl, iN_ltr, iN_le, iN_lel, iN_ler, iN_eq, iN_eql, iN_eqr]; simp; omega]; simp
theorem inrow_r {k : Nat} (hk : k < 5) : (decide ((0 : Int32) ≤ iN k) && decide (iN k ≤ 4)) = true := by
  simp (disch := omega) only [iN_add, iN_addl, iN_addr, iN_mul, iN_mull, iN_mulr, iN_sub, iN_subl, iN_subr, iN_c, iN_lt, iN_ltl, iN_ltr, iN_le, iN_lel, iN_ler, iN_eq, iN_eql, iN_eqr]; simp; omega
theorem K_put (d : Nat) {L : Nat} {xs : Nat → Int32} {h : zm_H} (r : RR L xs h) (a i : Int32) (v : Int64) : okC L xs (fE_put (d + 6) a i v) (fM_put (d + 6) a i v) h := by
  have r0 := r
  obtain ⟨T, P, D, A, S, B, Q, W, N, C, T', Lw, G, I, Bd, Sh⟩ := r
  have hB := Bd.1
  by_cases q : a < 0 ∨ 6 ≤ a
  · refine okC_same r0 (-1) ?_ ?_
    · rw [fE_put_eq, refP_bad (d + 3) q, bI, cF (by decide)]
    · rw [fM_put_eq, isShelfM_s, le5_n q, bI, cN, cT (by decide)]
  · have q1 := le5_6 q
    obtain ⟨s, hs, rfl⟩ := iN_exn 6 rfl (by decide) q
    rcases Sh s hs with ⟨s1, s2, s3, s4, s5⟩ | ⟨b, hb, s1, s2, s3, s4, s5⟩ | ⟨k, n, hk, hn, s1, s2, s3, s4, s5, s6⟩
    · refine okC_same r0 (-11) ?_ ?_
      · rw [fE_put_eq, refP_e (d + 2) hs i s1 s2, bI, cF (by decide)]
      · rw [fM_put_eq, isShelfM_s, q1, bI, cN, cF (by decide), gR_73 hs, iN_c (by omega), s4]; rfl
    · refine okC_same r0 (-12) ?_ ?_
      · rw [fE_put_eq, refP_t (d + 2) hs i (by omega) s1 s2, bI, cF (by decide)]
      · rw [fM_put_eq, isShelfM_s, q1, bI, cN, cF (by decide), gR_73 hs, iN_c (by omega), s4, decide_eq_false (iN_ne1 (by omega)), isRowM_s _ hs s4, inrow_t (by omega)]; rfl
    · by_cases p : 0 ≤ i ∧ i < iN n
      · obtain ⟨j, hj, rfl⟩ := iN_ex p.1 p.2 (by omega)
        refine ⟨1, zm_ul h (39 + s) j (fitv (iN k) v), zm_ul (zm_ul h (39 + s) j (fitv (iN k) v)) 75 (60 * s + j) (fitv (iN k) v), ?_, ?_, T, P, D, A, S, B, Q, rW_d ?_ W, rN_d ?_ N, rC_d ?_ C, rT_d ?_ T', rL_d ?_ Lw, rG_d ?_ G, rI_d ?_ I, rB_d ?_ Bd, rS_upd (s := s) Sh ?_ ?_⟩
        · rw [fE_put_eq, refP_r (d + 2) hs _ hk hn s2 s3, in_t p, bI, Bool.cond_true, cT rfl, gQ_32 hs, iN_c (by omega), rt32 hs, isO7 hs, fSh_write_eq, isO7 hs, cF (iN_lt0 (by omega)), s3, cF (by simp (disch := omega) only [iN_add, iN_addl, iN_addr, iN_mul, iN_mull, iN_mulr, iN_sub, iN_subl, iN_subr, iN_c, iN_lt, iN_ltl, iN_ltr, iN_le, iN_lel, iN_ler, iN_eq, iN_eql, iN_eqr]; omega), cF (by simp (disch := omega) only [iN_add, iN_addl, iN_addr, iN_mul, iN_mull, iN_mulr, iN_sub, iN_subl, iN_subr, iN_c, iN_lt, iN_ltl, iN_ltr, iN_le, iN_lel, iN_ler, iN_eq, iN_eql, iN_eqr]; omega), fitted_s _ hs, bJ, rt33 hs, gJ39 hs (by omega), iN_c (by omega), s2]; rfl
        · rw [fM_put_eq, isShelfM_s, q1, bI, cN, cF (by decide), gR_73 hs, iN_c (by omega)]
          rw [show (zm_ul h (39 + s) j (fitv (iN k) v)).1 = h.1 from rfl, s4, decide_eq_false (iN_ne1 (by omega)), isRowM_s _ hs (h := zm_ul h (39 + s) j (fitv (iN k) v)) s4, inrow_r hk, bI, zi_0, gR_74 hs]
          simp only [Bool.not_true, Bool.not_false, Bool.cond_true, Bool.cond_false]
          rw [show (zm_ul h (39 + s) j (fitv (iN k) v)).1 = h.1 from rfl, s5, within_s, le_predd (by omega), in_t p, bI, zi_0]
          simp only [Bool.not_true, Bool.not_false, Bool.cond_true]
          rw [gR_73 hs, show (zm_ul h (39 + s) j (fitv (iN k) v)).1 = h.1 from rfl, s4, kept_s, bJ]
          simp (disch := omega) only [bI, bJ, bV, cN, zi_0, zi_z, Bool.cond_true, Bool.cond_false, decide_true, decide_false, decide_eq_true_eq, Bool.cond_decide, if_true, if_false, ofN12, Bool.not_not, zi_t, zi_f, iN_add, iN_addl, iN_addr, iN_mul, iN_mull, iN_mulr, iN_sub, iN_subl, iN_subr, iN_c, iN_lt, iN_ltl, iN_ltr, iN_le, iN_lel, iN_ler, iN_eq, iN_eql, iN_eqr, gR_2, hR_2, gW_2, hW_2, gR_4, hR_4, gW_4, hW_4, gR_5, hR_5, gW_5, hW_5, gR_6, hR_6, gW_6, hW_6, gR_7, hR_7, gW_7, hW_7, gR_9, hR_9, gW_9, hW_9, gR_10, hR_10, gW_10, hW_10, gR_12, hR_12, gW_12, hW_12, gR_13, hR_13, gW_13, hW_13, gR_16, hR_16, gW_16, hW_16, gR_17, hR_17, gW_17, hW_17, gR_18, hR_18, gW_18, hW_18, gR_19, hR_19, gW_19, hW_19, gR_20, hR_20, gW_20, hW_20, gR_21, hR_21, gW_21, hW_21, gR_22, hR_22, gW_22, hW_22, gR_24, hR_24, gW_24, hW_24, gR_25, hR_25, gW_25, hW_25, gR_27, hR_27, gW_27, hW_27, gR_28, hR_28, gW_28, hW_28, gR_30, hR_30, gW_30, hW_30, gR_31, hR_31, gW_31, hW_31, gR_46, hR_46, gW_46, hW_46, gR_47, hR_47, gW_47, hW_47, gR_48, hR_48, gW_48, hW_48, gR_49, hR_49, gW_49, hW_49, gR_50, hR_50, gW_50, hW_50, gR_51, hR_51, gW_51, hW_51, gR_52, hR_52, gW_52, hW_52, gR_53, hR_53, gW_53, hW_53, gR_54, hR_54, gW_54, hW_54, gR_55, hR_55, gW_55, hW_55, gR_56, hR_56, gW_56, hW_56, gR_57, hR_57, gW_57, hW_57, gR_58, hR_58, gW_58, hW_58, gR_59, hR_59, gW_59, hW_59, gR_60, hR_60, gW_60, hW_60, gR_61, hR_61, gW_61, hW_61, gR_62, hR_62, gW_62, hW_62, gR_63, hR_63, gW_63, hW_63, gR_64, hR_64, gW_64, hW_64, gR_65, hR_65, gW_65, hW_65, gR_66, hR_66, gW_66, hW_66, gR_67, hR_67, gW_67, hW_67, gR_68, hR_68, gW_68, hW_68, gR_69, hR_69, gW_69, hW_69, gR_70, hR_70, gW_70, hW_70, gR_71, hR_71, gW_71, hW_71, gR_72, hR_72, gW_72, hW_72, gR_73, hR_73, gW_73, hW_73, gR_74, hR_74, gW_74, hW_74, gR_76, hR_76, gW_76, hW_76, gR_77, hR_77, gW_77, hW_77, gR_78, hR_78, gW_78, hW_78, gR_79, hR_79, gW_79, hW_79, gR_80, hR_80, gW_80, hW_80, gR_81, hR_81, gW_81, hW_81, gR_82, hR_82, gW_82, hW_82, gR_1000, hR_1000, gR_1001, hR_1001, gR_1002, hR_1002, gR_1003, hR_1003, gJ_39, gJ_40, gJ_41, gJ_42, gJ_43, gJ_44, gJ_75, gQ_32]
        · simp (disch := omega) only [dW, ui_f, ui_c, ui_k, ui_2, ul_1, ul_f, and_self]
        · simp (disch := omega) only [dN, ui_f, ui_c, ui_k, ui_2, ul_1, ul_f, and_self]
        · simp (disch := omega) only [dC, ui_f, ui_c, ui_k, ui_2, ul_1, ul_f, and_self]
        · simp (disch := omega) only [dT, ui_f, ui_c, ui_k, ui_2, ul_1, ul_f, and_self]
        · simp (disch := omega) only [dL, ui_f, ui_c, ui_k, ui_2, ul_1, ul_f, and_self]
        · simp (disch := omega) only [dG, ui_f, ui_c, ui_k, ui_2, ul_1, ul_f, and_self]
        · simp (disch := omega) only [dI, ui_f, ui_c, ui_k, ui_2, ul_1, ul_f, and_self]
        · simp (disch := omega) only [dB, ui_f, ui_c, ui_k, ui_2, ul_1, ul_f, and_self]
        · intro z hz hne
          refine ⟨rfl, rfl, rfl, ?_, ?_⟩
          · simp (disch := omega) only [ul_f]
          · intro y hy
            simp (disch := omega) only [ul_k, ul_c]
        · refine .inr (.inr ⟨k, n, hk, hn, s1, s2, s3, s4, s5, ?_⟩)
          intro y hy
          by_cases e : y = j
          · subst e
            simp (disch := omega) only [ul_s, ul_c]
            exact ⟨trivial, fun h => fitv_ok h v⟩
          · simp (disch := omega) only [ul_k, ul_c]
            exact s6 y hy
      · refine okC_same r0 (-13) ?_ ?_
        · rw [fE_put_eq, refP_r (d + 2) hs i hk hn s2 s3, in_f p, bI, Bool.cond_false, cF (by decide)]
        · rw [fM_put_eq, isShelfM_s, q1, bI, cN, cF (by decide), gR_73 hs, iN_c (by omega), s4, decide_eq_false (iN_ne1 (by omega)), isRowM_s _ hs s4, inrow_r hk, bI, zi_0, gR_74 hs]
          simp only [Bool.not_true, Bool.not_false, Bool.cond_true, Bool.cond_false]
          rw [s5, within_s, le_predd (by omega), in_f p]; rfl
theorem K_element (d : Nat) {L : Nat} {xs : Nat → Int32} {h : zm_H} (r : RR L xs h) (a i : Int32) : okJ L xs (fE_element (d + 6) a i) (fM_element (d + 6) a i) h := by
  have r0 := r
  obtain ⟨T, P, D, A, S, B, Q, W, N, C, T', Lw, G, I, Bd, Sh⟩ := r
  have hB := Bd.1
  have sm : ∀ v : Int64, fE_element (d + 6) a i h = some (some (.long v), h) → fM_element (d + 6) a i h = some (some (.long v), h) → okJ L xs (fE_element (d + 6) a i) (fM_element (d + 6) a i) h := fun v e1 e2 => ⟨v, h, h, e1, e2, r0⟩
  by_cases q : a < 0 ∨ 6 ≤ a
  · refine sm (-9223372036854775808) ?_ ?_
    · rw [fE_element_eq, refP_bad (d + 3) q, bI, cF (by decide)]
    · rw [fM_element_eq, isShelfM_s, le5_n q, bI, cT (by decide)]
  · have q1 := le5_6 q
    obtain ⟨s, hs, rfl⟩ := iN_exn 6 rfl (by decide) q
    rcases Sh s hs with ⟨s1, s2, s3, s4, s5⟩ | ⟨b, hb, s1, s2, s3, s4, s5⟩ | ⟨k, n, hk, hn, s1, s2, s3, s4, s5, s6⟩
    · refine sm (-9223372036854775808) ?_ ?_
      · rw [fE_element_eq, refP_e (d + 2) hs i s1 s2, bI, cF (by decide)]
      · rw [fM_element_eq, isShelfM_s, q1, bI, cF (by decide), isRowM_s _ hs s4]; rfl
    · refine sm (-9223372036854775808) ?_ ?_
      · rw [fE_element_eq, refP_t (d + 2) hs i (by omega) s1 s2, bI, cF (by decide)]
      · rw [fM_element_eq, isShelfM_s, q1, bI, cF (by decide), isRowM_s _ hs s4, inrow_t (by omega)]; rfl
    · by_cases p : 0 ≤ i ∧ i < iN n
      · obtain ⟨j, hj, rfl⟩ := iN_ex p.1 p.2 (by omega)
        refine sm (h.2 (39 + s) j) ?_ ?_
        · rw [fE_element_eq, refP_r (d + 2) hs _ hk hn s2 s3, in_t p, bI, Bool.cond_true, cT rfl, gQ_32 hs, iN_c (by omega), rt32 hs, isO7 hs, fSh_read_eq, isO7 hs, cF (iN_lt0 (by omega)), s3, cF (by simp (disch := omega) only [iN_add, iN_addl, iN_addr, iN_mul, iN_mull, iN_mulr, iN_sub, iN_subl, iN_subr, iN_c, iN_lt, iN_ltl, iN_ltr, iN_le, iN_lel, iN_ler, iN_eq, iN_eql, iN_eqr]; omega), cF (by simp (disch := omega) only [iN_add, iN_addl, iN_addr, iN_mul, iN_mull, iN_mulr, iN_sub, iN_subl, iN_subr, iN_c, iN_lt, iN_ltl, iN_ltr, iN_le, iN_lel, iN_ler, iN_eq, iN_eql, iN_eqr]; omega), rt33 hs, gJ39 hs (by omega), iN_c (by omega)]; rfl
        · rw [fM_element_eq, isShelfM_s, q1, bI, cF (by decide), isRowM_s _ hs s4, inrow_r hk, bI, cF (by decide), gR_74 hs, iN_c (by omega), s5, within_s, le_predd (by omega), in_t p, bI, cF (by decide)]
          simp (disch := omega) only [bI, bJ, bV, cN, zi_0, zi_z, Bool.cond_true, Bool.cond_false, decide_true, decide_false, decide_eq_true_eq, Bool.cond_decide, if_true, if_false, ofN12, Bool.not_not, zi_t, zi_f, iN_add, iN_addl, iN_addr, iN_mul, iN_mull, iN_mulr, iN_sub, iN_subl, iN_subr, iN_c, iN_lt, iN_ltl, iN_ltr, iN_le, iN_lel, iN_ler, iN_eq, iN_eql, iN_eqr, gR_2, hR_2, gW_2, hW_2, gR_4, hR_4, gW_4, hW_4, gR_5, hR_5, gW_5, hW_5, gR_6, hR_6, gW_6, hW_6, gR_7, hR_7, gW_7, hW_7, gR_9, hR_9, gW_9, hW_9, gR_10, hR_10, gW_10, hW_10, gR_12, hR_12, gW_12, hW_12, gR_13, hR_13, gW_13, hW_13, gR_16, hR_16, gW_16, hW_16, gR_17, hR_17, gW_17, hW_17, gR_18, hR_18, gW_18, hW_18, gR_19, hR_19, gW_19, hW_19, gR_20, hR_20, gW_20, hW_20, gR_21, hR_21, gW_21, hW_21, gR_22, hR_22, gW_22, hW_22, gR_24, hR_24, gW_24, hW_24, gR_25, hR_25, gW_25, hW_25, gR_27, hR_27, gW_27, hW_27, gR_28, hR_28, gW_28, hW_28, gR_30, hR_30, gW_30, hW_30, gR_31, hR_31, gW_31, hW_31, gR_46, hR_46, gW_46, hW_46, gR_47, hR_47, gW_47, hW_47, gR_48, hR_48, gW_48, hW_48, gR_49, hR_49, gW_49, hW_49, gR_50, hR_50, gW_50, hW_50, gR_51, hR_51, gW_51, hW_51, gR_52, hR_52, gW_52, hW_52, gR_53, hR_53, gW_53, hW_53, gR_54, hR_54, gW_54, hW_54, gR_55, hR_55, gW_55, hW_55, gR_56, hR_56, gW_56, hW_56, gR_57, hR_57, gW_57, hW_57, gR_58, hR_58, gW_58, hW_58, gR_59, hR_59, gW_59, hW_59, gR_60, hR_60, gW_60, hW_60, gR_61, hR_61, gW_61, hW_61, gR_62, hR_62, gW_62, hW_62, gR_63, hR_63, gW_63, hW_63, gR_64, hR_64, gW_64, hW_64, gR_65, hR_65, gW_65, hW_65, gR_66, hR_66, gW_66, hW_66, gR_67, hR_67, gW_67, hW_67, gR_68, hR_68, gW_68, hW_68, gR_69, hR_69, gW_69, hW_69, gR_70, hR_70, gW_70, hW_70, gR_71, hR_71, gW_71, hW_71, gR_72, hR_72, gW_72, hW_72, gR_73, hR_73, gW_73, hW_73, gR_74, hR_74, gW_74, hW_74, gR_76, hR_76, gW_76, hW_76, gR_77, hR_77, gW_77, hW_77, gR_78, hR_78, gW_78, hW_78, gR_79, hR_79, gW_79, hW_79, gR_80, hR_80, gW_80, hW_80, gR_81, hR_81, gW_81, hW_81, gR_82, hR_82, gW_82, hW_82, gR_1000, hR_1000, gR_1001, hR_1001, gR_1002, hR_1002, gR_1003, hR_1003, gJ_39, gJ_40, gJ_41, gJ_42, gJ_43, gJ_44, gJ_75, gQ_32]
          rw [(s6 j hj).1]
      · refine sm (-9223372036854775808) ?_ ?_
        · rw [fE_element_eq, refP_r (d + 2) hs i hk hn s2 s3, in_f p, bI, Bool.cond_false, cF (by decide)]
        · rw [fM_element_eq, isShelfM_s, q1, bI, cF (by decide), isRowM_s _ hs s4, inrow_r hk, bI, cF (by decide), gR_74 hs, iN_c (by omega), s5, within_s, le_predd (by omega), in_f p, bI, cT (by decide)]; rfl
