/-! of, tier, mend, undo, redo -/
theorem K_of (d : Nat) {L : Nat} {xs : Nat → Int32} {h : zm_H} (r : RR L xs h) (a w : Int32) : okC L xs (fE_of (d + 6) a w) (fM_of (d + 6) a w) h := by
  have r0 := r
  obtain ⟨T, P, D, A, S, B, Q, W, N, C, T', Lw, G, I, Bd, Sh⟩ := r
  obtain ⟨⟨hT, hP, n1, n2, n3, n4⟩, N1, N2, N3⟩ := N
  by_cases q : w < 0 ∨ 13 ≤ w
  · refine okC_same r0 (-1) ?_ ?_
    · rw [fE_of_eq, has_no (d + 3) h w q, bI, cT (by decide)]
    · rw [fM_of_eq, cN, cF (by grind), isOf_no (d + 2) h w (by grind), bI, cT (by decide)]
  · obtain ⟨w, hw, rfl⟩ := iN_exn 13 rfl (by decide) q
    have hc := cnt_le hT (by omega : P ≤ 8) w
    by_cases p : 0 ≤ a ∧ a < iN (cnt T P w)
    · obtain ⟨n, hn, rfl⟩ := iN_ex p.1 p.2 (by omega)
      refine okC_same r0 (h.1 2 (w * 8 + n)) ?_ ?_
      · rw [fE_of_eq, has_y (d + 3) hT (by omega) n1 n3 rfl hw hn, bI, cF (by decide), read_s (d + 2) hT (by omega) n1 n3 rfl hw hn, bI]
      · rw [fM_of_eq, cN]
        by_cases e : w = 12
        · subst e
          rw [cT (by rfl), isTie_s (d + 3) (by omega) _ _ n2, in_t (c := iN T) p, bI, cF (by decide)]
          have := N1 12 n hw hn
          simp (disch := omega) only [bI, bJ, bV, cN, zi_0, zi_z, Bool.cond_true, Bool.cond_false, decide_true, decide_false, decide_eq_true_eq, Bool.cond_decide, if_true, if_false, ofN12, Bool.not_not, zi_t, zi_f, iN_add, iN_addl, iN_addr, iN_mul, iN_mull, iN_mulr, iN_sub, iN_subl, iN_subr, iN_c, iN_lt, iN_ltl, iN_ltr, iN_le, iN_lel, iN_ler, iN_eq, iN_eql, iN_eqr, gR_2, hR_2, gW_2, hW_2, gR_4, hR_4, gW_4, hW_4, gR_5, hR_5, gW_5, hW_5, gR_6, hR_6, gW_6, hW_6, gR_7, hR_7, gW_7, hW_7, gR_9, hR_9, gW_9, hW_9, gR_10, hR_10, gW_10, hW_10, gR_12, hR_12, gW_12, hW_12, gR_13, hR_13, gW_13, hW_13, gR_16, hR_16, gW_16, hW_16, gR_17, hR_17, gW_17, hW_17, gR_18, hR_18, gW_18, hW_18, gR_19, hR_19, gW_19, hW_19, gR_20, hR_20, gW_20, hW_20, gR_21, hR_21, gW_21, hW_21, gR_22, hR_22, gW_22, hW_22, gR_24, hR_24, gW_24, hW_24, gR_25, hR_25, gW_25, hW_25, gR_27, hR_27, gW_27, hW_27, gR_28, hR_28, gW_28, hW_28, gR_30, hR_30, gW_30, hW_30, gR_31, hR_31, gW_31, hW_31, gR_46, hR_46, gW_46, hW_46, gR_47, hR_47, gW_47, hW_47, gR_48, hR_48, gW_48, hW_48, gR_49, hR_49, gW_49, hW_49, gR_50, hR_50, gW_50, hW_50, gR_51, hR_51, gW_51, hW_51, gR_52, hR_52, gW_52, hW_52, gR_53, hR_53, gW_53, hW_53, gR_54, hR_54, gW_54, hW_54, gR_55, hR_55, gW_55, hW_55, gR_56, hR_56, gW_56, hW_56, gR_57, hR_57, gW_57, hW_57, gR_58, hR_58, gW_58, hW_58, gR_59, hR_59, gW_59, hW_59, gR_60, hR_60, gW_60, hW_60, gR_61, hR_61, gW_61, hW_61, gR_62, hR_62, gW_62, hW_62, gR_63, hR_63, gW_63, hW_63, gR_64, hR_64, gW_64, hW_64, gR_65, hR_65, gW_65, hW_65, gR_66, hR_66, gW_66, hW_66, gR_67, hR_67, gW_67, hW_67, gR_68, hR_68, gW_68, hW_68, gR_69, hR_69, gW_69, hW_69, gR_70, hR_70, gW_70, hW_70, gR_71, hR_71, gW_71, hW_71, gR_72, hR_72, gW_72, hW_72, gR_73, hR_73, gW_73, hW_73, gR_74, hR_74, gW_74, hW_74, gR_76, hR_76, gW_76, hW_76, gR_77, hR_77, gW_77, hW_77, gR_78, hR_78, gW_78, hW_78, gR_79, hR_79, gW_79, hW_79, gR_80, hR_80, gW_80, hW_80, gR_81, hR_81, gW_81, hW_81, gR_82, hR_82, gW_82, hW_82, gR_1000, hR_1000, gR_1001, hR_1001, gR_1002, hR_1002, gR_1003, hR_1003, gJ_39, gJ_40, gJ_41, gJ_42, gJ_43, gJ_44, gJ_75, gQ_32]
          rw [← this]; rfl
        · rw [cF (by simp (disch := omega) only [iN_add, iN_addl, iN_addr, iN_mul, iN_mull, iN_mulr, iN_sub, iN_subl, iN_subr, iN_c, iN_lt, iN_ltl, iN_ltr, iN_le, iN_lel, iN_ler, iN_eq, iN_eql, iN_eqr]; exact e), isOf_s (d + 2) hT hP n2 n4 rfl (by omega), in_t p, bI, cF (by decide)]
          rw [get_s (d + 4) hT (by omega) rfl (by omega) hn, bI, N1 w n hw hn]
    · refine okC_same r0 (-1) ?_ ?_
      · rw [fE_of_eq, has_s (d + 3) n1 n3 rfl hw, in_f p, bI, cT (by decide)]
      · rw [fM_of_eq, cN]
        by_cases e : w = 12
        · subst e
          rw [cT (by rfl), isTie_s (d + 3) (by omega) _ _ n2, in_f (c := iN T) p, bI, cT (by decide)]
        · rw [cF (by simp (disch := omega) only [iN_add, iN_addl, iN_addr, iN_mul, iN_mull, iN_mulr, iN_sub, iN_subl, iN_subr, iN_c, iN_lt, iN_ltl, iN_ltr, iN_le, iN_lel, iN_ler, iN_eq, iN_eql, iN_eqr]; exact e), isOf_s (d + 2) hT hP n2 n4 rfl (by omega), in_f p, bI, cT (by decide)]
theorem rC_add {T P D A : Nat} {h K : zm_H} (r : rC T P D A h) {D' o w n : Nat} {was v : Int32} (hD' : D' ≤ 39) (hD : D = D' + o) (hw : w < 12) (hn : n < cnt T P w) (hf : fitW w was) (hv : fitW w v)
    (k1 : K.1 3 4 = iN (D' + 1)) (k2 : K.1 3 5 = iN (D' + 1)) (k3 : K.1 45 39 = iN (D' + 1)) (k4 : K.1 45 38 = iN (D' + 1))
    (k5 : ∀ i, i < D' → K.1 4 i = h.1 4 (i + o) ∧ K.1 5 i = h.1 5 (i + o) ∧ K.1 6 i = h.1 6 (i + o) ∧ K.1 7 i = h.1 7 (i + o))
    (k6 : K.1 4 D' = iN n) (k7 : K.1 5 D' = iN w) (k8 : K.1 6 D' = was) (k9 : K.1 7 D' = v)
    (k10 : ∀ i j, i < D' → j < 4 → K.1 70 (4 * i + j) = h.1 70 (4 * (i + o) + j))
    (k11 : K.1 70 (4 * D') = iN n) (k12 : K.1 70 (4 * D' + 1) = iN w) (k13 : K.1 70 (4 * D' + 2) = was) (k14 : K.1 70 (4 * D' + 3) = v) : rC T P (D' + 1) (D' + 1) K := by
  obtain ⟨⟨c1, c2, c3, c4, c5, c6⟩, C2⟩ := r
  refine ⟨⟨by omega, by omega, k1, k2, k3, k4⟩, ?_⟩
  intro i hi
  by_cases q : i = D'
  · subst q
    exact ⟨n, w, hw, hn, k6, k11, k7, k12, by rw [k13, k8], by rw [k14, k9], by rw [k8]; exact hf, by rw [k9]; exact hv⟩
  · obtain ⟨n', w', u1, u2, u3, u4, u5, u6, u7, u8, u9, u10⟩ := C2 (i + o) (by omega)
    obtain ⟨l1, l2, l3, l4⟩ := k5 i (by omega)
    have m := fun j => k10 i j (by omega)
    have m0 := m 0 (by omega)
    rw [Nat.add_zero, Nat.add_zero] at m0
    refine ⟨n', w', u1, u2, by rw [l1, u3], by rw [m0, u4], by rw [l2, u5], by rw [m 1 (by omega), u6], by rw [m 2 (by omega), l3, u7], by rw [m 3 (by omega), l4, u8], by rw [l3]; exact u9, by rw [l4]; exact u10⟩
theorem K_mend (d : Nat) {L : Nat} {xs : Nat → Int32} {h : zm_H} (r : RR L xs h) (a w v : Int32) : okC L xs (fE_mend (d + 6) a w v) (fM_mend (d + 6) a w v) h := by
  have r0 := r
  obtain ⟨T, P, D, A, S, B, Q, W, N, C, T', Lw, G, I, Bd, Sh⟩ := r
  have N0 := N
  obtain ⟨⟨hT, hP, n1, n2, n3, n4⟩, N1, N2, N3⟩ := N
  by_cases q : w < 0 ∨ 12 ≤ w
  · refine okC_same r0 (-1) ?_ ?_
    · rw [fE_mend_eq, isAllowed_no (d + 4) h w v q, bI, cT (by decide)]
    · rw [fM_mend_eq, isOf_no (d + 2) h w q, bI, cT (by decide)]
  · obtain ⟨w, hw, rfl⟩ := iN_exn 12 rfl (by decide) q
    have hc := cnt_le hT (by omega : P ≤ 8) w
    by_cases f : (decide (lo w ≤ v) && decide (v ≤ hi w)) = true
    · by_cases p : 0 ≤ a ∧ a < iN (cnt T P w)
      · obtain ⟨n, hn, rfl⟩ := iN_ex p.1 p.2 (by omega)
        have eE : fE_mend (d + 6) (iN n) (iN w) v h = cond (decide (h.1 2 (w * 8 + n) = v)) (some (some (.int (h.1 2 (w * 8 + n))), h)) (zb_V (fCh_add (d + 5) (iN n) (iN w) (h.1 2 (w * 8 + n)) v h) (fun h7 => zb_V (fNu_write (d + 5) (iN w) (iN n) v h7) (fun h8 => some (some (.int (h.1 2 (w * 8 + n))), h8)))) := by
          rw [fE_mend_eq, isAllowed_s (d + 4) W rfl hw, f, bI, cF (by decide), has_y (d + 3) hT (by omega) n1 n3 rfl (by omega) hn, bI, cN, cF (by decide)]
          rw [read_s (d + 2) hT (by omega) n1 n3 rfl (by omega) hn, bI]
        have fv : fitW w v := by
          rw [Bool.and_eq_true, decide_eq_true_eq, decide_eq_true_eq] at f
          exact fit_of f.1 f.2
        have eM : ∀ k : zm_H, k.1 45 0 = iN T → k.1 45 11 = iN P → k.1 (mc w) (mi w n) = h.1 2 (w * 8 + n) → fM_mend (d + 6) (iN n) (iN w) v k = cond (!(decide (h.1 2 (w * 8 + n) = v))) (fM_mend (d + 6) (iN n) (iN w) v k) (some (some (.int (h.1 2 (w * 8 + n))), k)) := by
          intro k n2 n4 e
          by_cases u : h.1 2 (w * 8 + n) = v
          · rw [decide_eq_true u]
            rw [fM_mend_eq, isOf_s (d + 2) hT hP n2 n4 rfl hw, in_t p, bI, cF (by decide), isFit_s (d + 2) rfl hw, f, bI, cN, cF (by decide), get_s (d + 4) hT (by omega) rfl hw hn, bI, e, decide_eq_true u]; rfl
          · rw [decide_eq_false u]; rfl
        by_cases u : h.1 2 (w * 8 + n) = v
        · refine okC_same r0 (h.1 2 (w * 8 + n)) ?_ ?_
          · rw [eE, cT u]
          · rw [eM h n2 n4 (N1 w n (by omega) hn), decide_eq_true u]; rfl
        · obtain ⟨⟨c1, c2, c3, c4, c5, c6⟩, C2⟩ := C
          obtain ⟨K, f1, ⟨D', o, g1, g2, g3, g4, g5, g6, g7, g8, g9, g10, g11⟩, f3, f4⟩ := chAdd_s (d + 3) c3 (by omega) (iN n) (iN w) (h.1 2 (w * 8 + n)) v
          have k1 : K.1 1 1 = iN T := by rw [f3 1 (by omega) (by omega) (by omega) (by omega) (by omega)]; exact n1
          have k3 : K.1 1 2 = iN P := by rw [f3 1 (by omega) (by omega) (by omega) (by omega) (by omega)]; exact n3
          have hE : fE_mend (d + 6) (iN n) (iN w) v h = some (some (.int (h.1 2 (w * 8 + n))), zm_ui K 2 (w * 8 + n) v) := by
            rw [eE, cF u, f1, bV, write_s (d + 2) hT (by omega) k1 k3 rfl (by omega) hn, bV]
          have hm := mc_not2 w
          have hm45 : ∀ b, b = 38 ∨ b = 39 → (zm_ui (zm_ui K 2 (w * 8 + n) v) (mc w) (mi w n) v).1 45 b = h.1 45 b := by
            intro b hb
            rw [ui_r, if_neg, ui_c (by omega), f3 45 (by omega) (by omega) (by omega) (by omega) (by omega)]
            rintro ⟨e1, e2⟩
            have := mi_45 (n := n) (by omega : w < 13) e1.symm
            omega
          have hM1 : fM_mend (d + 6) (iN n) (iN w) v (zm_ui K 2 (w * 8 + n) v) = (fun h7 => cond (!(decide (h7.1 45 39 = 40))) (cond (decide (D < 40)) (some (some (.int (h.1 2 (w * 8 + n))), zm_ui (zm_ui (zm_ui (zm_ui (zm_ui (zm_ui h7 70 (4 * D) (iN n)) 70 (4 * D + 1) (iN w)) 70 (4 * D + 2) (h.1 2 (w * 8 + n))) 70 (4 * D + 3) v) 45 39 (iN (D + 1))) 45 38 (iN (D + 1)))) none) (fM_mend_c55 (d + 6) (iN n) (iN w) v (h.1 2 (w * 8 + n)) 0 h7)) (zm_ui (zm_ui K 2 (w * 8 + n) v) (mc w) (mi w n) v) := by
            have a0 : (zm_ui K 2 (w * 8 + n) v).1 45 = h.1 45 := by rw [ui_f (by omega), f3 45 (by omega) (by omega) (by omega) (by omega) (by omega)]
            have a1 : (zm_ui K 2 (w * 8 + n) v).1 (mc w) (mi w n) = h.1 2 (w * 8 + n) := by
              rw [ui_c (by omega), f3 _ (by omega) (by omega) (by omega) (by omega) (by omega)]; exact N1 w n (by omega) hn
            rw [fM_mend_eq, isOf_s (d + 2) hT hP (by rw [a0]; exact n2) (by rw [a0]; exact n4) rfl hw, in_t p, bI, cF (by decide), isFit_s (d + 2) rfl hw, f, bI, cN, cF (by decide), get_s (d + 4) hT (by omega) rfl hw hn, bI, a1]
            rw [cN, cF u, becomes_s (d + 4) hT (by omega) rfl hw hn, bV]
            have a2 := hm45 39 (.inr rfl)
            rw [c5] at a2
            generalize hX : zm_ui (zm_ui K 2 (w * 8 + n) v) (mc w) (mi w n) v = X at a2 ⊢
            by_cases hD : D < 40
            · simp (disch := omega) only [bI, bJ, bV, cN, zi_0, zi_z, Bool.cond_true, Bool.cond_false, decide_true, decide_false, decide_eq_true_eq, Bool.cond_decide, if_true, if_false, ofN12, Bool.not_not, zi_t, zi_f, iN_add, iN_addl, iN_addr, iN_mul, iN_mull, iN_mulr, iN_sub, iN_subl, iN_subr, iN_c, iN_lt, iN_ltl, iN_ltr, iN_le, iN_lel, iN_ler, iN_eq, iN_eql, iN_eqr, gR_2, hR_2, gW_2, hW_2, gR_4, hR_4, gW_4, hW_4, gR_5, hR_5, gW_5, hW_5, gR_6, hR_6, gW_6, hW_6, gR_7, hR_7, gW_7, hW_7, gR_9, hR_9, gW_9, hW_9, gR_10, hR_10, gW_10, hW_10, gR_12, hR_12, gW_12, hW_12, gR_13, hR_13, gW_13, hW_13, gR_16, hR_16, gW_16, hW_16, gR_17, hR_17, gW_17, hW_17, gR_18, hR_18, gW_18, hW_18, gR_19, hR_19, gW_19, hW_19, gR_20, hR_20, gW_20, hW_20, gR_21, hR_21, gW_21, hW_21, gR_22, hR_22, gW_22, hW_22, gR_24, hR_24, gW_24, hW_24, gR_25, hR_25, gW_25, hW_25, gR_27, hR_27, gW_27, hW_27, gR_28, hR_28, gW_28, hW_28, gR_30, hR_30, gW_30, hW_30, gR_31, hR_31, gW_31, hW_31, gR_46, hR_46, gW_46, hW_46, gR_47, hR_47, gW_47, hW_47, gR_48, hR_48, gW_48, hW_48, gR_49, hR_49, gW_49, hW_49, gR_50, hR_50, gW_50, hW_50, gR_51, hR_51, gW_51, hW_51, gR_52, hR_52, gW_52, hW_52, gR_53, hR_53, gW_53, hW_53, gR_54, hR_54, gW_54, hW_54, gR_55, hR_55, gW_55, hW_55, gR_56, hR_56, gW_56, hW_56, gR_57, hR_57, gW_57, hW_57, gR_58, hR_58, gW_58, hW_58, gR_59, hR_59, gW_59, hW_59, gR_60, hR_60, gW_60, hW_60, gR_61, hR_61, gW_61, hW_61, gR_62, hR_62, gW_62, hW_62, gR_63, hR_63, gW_63, hW_63, gR_64, hR_64, gW_64, hW_64, gR_65, hR_65, gW_65, hW_65, gR_66, hR_66, gW_66, hW_66, gR_67, hR_67, gW_67, hW_67, gR_68, hR_68, gW_68, hW_68, gR_69, hR_69, gW_69, hW_69, gR_70, hR_70, gW_70, hW_70, gR_71, hR_71, gW_71, hW_71, gR_72, hR_72, gW_72, hW_72, gR_73, hR_73, gW_73, hW_73, gR_74, hR_74, gW_74, hW_74, gR_76, hR_76, gW_76, hW_76, gR_77, hR_77, gW_77, hW_77, gR_78, hR_78, gW_78, hW_78, gR_79, hR_79, gW_79, hW_79, gR_80, hR_80, gW_80, hW_80, gR_81, hR_81, gW_81, hW_81, gR_82, hR_82, gW_82, hW_82, gR_1000, hR_1000, gR_1001, hR_1001, gR_1002, hR_1002, gR_1003, hR_1003, gJ_39, gJ_40, gJ_41, gJ_42, gJ_43, gJ_44, gJ_75, gQ_32, ui_s, ui_k, ui_c, a2, hD]
            · obtain rfl : D = 40 := by omega
              dsimp only
              rw [a2, decide_eq_true (show iN 40 = (40 : Int32) from rfl)]; rfl
          have hXa : ∀ a, a ≠ 2 → a ≠ 3 → a ≠ 4 → a ≠ 5 → a ≠ 6 → a ≠ 7 → (a < 45 ∨ 55 < a) → (zm_ui (zm_ui K 2 (w * 8 + n) v) (mc w) (mi w n) v).1 a = h.1 a := by
            intro a a2 a3 a4 a5 a6 a7 ha
            rw [ui_f (by omega), ui_f a2, f3 a a3 a4 a5 a6 a7]
          have hX45 : ∀ b, b ≠ 8 → b ≠ 9 → b ≠ 10 → (zm_ui (zm_ui K 2 (w * 8 + n) v) (mc w) (mi w n) v).1 45 b = h.1 45 b := by
            intro b b8 b9 b10
            rw [ui_r, if_neg, ui_c (by omega), f3 45 (by omega) (by omega) (by omega) (by omega) (by omega)]
            rintro ⟨e1, e2⟩
            have := mi_45 (n := n) (by omega : w < 13) e1.symm
            omega
          have hX3 : ∀ a, 3 ≤ a → a ≤ 7 → (zm_ui (zm_ui K 2 (w * 8 + n) v) (mc w) (mi w n) v).1 a = K.1 a := by
            intro a a3 a7
            rw [ui_f (by omega), ui_f (by omega)]
          have hXN : rN T P (zm_ui (zm_ui K 2 (w * 8 + n) v) (mc w) (mi w n) v) := by
            refine rN_set N0 (by omega) hn (fun _ => fv) ?_ ?_ ?_
            · rw [ui_f (by omega), f3 1 (by omega) (by omega) (by omega) (by omega) (by omega)]
            · show (fun b => if 2 = 2 ∧ b = w * 8 + n then v else K.1 2 b) = (fun b => if 2 = 2 ∧ b = w * 8 + n then v else h.1 2 b)
              rw [f3 2 (by omega) (by omega) (by omega) (by omega) (by omega)]
            · intro a b h1 h2 _
              rw [ui_c (by omega), f3 a (by omega) (by omega) (by omega) (by omega) (by omega)]
          have hX2 : (zm_ui (zm_ui K 2 (w * 8 + n) v) (mc w) (mi w n) v).2 = h.2 := f4
          have hX39 := hX45 39 (by omega) (by omega) (by omega)
          rw [c5] at hX39
          have fw := N2 w n hw hn
          dsimp only at hM1; rw [hX39] at hM1
          generalize hX : zm_ui (zm_ui K 2 (w * 8 + n) v) (mc w) (mi w n) v = X at hM1 hXa hX45 hX3 hXN hX2 hX39
          by_cases hD : D < 40
          · have hD' := g3 hD
            obtain rfl : o = 0 := by omega
            have hM := hM1
            rw [decide_eq_false (by simp (disch := omega) only [iN_add, iN_addl, iN_addr, iN_mul, iN_mull, iN_mulr, iN_sub, iN_subl, iN_subr, iN_c, iN_lt, iN_ltl, iN_ltr, iN_le, iN_lel, iN_ler, iN_eq, iN_eql, iN_eqr]; omega : ¬ (iN D = 40)), decide_eq_true hD, Bool.not_false, Bool.cond_true, Bool.cond_true] at hM
            refine ⟨_, _, _, hE, hM, T, P, D + 1, D + 1, S, B, Q, rW_d ?_ W, rN_d ?_ hXN, rC_add ⟨⟨c1, c2, c3, c4, c5, c6⟩, C2⟩ (D' := D) (o := 0) (w := w) (n := n) (was := h.1 2 (w * 8 + n)) (v := v) (by omega) (by omega) hw hn fw fv ?_ ?_ ?_ ?_ ?_ ?_ ?_ ?_ ?_ ?_ ?_ ?_ ?_ ?_, rT_d ?_ T', rL_d ?_ Lw, rG_d ?_ G, rI_d ?_ I, rB_d ?_ Bd, rS_d ?_ Sh⟩
            · simp (disch := omega) only [dW, ui_f, ui_c, ui_k, ui_2, hXa, and_self]
            · simp (disch := omega) only [dN, ui_f, ui_c, ui_k, ui_2, and_self]
            · simp (disch := omega) only [ui_c, hX3]; rw [g4, hD']
            · simp (disch := omega) only [ui_c, hX3]; rw [g5, hD']
            · simp (disch := omega) only [ui_c, ui_k, ui_s]
            · simp (disch := omega) only [ui_c, ui_k, ui_s]
            · intro i hi
              have := g7 i (by omega)
              simp (disch := omega) only [ui_c, hX3]; exact this
            · simp (disch := omega) only [ui_c, hX3]; rw [← hD']; exact g8
            · simp (disch := omega) only [ui_c, hX3]; rw [← hD']; exact g9
            · simp (disch := omega) only [ui_c, hX3]; rw [← hD']; exact g10
            · simp (disch := omega) only [ui_c, hX3]; rw [← hD']; exact g11
            · intro i j hi hj
              simp (disch := omega) only [ui_c, ui_k, hXa, Nat.add_zero]
            · simp (disch := omega) only [ui_c, ui_k, ui_s]
            · simp (disch := omega) only [ui_c, ui_k, ui_s]
            · simp (disch := omega) only [ui_c, ui_k, ui_s]
            · simp (disch := omega) only [ui_c, ui_k, ui_s]
            · simp (disch := omega) only [dT, ui_f, ui_c, ui_k, ui_2, hXa, hX45, and_self]
            · simp (disch := omega) only [dL, ui_f, ui_c, ui_k, ui_2, hXa, hX45, and_self]
            · simp (disch := omega) only [dG, ui_f, ui_c, ui_k, ui_2, hXa, hX45, and_self]
            · simp (disch := omega) only [dI, ui_f, ui_c, ui_k, ui_2, hXa, hX45, and_self]
            · simp (disch := omega) only [dB, ui_f, ui_c, ui_k, ui_2, hXa, hX45, and_self]
            · simp (disch := omega) only [dS, ui_f, ui_c, ui_k, ui_2, hXa, hX45, hX2, and_self]
          · obtain rfl : D = 40 := by omega
            obtain ⟨rfl, rfl⟩ : o = 1 ∧ D' = 39 := by omega
            obtain ⟨K2, m0, m1, m2, m3, m4, m5, m6, m7, m8, m9, m10⟩ := mshift_s (d + 5) (iN n) (iN w) v (h.1 2 (w * 8 + n)) 156 0 X (by omega) hX39
            have hM := hM1
            rw [show (0 : Int32) = iN 0 from rfl] at hM
            rw [decide_eq_true (show iN 40 = (40 : Int32) from rfl), Bool.not_true, Bool.cond_false, m0] at hM
            refine ⟨_, _, _, hE, hM, T, P, 39 + 1, 39 + 1, S, B, Q, rW_d ?_ W, rN_d ?_ hXN, rC_add ⟨⟨c1, c2, c3, c4, c5, c6⟩, C2⟩ (D' := 39) (o := 1) (w := w) (n := n) (was := h.1 2 (w * 8 + n)) (v := v) (by omega) (by omega) hw hn fw fv ?_ ?_ m1 m2 ?_ ?_ ?_ ?_ ?_ ?_ m7 m8 m9 m10, rT_d ?_ T', rL_d ?_ Lw, rG_d ?_ G, rI_d ?_ I, rB_d ?_ Bd, rS_d ?_ Sh⟩
            · simp (disch := omega) only [dW, m4, hXa, and_self]
            · simp (disch := omega) only [dN, m3, m4, and_self]
            · simp (disch := omega) only [m4, hX3]; exact g4
            · simp (disch := omega) only [m4, hX3]; exact g5
            · intro i hi
              have := g7 i (by omega)
              simp (disch := omega) only [m4, hX3]; exact this
            · simp (disch := omega) only [m4, hX3]; exact g8
            · simp (disch := omega) only [m4, hX3]; exact g9
            · simp (disch := omega) only [m4, hX3]; exact g10
            · simp (disch := omega) only [m4, hX3]; exact g11
            · intro i j hi hj
              rw [m6 _ (by omega), if_pos (by omega), hXa 70 (by omega) (by omega) (by omega) (by omega) (by omega) (by omega) (by omega)]
              rw [show 4 * i + j + 4 = 4 * (i + 1) + j by omega]
            · simp (disch := omega) only [dT, m3, m4, hXa, hX45, and_self]
            · simp (disch := omega) only [dL, m3, m4, hXa, hX45, and_self]
            · simp (disch := omega) only [dG, m3, m4, hXa, hX45, and_self]
            · simp (disch := omega) only [dI, m3, m4, hXa, hX45, and_self]
            · simp (disch := omega) only [dB, m3, m4, hXa, hX45, and_self]
            · simp (disch := omega) only [dS, m3, m4, m5, hXa, hX45, hX2, and_self]
      · refine okC_same r0 (-1) ?_ ?_
        · rw [fE_mend_eq, isAllowed_s (d + 4) W rfl hw, f, bI, cF (by decide), has_s (d + 3) n1 n3 rfl (by omega), in_f p, bI, cN, cT (by decide)]
        · rw [fM_mend_eq, isOf_s (d + 2) hT hP n2 n4 rfl hw, in_f p, bI, cT (by decide)]
    · have f : (decide (lo w ≤ v) && decide (v ≤ hi w)) = false := by simpa using f
      refine okC_same r0 (-1) ?_ ?_
      · rw [fE_mend_eq, isAllowed_s (d + 4) W rfl hw, f, bI, cT (by decide)]
      · rw [fM_mend_eq, isOf_s (d + 2) hT hP n2 n4 rfl hw, bI]
        by_cases p : 0 ≤ a ∧ a < iN (cnt T P w)
        · rw [in_t p, cF (by decide), isFit_s (d + 2) rfl hw, f, bI, cN, cT (by decide)]
        · rw [in_f p, cT (by decide)]
