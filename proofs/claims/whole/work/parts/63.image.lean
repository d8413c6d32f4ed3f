/-! untie, image, back -/
theorem isO_26 : zm_isO 26 4 = true := by decide +kernel
theorem isO_23 : zm_isO 23 4 = true := by decide +kernel
theorem rt_26_0 : zm_rt 26 0 = 27 := by decide +kernel
theorem rt_26_1 : zm_rt 26 1 = 28 := by decide +kernel
theorem c_2 : Int32.toNatClampNeg 2 = 2 := rfl
theorem c_0 : Int32.toNatClampNeg 0 = 0 := rfl
theorem rN_wt {T P : Nat} {h K : zm_H} (r : rN T P h) (k1 : K.1 1 = h.1 1) (k2 : ∀ b, (b < 32 ∨ 40 ≤ b) → (b < 96 ∨ 104 ≤ b) → K.1 2 b = h.1 2 b)
    (k3 : ∀ t, t < T → K.1 50 t = K.1 2 (32 + t) ∧ K.1 51 t = K.1 2 (96 + t)) (k4 : ∀ t, T ≤ t → t < 8 → K.1 2 (32 + t) = 0 ∧ K.1 2 (96 + t) = 0) (k6 : ∀ t, t < T → 0 ≤ K.1 2 (32 + t) ∧ K.1 2 (32 + t) ≤ 99)
    (k5 : ∀ a, 45 ≤ a → a ≤ 55 → a ≠ 50 → a ≠ 51 → K.1 a = h.1 a) : rN T P K := by
  obtain ⟨⟨hT, hP, n1, n2, n3, n4⟩, N1, N2, N3⟩ := r
  refine ⟨⟨hT, hP, ?_, ?_, ?_, ?_⟩, ?_, ?_, k4⟩
  · rw [k1]; exact n1
  · rw [k5 45 (by omega) (by omega) (by omega) (by omega)]; exact n2
  · rw [k1]; exact n3
  · rw [k5 45 (by omega) (by omega) (by omega) (by omega)]; exact n4
  · intro w n hw hn
    have hn' := Nat.lt_of_lt_of_le hn (cnt_le hT (by omega) w)
    by_cases q : w = 4
    · subst q; exact (k3 n hn).1
    · by_cases q2 : w = 12
      · subst q2; exact (k3 n hn).2
      · rw [k2 _ (by omega) (by omega), ← N1 w n hw hn]
        rw [k5 _ (mc_not2 w).2.2.1 (mc_not2 w).2.2.2]
        · rcases cases13 hw with rfl | rfl | rfl | rfl | rfl | rfl | rfl | rfl | rfl | rfl | rfl | rfl | rfl <;> simp [mc] at q q2 ⊢
        · rcases cases13 hw with rfl | rfl | rfl | rfl | rfl | rfl | rfl | rfl | rfl | rfl | rfl | rfl | rfl <;> simp [mc] at q q2 ⊢
  · intro w n hw hn
    have hn' := Nat.lt_of_lt_of_le hn (cnt_le hT (by omega) w)
    by_cases q : w = 4
    · subst q; exact k6 n hn
    · rw [k2 _ (by omega) (by omega)]; exact N2 w n hw hn
theorem K_untie (d : Nat) {L : Nat} {xs : Nat → Int32} {h : zm_H} (r : RR L xs h) (a : Int32) : okC L xs (fE_untie (d + 6) a) (fM_untie (d + 6) a) h := by
  have r0 := r
  obtain ⟨T, P, D, A, S, B, Q, W, N, C, T', Lw, G, I, Bd, Sh⟩ := r
  have N0 := N
  obtain ⟨⟨hT, hP, n1, n2, n3, n4⟩, N1, N2, N3⟩ := N
  by_cases p : 0 ≤ a ∧ a < iN T
  · obtain ⟨n, hn, rfl⟩ := iN_ex p.1 p.2 (by omega)
    have e12 : h.1 51 n = h.1 2 (12 * 8 + n) := N1 12 n (by omega) hn
    obtain ⟨g1, g2, g3, g4⟩ := G
    refine ⟨h.1 2 (12 * 8 + n), zm_ui (zm_ui h 23 4 (h.1 23 4 + 1)) 2 (12 * 8 + n) 0, zm_ui (zm_ui (zm_ui (zm_ui h 23 4 (h.1 23 4 + 1)) 2 (12 * 8 + n) 0) 51 n 0) 66 2 (h.1 66 2 + 1), ?_, ?_, T, P, D, A, S, B, Q, rW_d ?_ W, rN_d ?_ (rN_set (K := zm_ui (zm_ui h 23 4 (h.1 23 4 + 1)) 2 (12 * 8 + n) 0) (w := 12) (n := n) (v := 0) N0 (by omega) hn (fun e => absurd e (by omega)) ?_ ?_ ?_), rC_d ?_ C, rT_d ?_ T', rL_d ?_ Lw, ⟨?_, ?_, ?_, ?_⟩, rI_d ?_ I, rB_d ?_ Bd, rS_d ?_ Sh⟩
    · rw [fE_untie_eq, has_y (d + 3) hT (by omega) n1 n3 (x := 12) (w := 12) rfl (by omega) hn, bI, cN, cF (by decide), read_s (d + 2) hT (by omega) n1 n3 (x := 12) (w := 12) rfl (by omega) hn, bI]
      rw [write_s (d + 2) (T := T) (P := P) (h := zm_ui h 23 4 (h.1 23 4 + 1)) hT (by omega) (by rw [ui_c (by omega)]; exact n1) (by rw [ui_c (by omega)]; exact n3) (x := 12) (w := 12) rfl (by omega) hn, bV]
    · rw [fM_untie_eq, isTie_s (d + 3) (T := T) (by omega) _ _ (by simp (disch := omega) only [ui_c]; exact n2), in_t p, bI, cN, cF (by decide)]
      simp (disch := omega) only [bI, bJ, bV, cN, zi_0, zi_z, Bool.cond_true, Bool.cond_false, decide_true, decide_false, decide_eq_true_eq, Bool.cond_decide, if_true, if_false, ofN12, Bool.not_not, zi_t, zi_f, iN_add, iN_addl, iN_addr, iN_mul, iN_mull, iN_mulr, iN_sub, iN_subl, iN_subr, iN_c, iN_lt, iN_ltl, iN_ltr, iN_le, iN_lel, iN_ler, iN_eq, iN_eql, iN_eqr, gR_2, hR_2, gW_2, hW_2, gR_4, hR_4, gW_4, hW_4, gR_5, hR_5, gW_5, hW_5, gR_6, hR_6, gW_6, hW_6, gR_7, hR_7, gW_7, hW_7, gR_9, hR_9, gW_9, hW_9, gR_10, hR_10, gW_10, hW_10, gR_12, hR_12, gW_12, hW_12, gR_13, hR_13, gW_13, hW_13, gR_16, hR_16, gW_16, hW_16, gR_17, hR_17, gW_17, hW_17, gR_18, hR_18, gW_18, hW_18, gR_19, hR_19, gW_19, hW_19, gR_20, hR_20, gW_20, hW_20, gR_21, hR_21, gW_21, hW_21, gR_22, hR_22, gW_22, hW_22, gR_24, hR_24, gW_24, hW_24, gR_25, hR_25, gW_25, hW_25, gR_27, hR_27, gW_27, hW_27, gR_28, hR_28, gW_28, hW_28, gR_30, hR_30, gW_30, hW_30, gR_31, hR_31, gW_31, hW_31, gR_46, hR_46, gW_46, hW_46, gR_47, hR_47, gW_47, hW_47, gR_48, hR_48, gW_48, hW_48, gR_49, hR_49, gW_49, hW_49, gR_50, hR_50, gW_50, hW_50, gR_51, hR_51, gW_51, hW_51, gR_52, hR_52, gW_52, hW_52, gR_53, hR_53, gW_53, hW_53, gR_54, hR_54, gW_54, hW_54, gR_55, hR_55, gW_55, hW_55, gR_56, hR_56, gW_56, hW_56, gR_57, hR_57, gW_57, hW_57, gR_58, hR_58, gW_58, hW_58, gR_59, hR_59, gW_59, hW_59, gR_60, hR_60, gW_60, hW_60, gR_61, hR_61, gW_61, hW_61, gR_62, hR_62, gW_62, hW_62, gR_63, hR_63, gW_63, hW_63, gR_64, hR_64, gW_64, hW_64, gR_65, hR_65, gW_65, hW_65, gR_66, hR_66, gW_66, hW_66, gR_67, hR_67, gW_67, hW_67, gR_68, hR_68, gW_68, hW_68, gR_69, hR_69, gW_69, hW_69, gR_70, hR_70, gW_70, hW_70, gR_71, hR_71, gW_71, hW_71, gR_72, hR_72, gW_72, hW_72, gR_73, hR_73, gW_73, hW_73, gR_74, hR_74, gW_74, hW_74, gR_76, hR_76, gW_76, hW_76, gR_77, hR_77, gW_77, hW_77, gR_78, hR_78, gW_78, hW_78, gR_79, hR_79, gW_79, hW_79, gR_80, hR_80, gW_80, hW_80, gR_81, hR_81, gW_81, hW_81, gR_82, hR_82, gW_82, hW_82, gR_1000, hR_1000, gR_1001, hR_1001, gR_1002, hR_1002, gR_1003, hR_1003, gJ_39, gJ_40, gJ_41, gJ_42, gJ_43, gJ_44, gJ_75, gQ_32, ui_s, ui_k, ui_c, e12, c_2]
    · simp (disch := omega) only [dW, ui_f, ui_c, ui_k, ui_2, ul_1, ul_f, and_self]
    · simp (disch := omega) only [dN, mc, mi, ui_f, ui_k, ui_c, and_self]
    · simp (disch := omega) only [ui_f]
    · rfl
    · intro a b h1 h2 h3
      simp (disch := omega) only [ui_c]
    · simp (disch := omega) only [dC, ui_f, ui_c, ui_k, ui_2, ul_1, ul_f, and_self]
    · simp (disch := omega) only [dT, ui_f, ui_c, ui_k, ui_2, ul_1, ul_f, and_self]
    · simp (disch := omega) only [dL, ui_f, ui_c, ui_k, ui_2, ul_1, ul_f, and_self]
    · simp (disch := omega) only [ui_s, ui_k, ui_c]; exact g1
    · simp (disch := omega) only [ui_s, ui_k, ui_c]; exact g2
    · simp (disch := omega) only [ui_s, ui_k, ui_c]; rw [g3]
    · simp (disch := omega) only [ui_s, ui_k, ui_c]; exact g4
    · simp (disch := omega) only [dI, ui_f, ui_c, ui_k, ui_2, ul_1, ul_f, and_self]
    · simp (disch := omega) only [dB, ui_f, ui_c, ui_k, ui_2, ul_1, ul_f, and_self]
    · simp (disch := omega) only [dS, ui_f, ui_c, ui_k, ui_2, ul_1, ul_f, and_self]
  · refine okC_same r0 (-1) ?_ ?_
    · rw [fE_untie_eq, has_s (d + 3) n1 n3 (x := 12) (w := 12) rfl (by omega), in_f (c := iN (cnt T P 12)) p, bI, cN, cT (by decide)]
    · rw [fM_untie_eq, isTie_s (d + 3) (by omega) _ _ n2, in_f p, bI, cN, cT (by decide)]
theorem copyTies_s (d : Nat) {T P : Nat} (hT : T ≤ 8) (hP : P ≤ 6) : ∀ (k i : Nat) (h : zm_H), i + k = 8 → h.1 1 1 = iN T → h.1 1 2 = iN P → ∃ K, fLe_copyTies_c2 (d + 4) 26 (iN i) h = some (none, K) ∧ (∀ a, a ≠ 27 → a ≠ 28 → K.1 a = h.1 a) ∧ K.2 = h.2 ∧
    (∀ t, t < 8 → i ≤ t → K.1 27 t = (if t < T then h.1 2 (4 * 8 + t) else 0) ∧ K.1 28 t = (if t < T then h.1 2 (12 * 8 + t) else 0)) ∧ (∀ t, t < i → K.1 27 t = h.1 27 t ∧ K.1 28 t = h.1 28 t) := by
  intro k
  induction k with
  | zero =>
    intro i h hi e1 e2
    obtain rfl : i = 8 := by omega
    refine ⟨h, ?_, fun _ _ _ => rfl, rfl, fun t h1 h2 => absurd h1 (by omega), fun t _ => ⟨rfl, rfl⟩⟩
    rw [fLe_copyTies_c2_eq, cT (by decide)]
  | succ k ih =>
    intro i h hi e1 e2
    have hr : ∀ (w : Nat) (x : Int32) (h : zm_H), x = iN w → (w = 4 ∨ w = 12) → h.1 1 1 = iN T → h.1 1 2 = iN P → fNu_read (d + 3) x (iN i) h = some (some (.int (if i < T then h.1 2 (w * 8 + i) else 0)), h) := by
      intro w x h ex hw e1 e2
      have hc : cnt T P w = T := by rcases hw with rfl | rfl <;> rfl
      by_cases q : i < T
      · rw [if_pos q, read_s d hT (by omega) e1 e2 ex (by omega) (by rw [hc]; exact q)]
      · rw [if_neg q, read_n d hT (by omega) e1 e2 ex (by omega) (by rw [hc]; omega) (by omega)]
    obtain ⟨K, f, k1, k2, k3, k4⟩ := ih (i + 1) (zm_ui (zm_ui h 27 i (if i < T then h.1 2 (4 * 8 + i) else 0)) 28 i (if i < T then h.1 2 (12 * 8 + i) else 0)) (by omega) (by simp (disch := omega) only [ui_c]; exact e1) (by simp (disch := omega) only [ui_c]; exact e2)
    refine ⟨K, ?_, ?_, ?_, ?_, ?_⟩
    · rw [fLe_copyTies_c2_eq, cF (by simp (disch := omega) only [iN_add, iN_addl, iN_addr, iN_mul, iN_mull, iN_mulr, iN_sub, iN_subl, iN_subr, iN_c, iN_lt, iN_ltl, iN_ltr, iN_le, iN_lel, iN_ler, iN_eq, iN_eql, iN_eqr]; omega), isO_26, Bool.cond_true, hr 4 4 h rfl (.inl rfl) e1 e2, bI, rt_26_0, gW_27 (by omega), Bool.cond_true, Bool.cond_true, iN_c (by omega)]
      rw [hr 12 12 _ rfl (.inr rfl) (by simp (disch := omega) only [ui_c]; exact e1) (by simp (disch := omega) only [ui_c]; exact e2), bI, rt_26_1, gW_28 (by omega), Bool.cond_true, iN_addr]
      simp (disch := omega) only [ui_c]
      exact f
    · intro a h1 h2
      rw [k1 a h1 h2]; simp (disch := omega) only [ui_f]
    · rw [k2]; rfl
    · intro t h1 h2
      by_cases q : t = i
      · subst q
        rw [(k4 t (by omega)).1, (k4 t (by omega)).2]
        simp (disch := omega) only [ui_s, ui_c, and_self]
      · have := k3 t h1 (by omega)
        simp (disch := omega) only [ui_c] at this
        exact this
    · intro t h1
      rw [(k4 t (by omega)).1, (k4 t (by omega)).2]
      simp (disch := omega) only [ui_k, ui_c, and_self]
theorem mimage53_s (d : Nat) : ∀ (k i : Nat) (h : zm_H), i + k = 4 → ∃ K, fM_image_c53 (d + 1) (iN i) h = some (some (.int (h.1 66 0)), K) ∧ (∀ a, a ≠ 69 → K.1 a = h.1 a) ∧ K.2 = h.2 ∧
    (∀ t, t < 4 → i ≤ t → K.1 69 t = h.1 66 t) ∧ (∀ t, t < i → K.1 69 t = h.1 69 t) := by
  intro k
  induction k with
  | zero =>
    intro i h hi
    obtain rfl : i = 4 := by omega
    refine ⟨h, ?_, fun _ _ => rfl, rfl, fun t h1 h2 => absurd h1 (by omega), fun t _ => rfl⟩
    rw [fM_image_c53_eq, cT (by decide)]
    simp (disch := omega) only [bI, bJ, bV, cN, zi_0, zi_z, Bool.cond_true, Bool.cond_false, decide_true, decide_false, decide_eq_true_eq, Bool.cond_decide, if_true, if_false, ofN12, Bool.not_not, zi_t, zi_f, gR_2, hR_2, gW_2, hW_2, gR_4, hR_4, gW_4, hW_4, gR_5, hR_5, gW_5, hW_5, gR_6, hR_6, gW_6, hW_6, gR_7, hR_7, gW_7, hW_7, gR_9, hR_9, gW_9, hW_9, gR_10, hR_10, gW_10, hW_10, gR_12, hR_12, gW_12, hW_12, gR_13, hR_13, gW_13, hW_13, gR_16, hR_16, gW_16, hW_16, gR_17, hR_17, gW_17, hW_17, gR_18, hR_18, gW_18, hW_18, gR_19, hR_19, gW_19, hW_19, gR_20, hR_20, gW_20, hW_20, gR_21, hR_21, gW_21, hW_21, gR_22, hR_22, gW_22, hW_22, gR_24, hR_24, gW_24, hW_24, gR_25, hR_25, gW_25, hW_25, gR_27, hR_27, gW_27, hW_27, gR_28, hR_28, gW_28, hW_28, gR_30, hR_30, gW_30, hW_30, gR_31, hR_31, gW_31, hW_31, gR_46, hR_46, gW_46, hW_46, gR_47, hR_47, gW_47, hW_47, gR_48, hR_48, gW_48, hW_48, gR_49, hR_49, gW_49, hW_49, gR_50, hR_50, gW_50, hW_50, gR_51, hR_51, gW_51, hW_51, gR_52, hR_52, gW_52, hW_52, gR_53, hR_53, gW_53, hW_53, gR_54, hR_54, gW_54, hW_54, gR_55, hR_55, gW_55, hW_55, gR_56, hR_56, gW_56, hW_56, gR_57, hR_57, gW_57, hW_57, gR_58, hR_58, gW_58, hW_58, gR_59, hR_59, gW_59, hW_59, gR_60, hR_60, gW_60, hW_60, gR_61, hR_61, gW_61, hW_61, gR_62, hR_62, gW_62, hW_62, gR_63, hR_63, gW_63, hW_63, gR_64, hR_64, gW_64, hW_64, gR_65, hR_65, gW_65, hW_65, gR_66, hR_66, gW_66, hW_66, gR_67, hR_67, gW_67, hW_67, gR_68, hR_68, gW_68, hW_68, gR_69, hR_69, gW_69, hW_69, gR_70, hR_70, gW_70, hW_70, gR_71, hR_71, gW_71, hW_71, gR_72, hR_72, gW_72, hW_72, gR_73, hR_73, gW_73, hW_73, gR_74, hR_74, gW_74, hW_74, gR_76, hR_76, gW_76, hW_76, gR_77, hR_77, gW_77, hW_77, gR_78, hR_78, gW_78, hW_78, gR_79, hR_79, gW_79, hW_79, gR_80, hR_80, gW_80, hW_80, gR_81, hR_81, gW_81, hW_81, gR_82, hR_82, gW_82, hW_82, gR_1000, hR_1000, gR_1001, hR_1001, gR_1002, hR_1002, gR_1003, hR_1003, gJ_39, gJ_40, gJ_41, gJ_42, gJ_43, gJ_44, gJ_75, gQ_32, c_0]
  | succ k ih =>
    intro i h hi
    obtain ⟨K, f, k1, k2, k3, k4⟩ := ih (i + 1) (zm_ui h 69 i (h.1 66 i)) (by omega)
    refine ⟨K, ?_, ?_, ?_, ?_, ?_⟩
    · rw [fM_image_c53_eq, cF (by simp (disch := omega) only [iN_add, iN_addl, iN_addr, iN_mul, iN_mull, iN_mulr, iN_sub, iN_subl, iN_subr, iN_c, iN_lt, iN_ltl, iN_ltr, iN_le, iN_lel, iN_ler, iN_eq, iN_eql, iN_eqr]; omega)]
      simp (disch := omega) only [bI, bJ, bV, cN, zi_0, zi_z, Bool.cond_true, Bool.cond_false, decide_true, decide_false, decide_eq_true_eq, Bool.cond_decide, if_true, if_false, ofN12, Bool.not_not, zi_t, zi_f, iN_add, iN_addl, iN_addr, iN_mul, iN_mull, iN_mulr, iN_sub, iN_subl, iN_subr, iN_c, iN_lt, iN_ltl, iN_ltr, iN_le, iN_lel, iN_ler, iN_eq, iN_eql, iN_eqr, gR_2, hR_2, gW_2, hW_2, gR_4, hR_4, gW_4, hW_4, gR_5, hR_5, gW_5, hW_5, gR_6, hR_6, gW_6, hW_6, gR_7, hR_7, gW_7, hW_7, gR_9, hR_9, gW_9, hW_9, gR_10, hR_10, gW_10, hW_10, gR_12, hR_12, gW_12, hW_12, gR_13, hR_13, gW_13, hW_13, gR_16, hR_16, gW_16, hW_16, gR_17, hR_17, gW_17, hW_17, gR_18, hR_18, gW_18, hW_18, gR_19, hR_19, gW_19, hW_19, gR_20, hR_20, gW_20, hW_20, gR_21, hR_21, gW_21, hW_21, gR_22, hR_22, gW_22, hW_22, gR_24, hR_24, gW_24, hW_24, gR_25, hR_25, gW_25, hW_25, gR_27, hR_27, gW_27, hW_27, gR_28, hR_28, gW_28, hW_28, gR_30, hR_30, gW_30, hW_30, gR_31, hR_31, gW_31, hW_31, gR_46, hR_46, gW_46, hW_46, gR_47, hR_47, gW_47, hW_47, gR_48, hR_48, gW_48, hW_48, gR_49, hR_49, gW_49, hW_49, gR_50, hR_50, gW_50, hW_50, gR_51, hR_51, gW_51, hW_51, gR_52, hR_52, gW_52, hW_52, gR_53, hR_53, gW_53, hW_53, gR_54, hR_54, gW_54, hW_54, gR_55, hR_55, gW_55, hW_55, gR_56, hR_56, gW_56, hW_56, gR_57, hR_57, gW_57, hW_57, gR_58, hR_58, gW_58, hW_58, gR_59, hR_59, gW_59, hW_59, gR_60, hR_60, gW_60, hW_60, gR_61, hR_61, gW_61, hW_61, gR_62, hR_62, gW_62, hW_62, gR_63, hR_63, gW_63, hW_63, gR_64, hR_64, gW_64, hW_64, gR_65, hR_65, gW_65, hW_65, gR_66, hR_66, gW_66, hW_66, gR_67, hR_67, gW_67, hW_67, gR_68, hR_68, gW_68, hW_68, gR_69, hR_69, gW_69, hW_69, gR_70, hR_70, gW_70, hW_70, gR_71, hR_71, gW_71, hW_71, gR_72, hR_72, gW_72, hW_72, gR_73, hR_73, gW_73, hW_73, gR_74, hR_74, gW_74, hW_74, gR_76, hR_76, gW_76, hW_76, gR_77, hR_77, gW_77, hW_77, gR_78, hR_78, gW_78, hW_78, gR_79, hR_79, gW_79, hW_79, gR_80, hR_80, gW_80, hW_80, gR_81, hR_81, gW_81, hW_81, gR_82, hR_82, gW_82, hW_82, gR_1000, hR_1000, gR_1001, hR_1001, gR_1002, hR_1002, gR_1003, hR_1003, gJ_39, gJ_40, gJ_41, gJ_42, gJ_43, gJ_44, gJ_75, gQ_32]
      rw [f]; simp (disch := omega) only [ui_c]
    · intro a h1
      rw [k1 a h1]; simp (disch := omega) only [ui_f]
    · rw [k2]; rfl
    · intro t h1 h2
      by_cases q : t = i
      · subst q
        rw [k4 t (by omega), ui_s]
      · rw [k3 t h1 (by omega), ui_c (by omega)]
    · intro t h1
      rw [k4 t (by omega), ui_k (by omega)]
theorem mimage15_s (d : Nat) : ∀ (k i : Nat) (h : zm_H), i + k = 8 → ∃ K, fM_image_c15 (d + 1) (iN i) h = some (some (.int (h.1 66 0)), K) ∧ (∀ a, a ≠ 67 → a ≠ 68 → a ≠ 69 → K.1 a = h.1 a) ∧ K.2 = h.2 ∧
    (∀ t, t < 4 → K.1 69 t = h.1 66 t) ∧ (∀ t, t < 8 → i ≤ t → K.1 67 t = h.1 50 t ∧ K.1 68 t = h.1 51 t) ∧ (∀ t, t < i → K.1 67 t = h.1 67 t ∧ K.1 68 t = h.1 68 t) := by
  intro k
  induction k with
  | zero =>
    intro i h hi
    obtain rfl : i = 8 := by omega
    obtain ⟨K, f, k1, k2, k3, k4⟩ := mimage53_s d 4 0 h (by omega)
    refine ⟨K, ?_, fun a _ _ h3 => k1 a h3, k2, fun t ht => k3 t ht (by omega), fun t h1 h2 => absurd h1 (by omega), fun t _ => ?_⟩
    · rw [fM_image_c15_eq, cT (by decide)]; exact f
    · rw [k1 _ (by omega), k1 _ (by omega)]; exact ⟨rfl, rfl⟩
  | succ k ih =>
    intro i h hi
    obtain ⟨K, f, k1, k2, k3, k4, k5⟩ := ih (i + 1) (zm_ui (zm_ui h 67 i (h.1 50 i)) 68 i (h.1 51 i)) (by omega)
    refine ⟨K, ?_, ?_, ?_, ?_, ?_, ?_⟩
    · rw [fM_image_c15_eq, cF (by simp (disch := omega) only [iN_add, iN_addl, iN_addr, iN_mul, iN_mull, iN_mulr, iN_sub, iN_subl, iN_subr, iN_c, iN_lt, iN_ltl, iN_ltr, iN_le, iN_lel, iN_ler, iN_eq, iN_eql, iN_eqr]; omega)]
      simp (disch := omega) only [bI, bJ, bV, cN, zi_0, zi_z, Bool.cond_true, Bool.cond_false, decide_true, decide_false, decide_eq_true_eq, Bool.cond_decide, if_true, if_false, ofN12, Bool.not_not, zi_t, zi_f, iN_add, iN_addl, iN_addr, iN_mul, iN_mull, iN_mulr, iN_sub, iN_subl, iN_subr, iN_c, iN_lt, iN_ltl, iN_ltr, iN_le, iN_lel, iN_ler, iN_eq, iN_eql, iN_eqr, gR_2, hR_2, gW_2, hW_2, gR_4, hR_4, gW_4, hW_4, gR_5, hR_5, gW_5, hW_5, gR_6, hR_6, gW_6, hW_6, gR_7, hR_7, gW_7, hW_7, gR_9, hR_9, gW_9, hW_9, gR_10, hR_10, gW_10, hW_10, gR_12, hR_12, gW_12, hW_12, gR_13, hR_13, gW_13, hW_13, gR_16, hR_16, gW_16, hW_16, gR_17, hR_17, gW_17, hW_17, gR_18, hR_18, gW_18, hW_18, gR_19, hR_19, gW_19, hW_19, gR_20, hR_20, gW_20, hW_20, gR_21, hR_21, gW_21, hW_21, gR_22, hR_22, gW_22, hW_22, gR_24, hR_24, gW_24, hW_24, gR_25, hR_25, gW_25, hW_25, gR_27, hR_27, gW_27, hW_27, gR_28, hR_28, gW_28, hW_28, gR_30, hR_30, gW_30, hW_30, gR_31, hR_31, gW_31, hW_31, gR_46, hR_46, gW_46, hW_46, gR_47, hR_47, gW_47, hW_47, gR_48, hR_48, gW_48, hW_48, gR_49, hR_49, gW_49, hW_49, gR_50, hR_50, gW_50, hW_50, gR_51, hR_51, gW_51, hW_51, gR_52, hR_52, gW_52, hW_52, gR_53, hR_53, gW_53, hW_53, gR_54, hR_54, gW_54, hW_54, gR_55, hR_55, gW_55, hW_55, gR_56, hR_56, gW_56, hW_56, gR_57, hR_57, gW_57, hW_57, gR_58, hR_58, gW_58, hW_58, gR_59, hR_59, gW_59, hW_59, gR_60, hR_60, gW_60, hW_60, gR_61, hR_61, gW_61, hW_61, gR_62, hR_62, gW_62, hW_62, gR_63, hR_63, gW_63, hW_63, gR_64, hR_64, gW_64, hW_64, gR_65, hR_65, gW_65, hW_65, gR_66, hR_66, gW_66, hW_66, gR_67, hR_67, gW_67, hW_67, gR_68, hR_68, gW_68, hW_68, gR_69, hR_69, gW_69, hW_69, gR_70, hR_70, gW_70, hW_70, gR_71, hR_71, gW_71, hW_71, gR_72, hR_72, gW_72, hW_72, gR_73, hR_73, gW_73, hW_73, gR_74, hR_74, gW_74, hW_74, gR_76, hR_76, gW_76, hW_76, gR_77, hR_77, gW_77, hW_77, gR_78, hR_78, gW_78, hW_78, gR_79, hR_79, gW_79, hW_79, gR_80, hR_80, gW_80, hW_80, gR_81, hR_81, gW_81, hW_81, gR_82, hR_82, gW_82, hW_82, gR_1000, hR_1000, gR_1001, hR_1001, gR_1002, hR_1002, gR_1003, hR_1003, gJ_39, gJ_40, gJ_41, gJ_42, gJ_43, gJ_44, gJ_75, gQ_32, ui_c]
      rw [f]; simp (disch := omega) only [ui_c]
    · intro a h1 h2 h3
      rw [k1 a h1 h2 h3]; simp (disch := omega) only [ui_f]
    · rw [k2]; rfl
    · intro t h1
      rw [k3 t h1]; simp (disch := omega) only [ui_c]
    · intro t h1 h2
      by_cases q : t = i
      · subst q
        rw [(k5 t (by omega)).1, (k5 t (by omega)).2]
        simp (disch := omega) only [ui_s, ui_c, and_self]
      · have := k4 t h1 (by omega)
        simp (disch := omega) only [ui_c] at this
        exact this
    · intro t h1
      rw [(k5 t (by omega)).1, (k5 t (by omega)).2]
      simp (disch := omega) only [ui_k, ui_c, and_self]
theorem K_image (d : Nat) {L : Nat} {xs : Nat → Int32} {h : zm_H} (r : RR L xs h) : okC L xs (fE_image (d + 6)) (fM_image (d + 6)) h := by
  have r0 := r
  obtain ⟨T, P, D, A, S, B, Q, W, N, C, T', Lw, G, I, Bd, Sh⟩ := r
  have N0 := N
  obtain ⟨⟨hT, hP, n1, n2, n3, n4⟩, N1, N2, N3⟩ := N
  have G0 := G
  obtain ⟨g1, g2, g3, g4⟩ := G
  obtain ⟨K, f, k1, k2, k3, k4⟩ := copyTies_s (d + 1) hT hP 8 0 (zm_ui (zm_ui (zm_ui (zm_ui h 26 2 (h.1 23 2)) 26 3 (h.1 23 3)) 26 4 (h.1 23 4)) 26 5 (h.1 23 5)) (by omega) (by simp (disch := omega) only [ui_c]; exact n1) (by simp (disch := omega) only [ui_c]; exact n3)
  have hE : fE_image (d + 6) h = some (some (.int (h.1 23 2)), zm_ui K 0 10 1) := by
    rw [fE_image_eq, fLe_copyFrom_eq, isO_26, isO_23]
    simp (disch := omega) only [bI, bJ, bV, cN, zi_0, zi_z, Bool.cond_true, Bool.cond_false, decide_true, decide_false, decide_eq_true_eq, Bool.cond_decide, if_true, if_false, ofN12, Bool.not_not, zi_t, zi_f, ui_s, ui_k, ui_c]
    rw [fLe_copyTies_eq, show (0 : Int32) = iN 0 from rfl, f]
    simp (disch := omega) only [bI, bJ, bV, cN, zi_0, zi_z, Bool.cond_true, Bool.cond_false, decide_true, decide_false, decide_eq_true_eq, Bool.cond_decide, if_true, if_false, ofN12, Bool.not_not, zi_t, zi_f, ui_c, k1]
  obtain ⟨M, m0, m1, m2, m3, m4, m5⟩ := mimage15_s (d + 5) 8 0 (zm_ui (zm_ui (zm_ui K 0 10 1) 45 33 1) 45 34 (iN T)) (by omega)
  have hM : fM_image (d + 6) (zm_ui K 0 10 1) = some (some (.int (h.1 23 2)), M) := by
    rw [fM_image_eq, show (0 : Int32) = iN 0 from rfl]
    simp (disch := omega) only [ui_s, ui_k, ui_c, k1, n2]
    rw [m0]
    simp (disch := omega) only [ui_s, ui_k, ui_c, k1, g1]
  refine ⟨_, _, _, hE, hM, T, P, D, A, S, B, Q, rW_d ?_ W, rN_d ?_ N0, rC_d ?_ C, rT_d ?_ T', rL_d ?_ Lw, rG_d ?_ G0, ⟨?_, .inr ⟨?_, ?_, ?_, ?_, ?_, T, by omega, ?_, ?_, ?_⟩⟩, rB_d ?_ Bd, rS_d ?_ Sh⟩
  · simp (disch := omega) only [dW, ui_f, ui_c, ui_k, ui_2, ul_1, ul_f, m1, k1, and_self]
  · simp (disch := omega) only [dN, ui_f, ui_c, ui_k, ui_2, ul_1, ul_f, m1, k1, and_self]
  · simp (disch := omega) only [dC, ui_f, ui_c, ui_k, ui_2, ul_1, ul_f, m1, k1, and_self]
  · simp (disch := omega) only [dT, ui_f, ui_c, ui_k, ui_2, ul_1, ul_f, m1, k1, and_self]
  · simp (disch := omega) only [dL, ui_f, ui_c, ui_k, ui_2, ul_1, ul_f, m1, k1, and_self]
  · simp (disch := omega) only [dG, ui_f, ui_c, ui_k, ui_2, ul_1, ul_f, m1, k1, and_self]
  · simp (disch := omega) only [ui_s, ui_k, ui_c, k1, m1]
  · simp (disch := omega) only [ui_s, ui_k, ui_c, k1, m1]
  · simp (disch := omega) only [ui_s, ui_k, ui_c, k1, m1, m3]; exact g1
  · simp (disch := omega) only [ui_s, ui_k, ui_c, k1, m1, m3]; exact g2
  · simp (disch := omega) only [ui_s, ui_k, ui_c, k1, m1, m3]; exact g3
  · simp (disch := omega) only [ui_s, ui_k, ui_c, k1, m1, m3]; exact g4
  · simp (disch := omega) only [ui_s, ui_k, ui_c, k1, m1]
  · intro t ht
    rw [(m4 t (by omega) (by omega)).1, (m4 t (by omega) (by omega)).2]
    have e1 := (k3 t (by omega) (by omega)).1
    have e2 := (k3 t (by omega) (by omega)).2
    rw [if_pos ht] at e1 e2
    simp (disch := omega) only [ui_c] at e1 e2
    simp (disch := omega) only [m1, ui_c, k1, e1, e2]
    exact ⟨N1 4 t (by omega) ht, N1 12 t (by omega) ht, N2 4 t (by omega) ht⟩
  · intro t ht h8
    have e1 := (k3 t (by omega) (by omega)).1
    have e2 := (k3 t (by omega) (by omega)).2
    rw [if_neg (by omega)] at e1 e2
    simp (disch := omega) only [m1, ui_c, e1, e2, and_self]
  · simp (disch := omega) only [dB, ui_f, ui_c, ui_k, ui_2, ul_1, ul_f, m1, k1, and_self]
  · simp (disch := omega) only [dS, ui_f, ui_c, ui_k, ui_2, ul_1, ul_f, m1, k1, m2, k2, and_self]
