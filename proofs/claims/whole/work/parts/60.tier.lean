/-! tier, undo, redo -/
theorem rN_tier {T P : Nat} {h K : zm_H} (r : rN T P h) (hP' : P < 6) (l t s : Int32) (fl : fitW 9 l) (ht : fitW 10 t) (fs : fitW 11 s) (k0 : K.1 1 1 = h.1 1 1) (k1 : K.1 1 2 = iN (P + 1)) (k2 : K.1 45 11 = iN (P + 1)) (k3 : ∀ b, b ≠ 11 → K.1 45 b = h.1 45 b)
    (k4 : K.1 2 = (zm_ui (zm_ui (zm_ui h 2 (9 * 8 + P) l) 2 (10 * 8 + P) t) 2 (11 * 8 + P) s).1 2) (k5 : K.1 53 = (zm_ui h 53 P l).1 53) (k6 : K.1 54 = (zm_ui h 54 P t).1 54) (k7 : K.1 55 = (zm_ui h 55 P s).1 55)
    (k8 : ∀ a, 46 ≤ a → a ≤ 52 → K.1 a = h.1 a) : rN T (P + 1) K := by
  obtain ⟨⟨hT, hP, n1, n2, n3, n4⟩, N1, N2, N3⟩ := r
  refine ⟨⟨by omega, by omega, ?_, ?_, k1, k2⟩, ?_, ?_, ?_⟩
  · rw [k0]; exact n1
  · rw [k3 0 (by omega)]; exact n2
  · intro w n hw hn
    have hn' := Nat.lt_of_lt_of_le hn (cnt_le (by omega) (by omega) w)
    rw [k4]
    rcases cases13 hw with rfl | rfl | rfl | rfl | rfl | rfl | rfl | rfl | rfl | rfl | rfl | rfl | rfl <;> simp only [mc, mi]
    all_goals first
      | (rw [k8 _ (by omega) (by omega)]; simp (disch := omega) only [ui_k]; exact N1 _ n hw hn)
      | (rw [k3 _ (by omega)]; simp (disch := omega) only [ui_k]; exact N1 _ n hw hn)
      | (rw [k5]; by_cases e : n = P
         · subst e; simp (disch := omega) only [ui_s, ui_k]
         · simp (disch := omega) only [ui_k]; exact N1 9 n hw (by simp [cnt] at hn ⊢; omega))
      | (rw [k6]; by_cases e : n = P
         · subst e; simp (disch := omega) only [ui_s, ui_k]
         · simp (disch := omega) only [ui_k]; exact N1 10 n hw (by simp [cnt] at hn ⊢; omega))
      | (rw [k7]; by_cases e : n = P
         · subst e; simp (disch := omega) only [ui_s, ui_k]
         · simp (disch := omega) only [ui_k]; exact N1 11 n hw (by simp [cnt] at hn ⊢; omega))
  · intro w n hw hn
    have hn' := Nat.lt_of_lt_of_le hn (cnt_le (by omega) (by omega) w)
    rw [k4]
    have r0 : (zm_ui (zm_ui (zm_ui h 2 (9 * 8 + P) l) 2 (10 * 8 + P) t) 2 (11 * 8 + P) s).1 2 (9 * 8 + P) = l := by simp (disch := omega) only [ui_s, ui_k, ui_c]
    have r1 : (zm_ui (zm_ui (zm_ui h 2 (9 * 8 + P) l) 2 (10 * 8 + P) t) 2 (11 * 8 + P) s).1 2 (10 * 8 + P) = t := by simp (disch := omega) only [ui_s, ui_k, ui_c]
    have r2 : (zm_ui (zm_ui (zm_ui h 2 (9 * 8 + P) l) 2 (10 * 8 + P) t) 2 (11 * 8 + P) s).1 2 (11 * 8 + P) = s := by simp (disch := omega) only [ui_s, ui_k, ui_c]
    have r4 : ∀ y, y ≠ 9 * 8 + P → y ≠ 10 * 8 + P → y ≠ 11 * 8 + P → (zm_ui (zm_ui (zm_ui h 2 (9 * 8 + P) l) 2 (10 * 8 + P) t) 2 (11 * 8 + P) s).1 2 y = h.1 2 y := by
      intro y h1 h2 h3
      simp (disch := omega) only [ui_k, ui_c]
    generalize (zm_ui (zm_ui (zm_ui h 2 (9 * 8 + P) l) 2 (10 * 8 + P) t) 2 (11 * 8 + P) s).1 2 = F at r0 r1 r2 r4 ⊢
    by_cases e : 9 ≤ w ∧ n = P
    · obtain ⟨e1, rfl⟩ := e
      have : w = 9 ∨ w = 10 ∨ w = 11 := by omega
      rcases this with rfl | rfl | rfl
      · rw [r0]; exact fl
      · rw [r1]; exact ht
      · rw [r2]; exact fs
    · rw [r4 _ (by omega) (by omega) (by omega)]
      refine N2 w n hw ?_
      unfold cnt at hn ⊢
      repeat' split
      all_goals (simp_all; try omega)
  · intro t h1 h2
    rw [k4]
    simp (disch := omega) only [ui_k]
    exact N3 t h1 h2
theorem K_tier (d : Nat) {L : Nat} {xs : Nat → Int32} {h : zm_H} (r : RR L xs h) (a b : Int32) : okC L xs (fE_tier (d + 5) a b) (fM_tier (d + 5) a b) h := by
  have r0 := r
  obtain ⟨T, P, D, A, S, B, Q, W, N, C, T', Lw, G, I, Bd, Sh⟩ := r
  have N0 := N
  obtain ⟨⟨hT, hP, n1, n2, n3, n4⟩, N1, N2, N3⟩ := N
  by_cases q : 0 ≤ a ∧ (1 ≤ a / 10 ∧ a / 10 ≤ 9) ∧ (1 ≤ a - a / 10 * 10 ∧ a - a / 10 * 10 ≤ 4) ∧ (0 ≤ b ∧ b ≤ 200)
  · obtain ⟨q1, ⟨q2, q3⟩, ⟨q4, q5⟩, ⟨q6, q7⟩⟩ := q
    have eE : fE_tier (d + 5) a b h = zb_I (fNu_addTier (d + 4) (a / 10) (a - a / 10 * 10) b h) (fun v8 h7 => some (some (.int v8), h7)) := by
      rw [fE_tier_eq, cF (Int32.not_lt.mpr q1), isAllowed_s (d + 3) W (x := 9) (w := 9) rfl (by omega), show (decide (lo 9 ≤ a / 10) && decide (a / 10 ≤ hi 9)) = true by rw [show lo 9 = 1 from rfl, show hi 9 = 9 from rfl, decide_eq_true q2, decide_eq_true q3]; rfl, bI, cF (by decide)]
      rw [isAllowed_s (d + 3) W (x := 10) (w := 10) rfl (by omega), show (decide (lo 10 ≤ a - a / 10 * 10) && decide (a - a / 10 * 10 ≤ hi 10)) = true by rw [show lo 10 = 1 from rfl, show hi 10 = 4 from rfl, decide_eq_true q4, decide_eq_true q5]; rfl, bI, cF (by decide)]
      rw [isBeginning_s, decide_eq_true q6, decide_eq_true q7, bI, cN, cF (by decide)]
    have eM : ∀ k : zm_H, k.1 45 11 = iN P → fM_tier (d + 5) a b k = cond (decide (P = 6)) (some (some (.int (-3)), k)) (some (some (.int (iN P)), zm_ui (zm_ui (zm_ui (zm_ui k 53 P (a / 10)) 54 P (a - a / 10 * 10)) 55 P b) 45 11 (iN (P + 1)))) := by
      intro k n4
      rw [fM_tier_eq, cF (Int32.not_lt.mpr q1), within_s, decide_eq_true q2, decide_eq_true q3, bI, cF (by decide), isShare_s, decide_eq_true q4, decide_eq_true q5, bI, cF (by decide), isPlace_s, decide_eq_true q6, decide_eq_true q7, bI, cN, cF (by decide)]
      by_cases u : P = 6
      · subst u; rw [n4]; rfl
      · simp (disch := omega) only [bI, bJ, bV, cN, zi_0, zi_z, Bool.cond_true, Bool.cond_false, decide_true, decide_false, decide_eq_true_eq, Bool.cond_decide, if_true, if_false, ofN12, Bool.not_not, zi_t, zi_f, iN_add, iN_addl, iN_addr, iN_mul, iN_mull, iN_mulr, iN_sub, iN_subl, iN_subr, iN_c, iN_lt, iN_ltl, iN_ltr, iN_le, iN_lel, iN_ler, iN_eq, iN_eql, iN_eqr, gR_2, hR_2, gW_2, hW_2, gR_4, hR_4, gW_4, hW_4, gR_5, hR_5, gW_5, hW_5, gR_6, hR_6, gW_6, hW_6, gR_7, hR_7, gW_7, hW_7, gR_9, hR_9, gW_9, hW_9, gR_10, hR_10, gW_10, hW_10, gR_12, hR_12, gW_12, hW_12, gR_13, hR_13, gW_13, hW_13, gR_16, hR_16, gW_16, hW_16, gR_17, hR_17, gW_17, hW_17, gR_18, hR_18, gW_18, hW_18, gR_19, hR_19, gW_19, hW_19, gR_20, hR_20, gW_20, hW_20, gR_21, hR_21, gW_21, hW_21, gR_22, hR_22, gW_22, hW_22, gR_24, hR_24, gW_24, hW_24, gR_25, hR_25, gW_25, hW_25, gR_27, hR_27, gW_27, hW_27, gR_28, hR_28, gW_28, hW_28, gR_30, hR_30, gW_30, hW_30, gR_31, hR_31, gW_31, hW_31, gR_46, hR_46, gW_46, hW_46, gR_47, hR_47, gW_47, hW_47, gR_48, hR_48, gW_48, hW_48, gR_49, hR_49, gW_49, hW_49, gR_50, hR_50, gW_50, hW_50, gR_51, hR_51, gW_51, hW_51, gR_52, hR_52, gW_52, hW_52, gR_53, hR_53, gW_53, hW_53, gR_54, hR_54, gW_54, hW_54, gR_55, hR_55, gW_55, hW_55, gR_56, hR_56, gW_56, hW_56, gR_57, hR_57, gW_57, hW_57, gR_58, hR_58, gW_58, hW_58, gR_59, hR_59, gW_59, hW_59, gR_60, hR_60, gW_60, hW_60, gR_61, hR_61, gW_61, hW_61, gR_62, hR_62, gW_62, hW_62, gR_63, hR_63, gW_63, hW_63, gR_64, hR_64, gW_64, hW_64, gR_65, hR_65, gW_65, hW_65, gR_66, hR_66, gW_66, hW_66, gR_67, hR_67, gW_67, hW_67, gR_68, hR_68, gW_68, hW_68, gR_69, hR_69, gW_69, hW_69, gR_70, hR_70, gW_70, hW_70, gR_71, hR_71, gW_71, hW_71, gR_72, hR_72, gW_72, hW_72, gR_73, hR_73, gW_73, hW_73, gR_74, hR_74, gW_74, hW_74, gR_76, hR_76, gW_76, hW_76, gR_77, hR_77, gW_77, hW_77, gR_78, hR_78, gW_78, hW_78, gR_79, hR_79, gW_79, hW_79, gR_80, hR_80, gW_80, hW_80, gR_81, hR_81, gW_81, hW_81, gR_82, hR_82, gW_82, hW_82, gR_1000, hR_1000, gR_1001, hR_1001, gR_1002, hR_1002, gR_1003, hR_1003, gJ_39, gJ_40, gJ_41, gJ_42, gJ_43, gJ_44, gJ_75, gQ_32, ui_s, ui_k, ui_c, n4, u]
    by_cases u : P = 6
    · subst u
      refine okC_same r0 (-3) ?_ ?_
      · rw [eE, addTier_full (d + 3) n3, bI]
      · rw [eM h n4]; rfl
    · refine ⟨iN P, zm_ui (zm_ui (zm_ui (zm_ui h 1 2 (iN (P + 1))) 2 (9 * 8 + P) (a / 10)) 2 (10 * 8 + P) (a - a / 10 * 10)) 2 (11 * 8 + P) b, zm_ui (zm_ui (zm_ui (zm_ui (zm_ui (zm_ui (zm_ui (zm_ui h 1 2 (iN (P + 1))) 2 (9 * 8 + P) (a / 10)) 2 (10 * 8 + P) (a - a / 10 * 10)) 2 (11 * 8 + P) b) 53 P (a / 10)) 54 P (a - a / 10 * 10)) 55 P b) 45 11 (iN (P + 1)), ?_, ?_, T, P + 1, D, A, S, B, Q, rW_d ?_ W, rN_tier N0 (by omega) (a / 10) (a - a / 10 * 10) b ⟨q2, q3⟩ ⟨q4, q5⟩ ⟨q6, q7⟩ ?_ ?_ ?_ ?_ ?_ ?_ ?_ ?_ ?_, rC_mono (by omega) (by omega) (rC_d ?_ C), rT_d ?_ T', rL_d ?_ Lw, rG_d ?_ G, rI_d ?_ I, rB_d ?_ Bd, rS_d ?_ Sh⟩
      · rw [eE, addTier_s d hT (by omega) n1 n3, bI]
      · rw [eM _ (by simp (disch := omega) only [ui_c]; exact n4), decide_eq_false u]; rfl
      · simp (disch := omega) only [dW, ui_f, ui_c, ui_k, ui_2, and_self]
      · simp (disch := omega) only [ui_c, ui_k]
      · simp (disch := omega) only [ui_c, ui_k, ui_s]
      · simp (disch := omega) only [ui_c, ui_k, ui_s]
      · intro b hb; simp (disch := omega) only [ui_c, ui_k, ui_s]
      · simp (disch := omega) only [ui_f]; rfl
      · simp (disch := omega) only [ui_f]; rfl
      · simp (disch := omega) only [ui_f]; rfl
      · simp (disch := omega) only [ui_f]; rfl
      · intro c h1 h2; simp (disch := omega) only [ui_f]
      · simp (disch := omega) only [dC, ui_f, ui_c, ui_k, ui_2, and_self]
      · simp (disch := omega) only [dT, ui_f, ui_c, ui_k, ui_2, and_self]
      · simp (disch := omega) only [dL, ui_f, ui_c, ui_k, ui_2, and_self]
      · simp (disch := omega) only [dG, ui_f, ui_c, ui_k, ui_2, and_self]
      · simp (disch := omega) only [dI, ui_f, ui_c, ui_k, ui_2, and_self]
      · simp (disch := omega) only [dB, ui_f, ui_c, ui_k, ui_2, and_self]
      · simp (disch := omega) only [dS, ui_f, ui_c, ui_k, ui_2, and_self]
  · have key : ∀ (b1 b2 b3 b4 : Bool), (b1 && b2 && b3 && b4) = false → True := fun _ _ _ _ _ => trivial
    refine okC_same r0 (-1) ?_ ?_
    · rw [fE_tier_eq]
      by_cases q1 : a < 0
      · rw [cT q1]
      · rw [cF q1, isAllowed_s (d + 3) W (x := 9) (w := 9) rfl (by omega), show lo 9 = 1 from rfl, show hi 9 = 9 from rfl, bI, zi_0, isAllowed_s (d + 3) W (x := 10) (w := 10) rfl (by omega), show lo 10 = 1 from rfl, show hi 10 = 4 from rfl, bI, zi_0, isBeginning_s, bI, zi_0]
        by_cases q2 : 1 ≤ a / 10 ∧ a / 10 ≤ 9
        · by_cases q3 : 1 ≤ a - a / 10 * 10 ∧ a - a / 10 * 10 ≤ 4
          · have q4 : ¬ (0 ≤ b ∧ b ≤ 200) := fun e => q ⟨Int32.not_lt.mp q1, q2, q3, e⟩
            rw [show (decide (0 ≤ b) && decide (b ≤ 200)) = false by grind]
            cases (decide (1 ≤ a / 10) && decide (a / 10 ≤ 9)) <;> cases (decide (1 ≤ a - a / 10 * 10) && decide (a - a / 10 * 10 ≤ 4)) <;> rfl
          · rw [show (decide (1 ≤ a - a / 10 * 10) && decide (a - a / 10 * 10 ≤ 4)) = false by grind]
            cases (decide (1 ≤ a / 10) && decide (a / 10 ≤ 9)) <;> rfl
        · rw [show (decide (1 ≤ a / 10) && decide (a / 10 ≤ 9)) = false by grind]; rfl
    · rw [fM_tier_eq]
      by_cases q1 : a < 0
      · rw [cT q1]
      · rw [cF q1, within_s, bI, zi_0, isShare_s, bI, zi_0, isPlace_s, bI, zi_0]
        by_cases q2 : 1 ≤ a / 10 ∧ a / 10 ≤ 9
        · by_cases q3 : 1 ≤ a - a / 10 * 10 ∧ a - a / 10 * 10 ≤ 4
          · have q4 : ¬ (0 ≤ b ∧ b ≤ 200) := fun e => q ⟨Int32.not_lt.mp q1, q2, q3, e⟩
            rw [show (decide (0 ≤ b) && decide (b ≤ 200)) = false by grind]
            cases (decide (1 ≤ a / 10) && decide (a / 10 ≤ 9)) <;> cases (decide (1 ≤ a - a / 10 * 10) && decide (a - a / 10 * 10 ≤ 4)) <;> rfl
          · rw [show (decide (1 ≤ a - a / 10 * 10) && decide (a - a / 10 * 10 ≤ 4)) = false by grind]
            cases (decide (1 ≤ a / 10) && decide (a / 10 ≤ 9)) <;> rfl
        · rw [show (decide (1 ≤ a / 10) && decide (a / 10 ≤ 9)) = false by grind]; rfl
