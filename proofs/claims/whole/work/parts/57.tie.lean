/-! tie -/
theorem iN_lt0 {n : Nat} (h : n < 2147483648) : ¬ iN n < 0 := by
  rw [show (0 : Int32) = iN 0 from rfl, iN_lt h (by omega)]; omega
theorem rN_tie {T P : Nat} {h : zm_H} (r : rN T P h) (hT' : T < 8) (a b s : Int32) (fa : fitW 0 a) (fb : fitW 1 b) (fs : fitW 2 s) : rN (T + 1) P (zm_ui (zm_ui (zm_ui (zm_ui (zm_ui (zm_ui (zm_ui (zm_ui (zm_ui (zm_ui (zm_ui (zm_ui h 1 1 (iN (T + 1))) 2 (0 * 8 + T) a) 2 (1 * 8 + T) b) 2 (2 * 8 + T) s) 2 (3 * 8 + T) 200) 46 T a) 47 T b) 48 T s) 49 T 200) 50 T 0) 51 T 0) 45 0 (iN (T + 1))) := by
  obtain ⟨⟨hT, hP, n1, n2, n3, n4⟩, N1, N2, N3⟩ := r
  refine ⟨⟨by omega, hP, ?_, ?_, ?_, ?_⟩, ?_, ?_, ?_⟩
  · simp (disch := omega) only [ui_s, ui_k, ui_c]
  · simp (disch := omega) only [ui_s, ui_k, ui_c]
  · simp (disch := omega) only [ui_s, ui_k, ui_c, n3]
  · simp (disch := omega) only [ui_s, ui_k, ui_c, n4]
  · intro w n hw hn
    have hn' := Nat.lt_of_lt_of_le hn (cnt_le (by omega) (by omega) w)
    rcases cases13 hw with rfl | rfl | rfl | rfl | rfl | rfl | rfl | rfl | rfl | rfl | rfl | rfl | rfl <;> simp only [mc, mi] <;> by_cases e : n = T <;>
      simp (disch := omega) only [e, ui_s, ui_k, ui_c] <;> first
      | exact (N3 T (by omega) hT').1.symm
      | exact (N3 T (by omega) hT').2.symm
      | (refine N1 _ n hw ?_; simp [cnt] at hn ⊢; omega)
      | (refine N1 _ n hw ?_; simpa [cnt] using hn)
      | (refine N1 _ T hw ?_; subst e; simpa [cnt] using hn)
  · intro w n hw hn
    have hn' := Nat.lt_of_lt_of_le hn (cnt_le (by omega) (by omega) w)
    have r0 : (zm_ui (zm_ui (zm_ui (zm_ui (zm_ui (zm_ui (zm_ui (zm_ui (zm_ui (zm_ui (zm_ui (zm_ui h 1 1 (iN (T + 1))) 2 (0 * 8 + T) a) 2 (1 * 8 + T) b) 2 (2 * 8 + T) s) 2 (3 * 8 + T) 200) 46 T a) 47 T b) 48 T s) 49 T 200) 50 T 0) 51 T 0) 45 0 (iN (T + 1))).1 2 (0 * 8 + T) = a := by simp (disch := omega) only [ui_s, ui_k, ui_c]
    have r1 : (zm_ui (zm_ui (zm_ui (zm_ui (zm_ui (zm_ui (zm_ui (zm_ui (zm_ui (zm_ui (zm_ui (zm_ui h 1 1 (iN (T + 1))) 2 (0 * 8 + T) a) 2 (1 * 8 + T) b) 2 (2 * 8 + T) s) 2 (3 * 8 + T) 200) 46 T a) 47 T b) 48 T s) 49 T 200) 50 T 0) 51 T 0) 45 0 (iN (T + 1))).1 2 (1 * 8 + T) = b := by simp (disch := omega) only [ui_s, ui_k, ui_c]
    have r2 : (zm_ui (zm_ui (zm_ui (zm_ui (zm_ui (zm_ui (zm_ui (zm_ui (zm_ui (zm_ui (zm_ui (zm_ui h 1 1 (iN (T + 1))) 2 (0 * 8 + T) a) 2 (1 * 8 + T) b) 2 (2 * 8 + T) s) 2 (3 * 8 + T) 200) 46 T a) 47 T b) 48 T s) 49 T 200) 50 T 0) 51 T 0) 45 0 (iN (T + 1))).1 2 (2 * 8 + T) = s := by simp (disch := omega) only [ui_s, ui_k, ui_c]
    have r3 : (zm_ui (zm_ui (zm_ui (zm_ui (zm_ui (zm_ui (zm_ui (zm_ui (zm_ui (zm_ui (zm_ui (zm_ui h 1 1 (iN (T + 1))) 2 (0 * 8 + T) a) 2 (1 * 8 + T) b) 2 (2 * 8 + T) s) 2 (3 * 8 + T) 200) 46 T a) 47 T b) 48 T s) 49 T 200) 50 T 0) 51 T 0) 45 0 (iN (T + 1))).1 2 (3 * 8 + T) = 200 := by simp (disch := omega) only [ui_s, ui_k, ui_c]
    have r4 : ∀ y, y ≠ 0 * 8 + T → y ≠ 1 * 8 + T → y ≠ 2 * 8 + T → y ≠ 3 * 8 + T → (zm_ui (zm_ui (zm_ui (zm_ui (zm_ui (zm_ui (zm_ui (zm_ui (zm_ui (zm_ui (zm_ui (zm_ui h 1 1 (iN (T + 1))) 2 (0 * 8 + T) a) 2 (1 * 8 + T) b) 2 (2 * 8 + T) s) 2 (3 * 8 + T) 200) 46 T a) 47 T b) 48 T s) 49 T 200) 50 T 0) 51 T 0) 45 0 (iN (T + 1))).1 2 y = h.1 2 y := by
      intro y h1 h2 h3 h4
      simp (disch := omega) only [ui_k, ui_c]
    generalize (zm_ui (zm_ui (zm_ui (zm_ui (zm_ui (zm_ui (zm_ui (zm_ui (zm_ui (zm_ui (zm_ui (zm_ui h 1 1 (iN (T + 1))) 2 (0 * 8 + T) a) 2 (1 * 8 + T) b) 2 (2 * 8 + T) s) 2 (3 * 8 + T) 200) 46 T a) 47 T b) 48 T s) 49 T 200) 50 T 0) 51 T 0) 45 0 (iN (T + 1))).1 2 = F at r0 r1 r2 r3 r4 ⊢
    by_cases e : w ≤ 4 ∧ n = T
    · obtain ⟨e1, rfl⟩ := e
      have : w = 0 ∨ w = 1 ∨ w = 2 ∨ w = 3 ∨ w = 4 := by omega
      rcases this with rfl | rfl | rfl | rfl | rfl
      · rw [r0]; exact fa
      · rw [r1]; exact fb
      · rw [r2]; exact fs
      · rw [r3]; exact ⟨by decide, by decide⟩
      · rw [r4 _ (by omega) (by omega) (by omega) (by omega), show h.1 2 (4 * 8 + n) = 0 from (N3 n (by omega) hT').1]; exact ⟨by decide, by decide⟩
    · rw [r4 _ (by omega) (by omega) (by omega) (by omega)]
      refine N2 w n hw ?_
      unfold cnt at hn ⊢
      repeat' split
      all_goals (simp_all; try omega)
  · intro t h1 h2
    simp (disch := omega) only [ui_k, ui_c]
    exact N3 t (by omega) h2
theorem K_tie (d : Nat) {L : Nat} {xs : Nat → Int32} {h : zm_H} (r : RR L xs h) (a b : Int32) : okC L xs (fE_tie (d + 5) a b) (fM_tie (d + 5) a b) h := by
  have r0 := r
  obtain ⟨T, P, D, A, S, B, Q, W, N, C, T', Lw, G, I, Bd, Sh⟩ := r
  have N0 := N
  obtain ⟨⟨hT, hP, n1, n2, n3, n4⟩, N1, N2, N3⟩ := N
  have eE : fE_tie (d + 5) a b h = cond (decide (40 ≤ a) && decide (a ≤ 200) && (decide (1 ≤ b) && decide (b ≤ 9))) (fNu_addTie (d + 4) a b 0 h) (some (some (.int (-1)), h)) := by
    rw [fE_tie_eq, isAllowed_s (d + 3) W (x := 0) (w := 0) rfl (by omega), bI, zi_0]
    rw [show lo 0 = 40 from rfl, show hi 0 = 200 from rfl]
    cases (decide (40 ≤ a) && decide (a ≤ 200))
    · rfl
    · rw [Bool.not_true, Bool.cond_false, isAllowed_s (d + 3) W (x := 1) (w := 1) rfl (by omega), bI, zi_0]
      rw [show lo 1 = 1 from rfl, show hi 1 = 9 from rfl]
      cases (decide (1 ≤ b) && decide (b ≤ 9))
      · rfl
      · rcases (show T < 8 ∨ T = 8 by omega) with hT' | rfl
        · rw [addTie_s d hT' (by omega) W n1 n3]; rfl
        · rw [addTie_full (d + 3) n1]; rfl
  have eM : ∀ k : zm_H, k.1 45 0 = iN T → fM_tie (d + 5) a b k = cond (decide (40 ≤ a) && decide (a ≤ 200) && (decide (1 ≤ b) && decide (b ≤ 9))) (cond (decide (T = 8)) (some (some (.int (-3)), k)) (fM_newTie (d + 4) a b 0 k)) (some (some (.int (-1)), k)) := by
    intro k n2
    rw [fM_tie_eq, within_s, bI, zi_0]
    cases (decide (40 ≤ a) && decide (a ≤ 200))
    · rfl
    · rw [Bool.not_true, Bool.cond_false, within_s, bI, zi_0]
      cases (decide (1 ≤ b) && decide (b ≤ 9))
      · rfl
      · rcases (show T < 8 ∨ T = 8 by omega) with hT' | rfl
        · rw [n2, newTie_s (d + 3) hT' n2]; simp (disch := omega) only [bI, bJ, bV, cN, zi_0, zi_z, Bool.cond_true, Bool.cond_false, decide_true, decide_false, decide_eq_true_eq, Bool.cond_decide, if_true, if_false, ofN12, Bool.not_not, zi_t, zi_f, iN_add, iN_addl, iN_addr, iN_mul, iN_mull, iN_mulr, iN_sub, iN_subl, iN_subr, iN_c, iN_lt, iN_ltl, iN_ltr, iN_le, iN_lel, iN_ler, iN_eq, iN_eql, iN_eqr, Bool.not_true, show ¬ T = 8 by omega, Bool.and_self]
        · rw [n2]; rfl
  unfold okC
  rw [eE]
  cases hc : (decide (40 ≤ a) && decide (a ≤ 200) && (decide (1 ≤ b) && decide (b ≤ 9)))
  · exact ⟨_, _, _, rfl, by rw [eM h n2, hc]; rfl, r0⟩
  · rcases (show T < 8 ∨ T = 8 by omega) with hT' | rfl
    · refine ⟨iN T, _, zm_ui (zm_ui (zm_ui (zm_ui (zm_ui (zm_ui (zm_ui (zm_ui (zm_ui (zm_ui (zm_ui (zm_ui h 1 1 (iN (T + 1))) 2 (0 * 8 + T) a) 2 (1 * 8 + T) b) 2 (2 * 8 + T) 0) 2 (3 * 8 + T) 200) 46 T a) 47 T b) 48 T 0) 49 T 200) 50 T 0) 51 T 0) 45 0 (iN (T + 1)), addTie_s d hT' (by omega) W n1 n3 a b 0, ?_, ?_⟩
      · rw [eM _ (by simp (disch := omega) only [ui_c]; exact n2), hc]
        rw [decide_eq_false (by omega), Bool.cond_true, Bool.cond_false, newTie_s (d + 3) hT' (by simp (disch := omega) only [ui_c]; exact n2)]
      · refine ⟨T + 1, P, D, A, S, B, Q, rW_d ?_ W, ?_, rC_mono (by omega) (by omega) (rC_d ?_ C), rT_d ?_ T', rL_d ?_ Lw, rG_d ?_ G, rI_mono (by omega) (rI_d ?_ I), rB_d ?_ Bd, rS_d ?_ Sh⟩
        · simp (disch := omega) only [dW, ui_f, ui_c, ui_k, ui_2, and_self]
        · rw [Bool.and_eq_true, Bool.and_eq_true, Bool.and_eq_true, decide_eq_true_eq, decide_eq_true_eq, decide_eq_true_eq, decide_eq_true_eq] at hc
          exact rN_tie N0 hT' a b 0 hc.1 hc.2 ⟨by decide, by decide⟩
        · simp (disch := omega) only [dC, ui_f, ui_c, ui_k, ui_2, and_self]
        · simp (disch := omega) only [dT, ui_f, ui_c, ui_k, ui_2, and_self]
        · simp (disch := omega) only [dL, ui_f, ui_c, ui_k, ui_2, and_self]
        · simp (disch := omega) only [dG, ui_f, ui_c, ui_k, ui_2, and_self]
        · simp (disch := omega) only [dI, ui_f, ui_c, ui_k, ui_2, and_self]
        · simp (disch := omega) only [dB, ui_f, ui_c, ui_k, ui_2, and_self]
        · simp (disch := omega) only [dS, ui_f, ui_c, ui_k, ui_2, and_self]
    · refine ⟨-3, h, h, ?_, ?_, r0⟩
      · rw [Bool.cond_true, addTie_full (d + 3) n1]
      · rw [eM h n2, hc]; rfl
