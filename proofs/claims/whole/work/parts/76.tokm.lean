/-! the reference's side of a sign; pieces; lines -/
theorem tokM (d : Nat) {g : Nat → Int32} {b : Int32} {c n e p t k : Nat} {st : List Int32} {h : zm_H} (ht : t < 8) (hk : k < 5) (hn : st.length = n) (hn2 : n ≤ 36) (hc : c < 20000) (hd : if c ≤ 5 ∨ 18 ≤ c then n < 36 else if 16 ≤ c then 1 ≤ n else 2 ≤ n) (hp : p < e) (he : e ≤ 200) (ec : h.1 60 p = iN c) (rE : mE g t k h) (rs : stk (h.1 65) st) :
    ∃ K, fM_worked_c6 (d + 2) (iN e) (iN t) (iN k) b (iN n) (iN p) h = fM_worked_c6 (d + 2) (iN e) (iN t) (iN k) b (iN (st1 g b st c).length) (iN (p + 1)) K ∧ frM h K ∧ stk (K.1 65) (st1 g b st c) := by
  obtain ⟨g1, g2, g3, g4, g5, g6, g7, g8, g9⟩ := rE
  have hz1 : ¬ iN e ≤ iN p := by simp (disch := omega) only [iN_add, iN_addl, iN_addr, iN_mul, iN_mull, iN_mulr, iN_sub, iN_subl, iN_subr, iN_c, iN_lt, iN_ltl, iN_ltr, iN_le, iN_lel, iN_ler, iN_eq, iN_eql, iN_eqr]; omega
  have pu : ∀ v : Int32, nmv g b c = v → (c ≤ 5 ∨ 18 ≤ c) → (st1 g b st c).length = n + 1 ∧ stk ((zm_ui h 65 n v).1 65) (st1 g b st c) := by
    intro v hv hcc
    refine ⟨?_, ?_⟩
    · unfold st1; rw [if_pos hcc, List.length_cons, hn]
    · unfold st1; rw [if_pos hcc]
      exact ⟨by rw [hn, ui_s, hv], stk_ui st rs (by omega)⟩
  by_cases h18 : 18 ≤ c
  · have hnv : nmv g b c = iN (c - 18) := by
      unfold nmv; split <;> first | omega | rfl
    rw [if_pos (.inr h18)] at hd
    obtain ⟨p1, p2⟩ := pu _ hnv (.inr h18)
    refine ⟨_, ?_, frM_65 _ _ _, p2⟩
    rw [fM_worked_c6_eq, cF hz1, gR_60 (by omega), iN_c (by omega), ec, Bool.cond_true, cT (by simp (disch := omega) only [iN_add, iN_addl, iN_addr, iN_mul, iN_mull, iN_mulr, iN_sub, iN_subl, iN_subr, iN_c, iN_lt, iN_ltl, iN_ltr, iN_le, iN_lel, iN_ler, iN_eq, iN_eql, iN_eqr]; omega), cF (by simp (disch := omega) only [iN_add, iN_addl, iN_addr, iN_mul, iN_mull, iN_mulr, iN_sub, iN_subl, iN_subr, iN_c, iN_lt, iN_ltl, iN_ltr, iN_le, iN_lel, iN_ler, iN_eq, iN_eql, iN_eqr]; omega), gW_65 (by omega), iN_c (by omega), Bool.cond_true, iN_addr, iN_addr, iN_subr (by omega), p1]
  · have un : 16 ≤ c → c < 18 → ∃ v r, st = v :: r ∧ st1 g b st c = unv c v :: r ∧ n = r.length + 1 := by
      intro h1 h2
      rw [if_neg (by omega), if_pos h1] at hd
      cases st with
      | nil => simp at hn; omega
      | cons v r => exact ⟨v, r, rfl, by rw [st1, if_neg (by omega), if_pos h1], by simpa using hn.symm⟩
    have bi : 6 ≤ c → c < 16 → ∃ y x r, st = y :: x :: r ∧ st1 g b st c = biv c x y :: r ∧ n = r.length + 2 := by
      intro h1 h2
      rw [if_neg (by omega), if_neg (by omega)] at hd
      match st, hn with
      | [], hn => simp at hn; omega
      | [y], hn => simp at hn; omega
      | y :: x :: r, hn => exact ⟨y, x, r, rfl, by rw [st1, if_neg (by omega), if_neg (by omega)], by simp at hn; omega⟩
    rcases cases18 (Nat.lt_of_not_le h18) with rfl | rfl | rfl | rfl | rfl | rfl | rfl | rfl | rfl | rfl | rfl | rfl | rfl | rfl | rfl | rfl | rfl | rfl
    · rw [if_pos (by omega)] at hd
      obtain ⟨p1, p2⟩ := pu (g 2) rfl (by omega)
      refine ⟨_, ?_, frM_65 _ _ _, p2⟩
      rw [fM_worked_c6_eq, cF hz1, gR_60 (by omega), iN_c (by omega), ec, Bool.cond_true, cF (by decide), cF (by decide), cT (by decide), cN, cT (by decide), gR_47 ht, Bool.cond_true, iN_c (by omega), gW_65 (by omega), Bool.cond_true, iN_c (by omega), g2, iN_addr, iN_addr, p1]
    · rw [if_pos (by omega)] at hd
      obtain ⟨p1, p2⟩ := pu (g 6) rfl (by omega)
      refine ⟨_, ?_, frM_65 _ _ _, p2⟩
      rw [fM_worked_c6_eq, cF hz1, gR_60 (by omega), iN_c (by omega), ec, Bool.cond_true, cF (by decide), cF (by decide), cT (by decide), cN, cF (by decide), cN, cT (by decide), gR_52 hk, Bool.cond_true, iN_c (by omega), gW_65 (by omega), Bool.cond_true, iN_c (by omega), g6, iN_addr, iN_addr, p1]
    · rw [if_pos (by omega)] at hd
      obtain ⟨p1, p2⟩ := pu (g 3) rfl (by omega)
      refine ⟨_, ?_, frM_65 _ _ _, p2⟩
      rw [fM_worked_c6_eq, cF hz1, gR_60 (by omega), iN_c (by omega), ec, Bool.cond_true, cF (by decide), cF (by decide), cT (by decide), cN, cF (by decide), cN, cF (by decide), cN, cT (by decide), gR_48 ht, Bool.cond_true, iN_c (by omega), gW_65 (by omega), Bool.cond_true, iN_c (by omega), g3, iN_addr, iN_addr, p1]
    · rw [if_pos (by omega)] at hd
      obtain ⟨p1, p2⟩ := pu (g 5) rfl (by omega)
      refine ⟨_, ?_, frM_65 _ _ _, p2⟩
      rw [fM_worked_c6_eq, cF hz1, gR_60 (by omega), iN_c (by omega), ec, Bool.cond_true, cF (by decide), cF (by decide), cT (by decide), cN, cF (by decide), cN, cF (by decide), cN, cF (by decide), cN, cT (by decide), gR_50 ht, Bool.cond_true, iN_c (by omega), gW_65 (by omega), Bool.cond_true, iN_c (by omega), g5, iN_addr, iN_addr, p1]
    · rw [if_pos (by omega)] at hd
      obtain ⟨p1, p2⟩ := pu (g 7) rfl (by omega)
      refine ⟨_, ?_, frM_65 _ _ _, p2⟩
      rw [fM_worked_c6_eq, cF hz1, gR_60 (by omega), iN_c (by omega), ec, Bool.cond_true, cF (by decide), cF (by decide), cT (by decide), cN, cF (by decide), cN, cF (by decide), cN, cF (by decide), cN, cF (by decide), cN, cT (by decide), gW_65 (by omega), Bool.cond_true, iN_c (by omega), g7, iN_addr, iN_addr, p1]
    · rw [if_pos (by omega)] at hd
      obtain ⟨p1, p2⟩ := pu (b) rfl (by omega)
      refine ⟨_, ?_, frM_65 _ _ _, p2⟩
      rw [fM_worked_c6_eq, cF hz1, gR_60 (by omega), iN_c (by omega), ec, Bool.cond_true, cF (by decide), cF (by decide), cT (by decide), cN, cF (by decide), cN, cF (by decide), cN, cF (by decide), cN, cF (by decide), cN, cF (by decide), gW_65 (by omega), Bool.cond_true, iN_c (by omega), iN_addr, iN_addr, p1]
    · obtain ⟨y, x, r, rfl, q1, q2⟩ := bi (by omega) (by omega)
      rw [q1]
      have ry : h.1 65 (r.length + 1) = y := rs.1
      have rx : h.1 65 r.length = x := rs.2.1
      refine ⟨zm_ui h 65 r.length (biv 6 x y), ?_, frM_65 _ _ _, ui_s _ _ _ _, stk_ui r rs.2.2 (by omega)⟩
      · subst q2
        rw [fM_worked_c6_eq, cF hz1, gR_60 (by omega), iN_c (by omega), ec, Bool.cond_true, cF (by decide), cT (by decide), cF (by decide), cN, cF (by decide), show iN (r.length + 2) + -1 = iN (r.length + 1) from iN_dec _, iN_subr (Nat.le_add_left 1 r.length), Nat.add_sub_cancel, gR_65 (by omega), Bool.cond_true, gR_65 (by omega), Bool.cond_true, iN_c (by omega), iN_c (by omega), rx, ry, fM_both_eq, cT (by decide)]
        try simp only [cI]
        have jj : ∀ (v : Int32) (k : zm_H), (cond (!(decide (y = 0))) (cond (!(decide (y = 0))) (some (some (.int v), k)) none) (some (some (.int (0 : Int32)), k)) : zm_R) = some (some (.int (cond (!(decide (y = 0))) v 0)), k) := fun v k => by cases decide (y = 0) <;> rfl
        try rw [jj]
        rw [bI, gW_65 (by omega), Bool.cond_true, iN_addr, List.length_cons]; rfl
    · obtain ⟨y, x, r, rfl, q1, q2⟩ := bi (by omega) (by omega)
      rw [q1]
      have ry : h.1 65 (r.length + 1) = y := rs.1
      have rx : h.1 65 r.length = x := rs.2.1
      refine ⟨zm_ui h 65 r.length (biv 7 x y), ?_, frM_65 _ _ _, ui_s _ _ _ _, stk_ui r rs.2.2 (by omega)⟩
      · subst q2
        rw [fM_worked_c6_eq, cF hz1, gR_60 (by omega), iN_c (by omega), ec, Bool.cond_true, cF (by decide), cT (by decide), cF (by decide), cN, cF (by decide), show iN (r.length + 2) + -1 = iN (r.length + 1) from iN_dec _, iN_subr (Nat.le_add_left 1 r.length), Nat.add_sub_cancel, gR_65 (by omega), Bool.cond_true, gR_65 (by omega), Bool.cond_true, iN_c (by omega), iN_c (by omega), rx, ry, fM_both_eq, cF (by decide), cT (by decide)]
        try simp only [cI]
        have jj : ∀ (v : Int32) (k : zm_H), (cond (!(decide (y = 0))) (cond (!(decide (y = 0))) (some (some (.int v), k)) none) (some (some (.int (0 : Int32)), k)) : zm_R) = some (some (.int (cond (!(decide (y = 0))) v 0)), k) := fun v k => by cases decide (y = 0) <;> rfl
        try rw [jj]
        rw [bI, gW_65 (by omega), Bool.cond_true, iN_addr, List.length_cons]; rfl
    · obtain ⟨y, x, r, rfl, q1, q2⟩ := bi (by omega) (by omega)
      rw [q1]
      have ry : h.1 65 (r.length + 1) = y := rs.1
      have rx : h.1 65 r.length = x := rs.2.1
      refine ⟨zm_ui h 65 r.length (biv 8 x y), ?_, frM_65 _ _ _, ui_s _ _ _ _, stk_ui r rs.2.2 (by omega)⟩
      · subst q2
        rw [fM_worked_c6_eq, cF hz1, gR_60 (by omega), iN_c (by omega), ec, Bool.cond_true, cF (by decide), cT (by decide), cF (by decide), cN, cF (by decide), show iN (r.length + 2) + -1 = iN (r.length + 1) from iN_dec _, iN_subr (Nat.le_add_left 1 r.length), Nat.add_sub_cancel, gR_65 (by omega), Bool.cond_true, gR_65 (by omega), Bool.cond_true, iN_c (by omega), iN_c (by omega), rx, ry, fM_both_eq, cF (by decide), cF (by decide), cT (by decide)]
        try simp only [cI]
        have jj : ∀ (v : Int32) (k : zm_H), (cond (!(decide (y = 0))) (cond (!(decide (y = 0))) (some (some (.int v), k)) none) (some (some (.int (0 : Int32)), k)) : zm_R) = some (some (.int (cond (!(decide (y = 0))) v 0)), k) := fun v k => by cases decide (y = 0) <;> rfl
        try rw [jj]
        rw [bI, gW_65 (by omega), Bool.cond_true, iN_addr, List.length_cons]; rfl
    · obtain ⟨y, x, r, rfl, q1, q2⟩ := bi (by omega) (by omega)
      rw [q1]
      have ry : h.1 65 (r.length + 1) = y := rs.1
      have rx : h.1 65 r.length = x := rs.2.1
      refine ⟨zm_ui h 65 r.length (biv 9 x y), ?_, frM_65 _ _ _, ui_s _ _ _ _, stk_ui r rs.2.2 (by omega)⟩
      · subst q2
        rw [fM_worked_c6_eq, cF hz1, gR_60 (by omega), iN_c (by omega), ec, Bool.cond_true, cF (by decide), cT (by decide), cF (by decide), cN, cF (by decide), show iN (r.length + 2) + -1 = iN (r.length + 1) from iN_dec _, iN_subr (Nat.le_add_left 1 r.length), Nat.add_sub_cancel, gR_65 (by omega), Bool.cond_true, gR_65 (by omega), Bool.cond_true, iN_c (by omega), iN_c (by omega), rx, ry, fM_both_eq, cF (by decide), cF (by decide), cF (by decide), cT (by decide)]
        try simp only [cI]
        have jj : ∀ (v : Int32) (k : zm_H), (cond (!(decide (y = 0))) (cond (!(decide (y = 0))) (some (some (.int v), k)) none) (some (some (.int (0 : Int32)), k)) : zm_R) = some (some (.int (cond (!(decide (y = 0))) v 0)), k) := fun v k => by cases decide (y = 0) <;> rfl
        try rw [jj]
        rw [bI, gW_65 (by omega), Bool.cond_true, iN_addr, List.length_cons]; rfl
    · obtain ⟨y, x, r, rfl, q1, q2⟩ := bi (by omega) (by omega)
      rw [q1]
      have ry : h.1 65 (r.length + 1) = y := rs.1
      have rx : h.1 65 r.length = x := rs.2.1
      refine ⟨zm_ui h 65 r.length (biv 10 x y), ?_, frM_65 _ _ _, ui_s _ _ _ _, stk_ui r rs.2.2 (by omega)⟩
      · subst q2
        rw [fM_worked_c6_eq, cF hz1, gR_60 (by omega), iN_c (by omega), ec, Bool.cond_true, cF (by decide), cT (by decide), cF (by decide), cN, cF (by decide), show iN (r.length + 2) + -1 = iN (r.length + 1) from iN_dec _, iN_subr (Nat.le_add_left 1 r.length), Nat.add_sub_cancel, gR_65 (by omega), Bool.cond_true, gR_65 (by omega), Bool.cond_true, iN_c (by omega), iN_c (by omega), rx, ry, fM_both_eq, cF (by decide), cF (by decide), cF (by decide), cF (by decide), cT (by decide)]
        try simp only [cI]
        have jj : ∀ (v : Int32) (k : zm_H), (cond (!(decide (y = 0))) (cond (!(decide (y = 0))) (some (some (.int v), k)) none) (some (some (.int (0 : Int32)), k)) : zm_R) = some (some (.int (cond (!(decide (y = 0))) v 0)), k) := fun v k => by cases decide (y = 0) <;> rfl
        try rw [jj]
        rw [bI, gW_65 (by omega), Bool.cond_true, iN_addr, List.length_cons]; rfl
    · obtain ⟨y, x, r, rfl, q1, q2⟩ := bi (by omega) (by omega)
      rw [q1]
      have ry : h.1 65 (r.length + 1) = y := rs.1
      have rx : h.1 65 r.length = x := rs.2.1
      refine ⟨zm_ui h 65 r.length (biv 11 x y), ?_, frM_65 _ _ _, ui_s _ _ _ _, stk_ui r rs.2.2 (by omega)⟩
      · subst q2
        rw [fM_worked_c6_eq, cF hz1, gR_60 (by omega), iN_c (by omega), ec, Bool.cond_true, cF (by decide), cT (by decide), cF (by decide), cN, cF (by decide), show iN (r.length + 2) + -1 = iN (r.length + 1) from iN_dec _, iN_subr (Nat.le_add_left 1 r.length), Nat.add_sub_cancel, gR_65 (by omega), Bool.cond_true, gR_65 (by omega), Bool.cond_true, iN_c (by omega), iN_c (by omega), rx, ry, fM_both_eq, cF (by decide), cF (by decide), cF (by decide), cF (by decide), cF (by decide), cT (by decide)]
        try simp only [cI]
        have jj : ∀ (v : Int32) (k : zm_H), (cond (!(decide (y = 0))) (cond (!(decide (y = 0))) (some (some (.int v), k)) none) (some (some (.int (0 : Int32)), k)) : zm_R) = some (some (.int (cond (!(decide (y = 0))) v 0)), k) := fun v k => by cases decide (y = 0) <;> rfl
        try rw [jj]
        rw [bI, gW_65 (by omega), Bool.cond_true, iN_addr, List.length_cons]; rfl
    · obtain ⟨y, x, r, rfl, q1, q2⟩ := bi (by omega) (by omega)
      rw [q1]
      have ry : h.1 65 (r.length + 1) = y := rs.1
      have rx : h.1 65 r.length = x := rs.2.1
      refine ⟨zm_ui h 65 r.length (biv 12 x y), ?_, frM_65 _ _ _, ui_s _ _ _ _, stk_ui r rs.2.2 (by omega)⟩
      · subst q2
        rw [fM_worked_c6_eq, cF hz1, gR_60 (by omega), iN_c (by omega), ec, Bool.cond_true, cF (by decide), cT (by decide), cF (by decide), cN, cF (by decide), show iN (r.length + 2) + -1 = iN (r.length + 1) from iN_dec _, iN_subr (Nat.le_add_left 1 r.length), Nat.add_sub_cancel, gR_65 (by omega), Bool.cond_true, gR_65 (by omega), Bool.cond_true, iN_c (by omega), iN_c (by omega), rx, ry, fM_both_eq, cF (by decide), cF (by decide), cF (by decide), cF (by decide), cF (by decide), cF (by decide), cT (by decide)]
        try simp only [cI]
        have jj : ∀ (v : Int32) (k : zm_H), (cond (!(decide (y = 0))) (cond (!(decide (y = 0))) (some (some (.int v), k)) none) (some (some (.int (0 : Int32)), k)) : zm_R) = some (some (.int (cond (!(decide (y = 0))) v 0)), k) := fun v k => by cases decide (y = 0) <;> rfl
        try rw [jj]
        rw [bI, gW_65 (by omega), Bool.cond_true, iN_addr, List.length_cons]; rfl
    · obtain ⟨y, x, r, rfl, q1, q2⟩ := bi (by omega) (by omega)
      rw [q1]
      have ry : h.1 65 (r.length + 1) = y := rs.1
      have rx : h.1 65 r.length = x := rs.2.1
      refine ⟨zm_ui h 65 r.length (biv 13 x y), ?_, frM_65 _ _ _, ui_s _ _ _ _, stk_ui r rs.2.2 (by omega)⟩
      · subst q2
        rw [fM_worked_c6_eq, cF hz1, gR_60 (by omega), iN_c (by omega), ec, Bool.cond_true, cF (by decide), cT (by decide), cF (by decide), cN, cF (by decide), show iN (r.length + 2) + -1 = iN (r.length + 1) from iN_dec _, iN_subr (Nat.le_add_left 1 r.length), Nat.add_sub_cancel, gR_65 (by omega), Bool.cond_true, gR_65 (by omega), Bool.cond_true, iN_c (by omega), iN_c (by omega), rx, ry, fM_both_eq, cF (by decide), cF (by decide), cF (by decide), cF (by decide), cF (by decide), cF (by decide), cF (by decide), cT (by decide)]
        try simp only [cI]
        have jj : ∀ (v : Int32) (k : zm_H), (cond (!(decide (y = 0))) (cond (!(decide (y = 0))) (some (some (.int v), k)) none) (some (some (.int (0 : Int32)), k)) : zm_R) = some (some (.int (cond (!(decide (y = 0))) v 0)), k) := fun v k => by cases decide (y = 0) <;> rfl
        try rw [jj]
        rw [bI, gW_65 (by omega), Bool.cond_true, iN_addr, List.length_cons]; rfl
    · obtain ⟨y, x, r, rfl, q1, q2⟩ := bi (by omega) (by omega)
      rw [q1]
      have ry : h.1 65 (r.length + 1) = y := rs.1
      have rx : h.1 65 r.length = x := rs.2.1
      refine ⟨zm_ui h 65 r.length (biv 14 x y), ?_, frM_65 _ _ _, ui_s _ _ _ _, stk_ui r rs.2.2 (by omega)⟩
      · subst q2
        rw [fM_worked_c6_eq, cF hz1, gR_60 (by omega), iN_c (by omega), ec, Bool.cond_true, cF (by decide), cT (by decide), cF (by decide), cN, cF (by decide), show iN (r.length + 2) + -1 = iN (r.length + 1) from iN_dec _, iN_subr (Nat.le_add_left 1 r.length), Nat.add_sub_cancel, gR_65 (by omega), Bool.cond_true, gR_65 (by omega), Bool.cond_true, iN_c (by omega), iN_c (by omega), rx, ry, fM_both_eq, cF (by decide), cF (by decide), cF (by decide), cF (by decide), cF (by decide), cF (by decide), cF (by decide), cF (by decide), cT (by decide)]
        try simp only [cI]
        have jj : ∀ (v : Int32) (k : zm_H), (cond (!(decide (y = 0))) (cond (!(decide (y = 0))) (some (some (.int v), k)) none) (some (some (.int (0 : Int32)), k)) : zm_R) = some (some (.int (cond (!(decide (y = 0))) v 0)), k) := fun v k => by cases decide (y = 0) <;> rfl
        try rw [jj]
        rw [bI, gW_65 (by omega), Bool.cond_true, iN_addr, List.length_cons]; rfl
    · obtain ⟨y, x, r, rfl, q1, q2⟩ := bi (by omega) (by omega)
      rw [q1]
      have ry : h.1 65 (r.length + 1) = y := rs.1
      have rx : h.1 65 r.length = x := rs.2.1
      refine ⟨zm_ui h 65 r.length (biv 15 x y), ?_, frM_65 _ _ _, ui_s _ _ _ _, stk_ui r rs.2.2 (by omega)⟩
      · subst q2
        rw [fM_worked_c6_eq, cF hz1, gR_60 (by omega), iN_c (by omega), ec, Bool.cond_true, cF (by decide), cT (by decide), cF (by decide), cN, cF (by decide), show iN (r.length + 2) + -1 = iN (r.length + 1) from iN_dec _, iN_subr (Nat.le_add_left 1 r.length), Nat.add_sub_cancel, gR_65 (by omega), Bool.cond_true, gR_65 (by omega), Bool.cond_true, iN_c (by omega), iN_c (by omega), rx, ry, fM_both_eq, cF (by decide), cF (by decide), cF (by decide), cF (by decide), cF (by decide), cF (by decide), cF (by decide), cF (by decide), cF (by decide)]
        try simp only [cI]
        have jj : ∀ (v : Int32) (k : zm_H), (cond (!(decide (y = 0))) (cond (!(decide (y = 0))) (some (some (.int v), k)) none) (some (some (.int (0 : Int32)), k)) : zm_R) = some (some (.int (cond (!(decide (y = 0))) v 0)), k) := fun v k => by cases decide (y = 0) <;> rfl
        try rw [jj]
        rw [bI, gW_65 (by omega), Bool.cond_true, iN_addr, List.length_cons]; rfl
    · obtain ⟨v, r, rfl, q1, q2⟩ := un (by omega) (by omega)
      rw [q1]
      have rv : h.1 65 r.length = v := rs.1
      refine ⟨zm_ui h 65 r.length (unv 16 v), ?_, frM_65 _ _ _, ui_s _ _ _ _, stk_ui r rs.2 (by omega)⟩
      · subst q2
        rw [fM_worked_c6_eq, cF hz1, gR_60 (by omega), iN_c (by omega), ec, Bool.cond_true, cF (by decide), cT (by decide), cT (by decide), cN, cF (by decide), iN_subr (Nat.le_add_left 1 r.length), Nat.add_sub_cancel, gR_65 (by omega), Bool.cond_true, iN_c (by omega), rv, List.length_cons]
        by_cases q : v = 0
        · rw [cN, cT q, gW_65 (by omega), Bool.cond_true, iN_addr, q]; rfl
        · rw [cN, cF q, gW_65 (by omega), Bool.cond_true, iN_addr, show unv 16 v = 0 by unfold unv; simp [q]]
    · obtain ⟨v, r, rfl, q1, q2⟩ := un (by omega) (by omega)
      rw [q1]
      have rv : h.1 65 r.length = v := rs.1
      refine ⟨zm_ui h 65 r.length (unv 17 v), ?_, frM_65 _ _ _, ui_s _ _ _ _, stk_ui r rs.2 (by omega)⟩
      · subst q2
        rw [fM_worked_c6_eq, cF hz1, gR_60 (by omega), iN_c (by omega), ec, Bool.cond_true, cF (by decide), cT (by decide), cF (by decide), cN, cT (by decide), cN, cT (by decide), iN_subr (Nat.le_add_left 1 r.length), Nat.add_sub_cancel, gR_65 (by omega), Bool.cond_true, iN_c (by omega), rv, List.length_cons]
        rw [gW_65 (by omega), Bool.cond_true, iN_addr]; rfl
theorem st1_len {g : Nat → Int32} {b : Int32} {c : Nat} {st : List Int32} (hd : if c ≤ 5 ∨ 18 ≤ c then st.length < 36 else if 16 ≤ c then 1 ≤ st.length else 2 ≤ st.length) : (st1 g b st c).length = if c ≤ 5 ∨ 18 ≤ c then st.length + 1 else if 16 ≤ c then st.length else st.length - 1 := by
  unfold st1
  by_cases h1 : c ≤ 5 ∨ 18 ≤ c
  · rw [if_pos h1, if_pos h1]; rfl
  · rw [if_neg h1] at hd
    rw [if_neg h1, if_neg h1]
    by_cases h2 : 16 ≤ c
    · rw [if_pos h2] at hd
      rw [if_pos h2, if_pos h2]
      cases st with
      | nil => simp at hd
      | cons v r => rfl
    · rw [if_neg h2] at hd
      rw [if_neg h2, if_neg h2]
      match st, hd with
      | [], hd => simp at hd
      | [y], hd => simp at hd
      | y :: x :: r, hd => simp
theorem dep_cons {c n : Nat} {l : List Nat} {m : Nat} (h : dep 36 n (c :: l) = some m) : (if c ≤ 5 ∨ 18 ≤ c then n < 36 else if 16 ≤ c then 1 ≤ n else 2 ≤ n) ∧ dep 36 (if c ≤ 5 ∨ 18 ≤ c then n + 1 else if 16 ≤ c then n else n - 1) l = some m := by
  rw [dep] at h
  by_cases h1 : c ≤ 5 ∨ 18 ≤ c
  · rw [if_pos h1] at h ⊢
    rw [if_pos h1]
    by_cases h2 : n < 36
    · rw [if_pos h2] at h; exact ⟨h2, h⟩
    · rw [if_neg h2] at h; exact absurd h (by simp)
  · rw [if_neg h1] at h ⊢
    rw [if_neg h1]
    by_cases h3 : 16 ≤ c
    · rw [if_pos h3] at h ⊢
      rw [if_pos h3]
      by_cases h2 : 1 ≤ n
      · rw [if_pos h2] at h; exact ⟨h2, h⟩
      · rw [if_neg h2] at h; exact absurd h (by simp)
    · rw [if_neg h3] at h ⊢
      rw [if_neg h3]
      by_cases h2 : 2 ≤ n
      · rw [if_pos h2] at h; exact ⟨h2, h⟩
      · rw [if_neg h2] at h; exact absurd h (by simp)
theorem dep_le {l : List Nat} : ∀ {n m : Nat}, n ≤ 36 → dep 36 n l = some m → (if l = [] then True else True) ∧ m ≤ 36 := by
  induction l with
  | nil => intro n m h e; rw [dep] at e; cases e; exact ⟨by simp, h⟩
  | cons c l ih =>
    intro n m h e
    obtain ⟨h1, h2⟩ := dep_cons e
    refine ⟨by simp, (ih ?_ h2).2⟩
    by_cases q : c ≤ 5 ∨ 18 ≤ c
    · rw [if_pos q] at h1 ⊢; omega
    · rw [if_neg q]; split <;> omega
/-- a piece of signs, the class's side -/
theorem frgC (d : Nat) {g : Nat → Int32} {b : Int32} {z m : Nat} (hz : z ≤ 128) : ∀ (l : List Nat) (p : Nat) (st : List Int32) (h : zm_H), st.length ≤ 36 → dep 36 st.length l = some m → (∀ c ∈ l, c < 20000) → p + l.length ≤ z → h.1 11 3 = iN st.length → h.1 11 2 = iN z → atL (h.1 12) p (l.map cc) → cE g h → stk (h.1 13) st →
    ∃ K, fLa_valueFor_c10 (d + 2) b 1 (iN p) h = fLa_valueFor_c10 (d + 2) b 1 (iN (p + l.length)) K ∧ frC h K ∧ K.1 11 3 = iN m ∧ stk (K.1 13) (evs g b st l) ∧ (evs g b st l).length = m := by
  intro l
  induction l with
  | nil =>
    intro p st h _ hd _ _ e3 _ _ _ rs
    rw [dep] at hd
    have hm : st.length = m := by injection hd
    exact ⟨h, rfl, frC_r h, by rw [← hm]; exact e3, rs, hm⟩
  | cons c l ih =>
    intro p st h hs hd hc hp e3 e2 ea rE rs
    obtain ⟨d1, d2⟩ := dep_cons hd
    rw [List.length_cons] at hp
    obtain ⟨K, k1, k2, k3, k4⟩ := tokC d (b := b) rfl hs (hc c (List.mem_cons_self ..)) d1 e3 e2 hz (by omega) ea.1 rE rs
    have hl := st1_len (g := g) (b := b) d1
    rw [← hl] at d2
    have hs2 : (st1 g b st c).length ≤ 36 := by
      rw [hl]
      by_cases q : c ≤ 5 ∨ 18 ≤ c
      · rw [if_pos q] at d1 ⊢; omega
      · rw [if_neg q]; split <;> omega
    obtain ⟨M, m1, m2, m3, m4, m5⟩ := ih (p + 1) (st1 g b st c) K hs2 d2 (fun x hx => hc x (List.mem_cons_of_mem _ hx)) (by omega) k3 (by rw [k2.2.1 2 (by omega)]; exact e2) (by rw [k2.1 12 (by omega) (by omega)]; exact ea.2) (cE_f k2 rE) k4
    refine ⟨M, ?_, frC_t k2 m2, m3, m4, m5⟩
    rw [k1, m1, List.length_cons, show p + 1 + l.length = p + (l.length + 1) by omega]
theorem frgM (d : Nat) {g : Nat → Int32} {b : Int32} {e t k : Nat} (ht : t < 8) (hk : k < 5) (he : e ≤ 200) : ∀ (l : List Nat) (p : Nat) (st : List Int32) (h : zm_H), st.length ≤ 36 → dep 36 st.length l = some 1 → (∀ c ∈ l, c < 20000) → p + l.length = e → atL (h.1 60) p (l.map iN) → mE g t k h → stk (h.1 65) st →
    ∃ K, fM_worked_c6 (d + 2) (iN e) (iN t) (iN k) b (iN st.length) (iN p) h = some (some (.int ((evs g b st l).headD 0)), K) ∧ frM h K := by
  intro l
  induction l with
  | nil =>
    intro p st h _ hd _ hp _ _ rs
    rw [dep] at hd
    have hm : st.length = 1 := by injection hd
    obtain rfl : p = e := by simpa using hp
    refine ⟨h, ?_, frM_r h⟩
    rw [fM_worked_c6_eq, cT (by simp (disch := omega) only [iN_add, iN_addl, iN_addr, iN_mul, iN_mull, iN_mulr, iN_sub, iN_subl, iN_subr, iN_c, iN_lt, iN_ltl, iN_ltr, iN_le, iN_lel, iN_ler, iN_eq, iN_eql, iN_eqr]; omega), hR_65 (by decide), Bool.cond_true, c_0]
    match st, hm, rs with
    | [v], _, rs => rw [show h.1 65 0 = v from rs.1]; rfl
  | cons c l ih =>
    intro p st h hs hd hc hp ea rE rs
    obtain ⟨d1, d2⟩ := dep_cons hd
    rw [List.length_cons] at hp
    obtain ⟨K, k1, k2, k4⟩ := tokM d (b := b) ht hk rfl hs (hc c (List.mem_cons_self ..)) d1 (by omega : p < e) he ea.1 rE rs
    have hl := st1_len (g := g) (b := b) d1
    rw [← hl] at d2
    have hs2 : (st1 g b st c).length ≤ 36 := by
      rw [hl]
      by_cases q : c ≤ 5 ∨ 18 ≤ c
      · rw [if_pos q] at d1 ⊢; omega
      · rw [if_neg q]; split <;> omega
    obtain ⟨M, m1, m2⟩ := ih (p + 1) (st1 g b st c) K hs2 d2 (fun x hx => hc x (List.mem_cons_of_mem _ hx)) (by omega) (by rw [k2.1 60 (by omega)]; exact ea.2) (mE_f k2 rE) k4
    exact ⟨M, by rw [k1, m1]; rfl, frM_t k2 m2⟩
