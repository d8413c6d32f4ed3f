/-! act of both -/
theorem rtC_row (l : List Int32) : ∀ (Q : Nat) (h : zm_H) (i : Nat), i < 24 → (rtC Q l h).1 31 i = if Q ≤ i ∧ i < Q + l.length then l.getD (i - Q) 0 else h.1 31 i := by
  induction l with
  | nil => intro Q h i hi; rw [if_neg (by simp)]; rfl
  | cons o l ih =>
    intro Q h i hi
    rw [rtC, ih _ _ _ hi, List.length_cons]
    by_cases q : i = Q
    · subst q
      rw [if_neg (show ¬ (i + 1 ≤ i ∧ i < i + 1 + l.length) by omega), if_pos (show i ≤ i ∧ i < i + (l.length + 1) by omega), Nat.sub_self, List.getD_cons_zero]
      unfold tC; rw [if_pos hi, ui_c (by omega), ui_s]
    · by_cases q2 : Q + 1 ≤ i ∧ i < Q + 1 + l.length
      · rw [if_pos q2, if_pos (show Q ≤ i ∧ i < Q + (l.length + 1) by omega), show i - Q = (i - (Q + 1)) + 1 by omega, List.getD_cons_succ]
      · rw [if_neg q2, if_neg (show ¬ (Q ≤ i ∧ i < Q + (l.length + 1)) by omega)]
        unfold tC; split
        · rw [ui_c (by omega), ui_k q]
        · rw [ui_c (by omega)]
theorem rtM_row (l : List Int32) : ∀ (Q : Nat) (h : zm_H) (i : Nat), i < 24 → (rtM Q l h).1 72 i = if Q ≤ i ∧ i < Q + l.length then l.getD (i - Q) 0 else h.1 72 i := by
  induction l with
  | nil => intro Q h i hi; rw [if_neg (by simp)]; rfl
  | cons o l ih =>
    intro Q h i hi
    rw [rtM, ih _ _ _ hi, List.length_cons]
    by_cases q : i = Q
    · subst q
      rw [if_neg (show ¬ (i + 1 ≤ i ∧ i < i + 1 + l.length) by omega), if_pos (show i ≤ i ∧ i < i + (l.length + 1) by omega), Nat.sub_self, List.getD_cons_zero]
      unfold tM; rw [if_pos hi, ui_c (by omega), ui_s]
    · by_cases q2 : Q + 1 ≤ i ∧ i < Q + 1 + l.length
      · rw [if_pos q2, if_pos (show Q ≤ i ∧ i < Q + (l.length + 1) by omega), show i - Q = (i - (Q + 1)) + 1 by omega, List.getD_cons_succ]
      · rw [if_neg q2, if_neg (show ¬ (Q ≤ i ∧ i < Q + (l.length + 1)) by omega)]
        unfold tM; split
        · rw [ui_c (by omega), ui_k q]
        · rw [ui_c (by omega)]
theorem sp_len (b x : Int32) {K a : Nat} (hK : K < 8) (ha : a < 4) : (sp b K 16 a K x).2.length ≤ 100 := by
  rcases cases8 hK with rfl | rfl | rfl | rfl | rfl | rfl | rfl | rfl <;> rcases cases4 ha with rfl | rfl | rfl | rfl <;> exact Nat.le_of_ble_eq_true rfl
theorem en_16 : ∀ K, K < 8 → ∀ a, a < 4 → en K 16 a K = true := by decide +kernel
theorem fin_act {L : Nat} {xs : Nat → Int32} {h : zm_H} (r : RR L xs h) (b5 k5 : Int32) (l : List Int32) (hl : l.length ≤ 100) : RR L xs (rtM 0 l (zm_ui (rtC 0 l (zm_ui (zm_ui (zm_ui h 29 3 0) 29 4 b5) 29 5 k5)) 45 43 0)) := by
  obtain ⟨T, P, D, A, S, B, Q, W, N, C, T', Lw, G, I, Bd, Sh⟩ := r
  obtain ⟨b1, b2, b3, b4, b5', b6, b7, b8⟩ := Bd
  have m := rtM_f l 0 (zm_ui (rtC 0 l (zm_ui (zm_ui (zm_ui h 29 3 0) 29 4 b5) 29 5 k5)) 45 43 0)
  have c := rtC_f l 0 (zm_ui (zm_ui (zm_ui h 29 3 0) 29 4 b5) 29 5 k5)
  have m3 := rtM_3 l 0 (zm_ui (rtC 0 l (zm_ui (zm_ui (zm_ui h 29 3 0) 29 4 b5) 29 5 k5)) 45 43 0) (ui_s _ _ _ _)
  have c3 := rtC_3 l 0 (zm_ui (zm_ui (zm_ui h 29 3 0) 29 4 b5) 29 5 k5) (by simp (disch := omega) only [ui_k, ui_s]; rfl)
  have mr := rtM_row l 0 (zm_ui (rtC 0 l (zm_ui (zm_ui (zm_ui h 29 3 0) 29 4 b5) 29 5 k5)) 45 43 0)
  have cr := rtC_row l 0 (zm_ui (zm_ui (zm_ui h 29 3 0) 29 4 b5) 29 5 k5)
  obtain ⟨m1, m2, m0⟩ := m
  obtain ⟨c1, c2, c0⟩ := c
  generalize rtC 0 l (zm_ui (zm_ui (zm_ui h 29 3 0) 29 4 b5) 29 5 k5) = K at *
  generalize rtM 0 l (zm_ui K 45 43 0) = M at *
  refine ⟨T, P, D, A, S, B, l.length, rW_d ?_ W, rN_d ?_ N, rC_d ?_ C, rT_d ?_ T', rL_d ?_ Lw, rG_d ?_ G, rI_d ?_ I, ⟨b1, ?_, ?_, ?_, by omega, ?_, ?_, ?_⟩, rS_d ?_ Sh⟩
  · simp (disch := omega) only [dW, ui_f, ui_c, ui_k, ui_2, ul_1, ul_f, m1, m2, c1, and_self]
  · simp (disch := omega) only [dN, ui_f, ui_c, ui_k, ui_2, ul_1, ul_f, m1, m2, c1, and_self]
  · simp (disch := omega) only [dC, ui_f, ui_c, ui_k, ui_2, ul_1, ul_f, m1, m2, c1, and_self]
  · simp (disch := omega) only [dT, ui_f, ui_c, ui_k, ui_2, ul_1, ul_f, m1, m2, c1, and_self]
  · simp (disch := omega) only [dL, ui_f, ui_c, ui_k, ui_2, ul_1, ul_f, m1, m2, c1, and_self]
  · simp (disch := omega) only [dG, ui_f, ui_c, ui_k, ui_2, ul_1, ul_f, m1, m2, c1, and_self]
  · simp (disch := omega) only [dI, ui_f, ui_c, ui_k, ui_2, ul_1, ul_f, m1, m2, c1, and_self]
  · simp (disch := omega) only [m1, c2, ui_c, ui_k]; exact b2
  · simp (disch := omega) only [m2, c1, ui_c, ui_k]; exact b3
  · simp (disch := omega) only [m1, c1, ui_c, ui_k]; exact b4
  · simp (disch := omega) only [m1, ui_c]; rw [c3, Nat.zero_add]
  · rw [m3, Nat.zero_add]
  · intro i h1 h2
    rw [mr i h2, if_pos (by omega)]
    simp (disch := omega) only [m1, ui_c]
    rw [cr i h2, if_pos (by omega)]
  · simp (disch := omega) only [dS, ui_f, ui_c, ui_k, ui_2, ul_1, ul_f, m1, m2, c1, m0, c0, and_self]
theorem fin_act0 {L : Nat} {xs : Nat → Int32} {h : zm_H} (r : RR L xs h) : RR L xs (zm_ui (zm_ui h 29 3 0) 45 43 0) := by
  obtain ⟨T, P, D, A, S, B, Q, W, N, C, T', Lw, G, I, Bd, Sh⟩ := r
  obtain ⟨b1, b2, b3, b4, b5', b6, b7, b8⟩ := Bd
  refine ⟨T, P, D, A, S, B, 0, rW_d ?_ W, rN_d ?_ N, rC_d ?_ C, rT_d ?_ T', rL_d ?_ Lw, rG_d ?_ G, rI_d ?_ I, ⟨b1, ?_, ?_, ?_, by omega, ?_, ?_, ?_⟩, rS_d ?_ Sh⟩
  · simp (disch := omega) only [dW, ui_f, ui_c, ui_k, ui_2, ul_1, ul_f, and_self]
  · simp (disch := omega) only [dN, ui_f, ui_c, ui_k, ui_2, ul_1, ul_f, and_self]
  · simp (disch := omega) only [dC, ui_f, ui_c, ui_k, ui_2, ul_1, ul_f, and_self]
  · simp (disch := omega) only [dT, ui_f, ui_c, ui_k, ui_2, ul_1, ul_f, and_self]
  · simp (disch := omega) only [dL, ui_f, ui_c, ui_k, ui_2, ul_1, ul_f, and_self]
  · simp (disch := omega) only [dG, ui_f, ui_c, ui_k, ui_2, ul_1, ul_f, and_self]
  · simp (disch := omega) only [dI, ui_f, ui_c, ui_k, ui_2, ul_1, ul_f, and_self]
  · simp (disch := omega) only [ui_c, ui_k]; exact b2
  · simp (disch := omega) only [ui_c, ui_k]; exact b3
  · simp (disch := omega) only [ui_c, ui_k]; exact b4
  · simp (disch := omega) only [ui_c, ui_s]; rfl
  · simp (disch := omega) only [ui_c, ui_s]; rfl
  · intro i h1 h2; omega
  · simp (disch := omega) only [dS, ui_f, ui_c, ui_k, ui_2, ul_1, ul_f, and_self]
theorem K_act (d : Nat) {L : Nat} {xs : Nat → Int32} {h : zm_H} (r : RR L xs h) (b a x : Int32) : okC L xs (fE_act (d + 60) b a x) (fM_act (d + 60) b a x) h := by
  have r0 := r
  obtain ⟨T, P, D, A, S, B, Q, W, N, C, T', Lw, G, I, Bd, Sh⟩ := r
  obtain ⟨b1, b2, b3, b4, b5', b6, b7, b8⟩ := Bd
  have hE : fE_act (d + 60) b a x h = cond (decide (0 ≤ b) && decide (b < iN B)) (cond (decide (a < 0)) (some (some (.int 0), zm_ui h 29 3 0)) (cond (decide (a < 4)) (zb_I (fTu_start (d + 59) b a x (zm_ui h 29 3 0)) (fun v4 h3 => some (some (.int v4), h3))) (some (some (.int 0), zm_ui h 29 3 0)))) (some (some (.int 0), zm_ui h 29 3 0)) := by
    rw [fE_act_eq, fTu_has_eq, show (zm_ui h 29 3 0).1 29 2 = iN B by rw [ui_k (by omega)]; exact b2, cI, cI, bl_b, bI, zi_0]
    cases (decide (0 ≤ b) && decide (b < iN B)) <;> rfl
  have hM : ∀ k : zm_H, k.1 45 41 = iN B → fM_act (d + 60) b a x k = cond (decide (0 ≤ b) && decide (b < iN B)) (cond (decide (0 ≤ a) && decide (a ≤ 3)) (cond (zm_inR (zm_ui k 45 43 0) 71 b) (cond (!(decide (a = 0)))
    (cond (!(decide (a = (1 : Int32))))
     (cond (!(decide (a = (2 : Int32))))
      (zb_I (fM_tells (d + 59) b ((zm_ui k 45 43 0).1 71 (b).toNatClampNeg) x (zm_ui k 45 43 0)) (fun v6 h5 =>
       some (some (.int v6), h5)))
      (zb_I (fM_slipped (d + 59) b ((zm_ui k 45 43 0).1 71 (b).toNatClampNeg) x (zm_ui k 45 43 0)) (fun v8 h7 =>
       some (some (.int v8), h7))))
     (zb_I (fM_tookBy (d + 59) b ((zm_ui k 45 43 0).1 71 (b).toNatClampNeg) x (zm_ui k 45 43 0)) (fun v10 h9 =>
      some (some (.int v10), h9))))
    (zb_I (fM_lies (d + 59) b ((zm_ui k 45 43 0).1 71 (b).toNatClampNeg) x (zm_ui k 45 43 0)) (fun v12 h11 =>
     some (some (.int v12), h11)))) none) (some (some (.int 0), zm_ui k 45 43 0))) (some (some (.int 0), zm_ui k 45 43 0)) := by
    intro k e
    rw [fM_act_eq, show (zm_ui k 45 43 0).1 45 41 = iN B by rw [ui_k (by omega)]; exact e, within_s, le_predd (by omega), bI, zi_0]
    cases (decide (0 ≤ b) && decide (b < iN B))
    · rfl
    · rw [Bool.not_true, Bool.cond_false, Bool.cond_true, within_s, bI, zi_0]
      cases (decide (0 ≤ a) && decide (a ≤ 3)) <;> rfl
  have e41 : (zm_ui h 29 3 0).1 45 41 = iN B := by rw [ui_c (by omega)]; exact b3
  by_cases p : 0 ≤ b ∧ b < iN B
  · by_cases q : a < 0 ∨ 4 ≤ a
    · refine ⟨0, zm_ui h 29 3 0, _, ?_, ?_, fin_act0 r0⟩
      · rw [hE, in_t p]
        by_cases e : a < 0
        · rw [decide_eq_true e]; rfl
        · rw [decide_eq_false e, decide_eq_false (show ¬ a < 4 by grind)]; rfl
      · rw [hM _ e41, in_t p, show (decide (0 ≤ a) && decide (a ≤ 3)) = false by grind]; rfl
    · obtain ⟨b, hb, rfl⟩ := iN_ex p.1 p.2 (by omega)
      obtain ⟨K, hK, k1, k2⟩ := b4 b hb
      obtain ⟨a, ha, rfl⟩ := iN_exn 4 rfl (by decide) q
      have hl := sp_len (iN b) x hK ha
      have gE := actE (L := L) (xs := xs) (b := b) hK 16 a K ha hK (en_16 K hK a ha) (d + 58) 0 x (zm_ui (zm_ui (zm_ui (zm_ui h 29 3 0) 29 3 0) 29 4 (iN b)) 29 5 (iN K)) 0 (by omega) (by omega) (rW_d (by simp (disch := omega) only [dW, ui_f, ui_c, ui_k, ui_2, ul_1, ul_f, and_self]) W) (by simp (disch := omega) only [ui_k, ui_s]; rfl) (by simp (disch := omega) only [ui_k, ui_s]) (by simp (disch := omega) only [ui_k, ui_s]) (by omega)
      have e33 : zm_ui (zm_ui h 29 3 0) 29 3 0 = zm_ui h 29 3 0 := by
        refine Prod.ext ?_ rfl
        funext y z
        rw [ui_r, ui_r]; split <;> rfl
      rw [e33] at gE
      have hE2 : fE_act (d + 60) (iN b) (iN a) x h = some (some (.int (sp (iN b) K 16 a K x).1), rtC 0 (sp (iN b) K 16 a K x).2 (zm_ui (zm_ui (zm_ui h 29 3 0) 29 4 (iN b)) 29 5 (iN K))) := by
        rw [hE, in_t p, decide_eq_false (iN_lt0 (by omega)), decide_eq_true (show iN a < 4 by simp (disch := omega) only [iN_add, iN_addl, iN_addr, iN_mul, iN_mull, iN_mulr, iN_sub, iN_subl, iN_subr, iN_c, iN_lt, iN_ltl, iN_ltr, iN_le, iN_lel, iN_ler, iN_eq, iN_eql, iN_eqr]; exact ha), Bool.cond_true, Bool.cond_false, Bool.cond_true, fTu_start_eq, e33]
        rw [kindOf_s (d + 56) b1 hb (h := zm_ui (zm_ui h 29 3 0) 29 4 (iN b)) (k := K) (by simp (disch := omega) only [ui_k]; exact b2) (by simp (disch := omega) only [ui_c]; exact k1), bI, ui_s]
        rw [show (0 : Int32) = iN 0 from rfl] at gE ⊢
        rw [gE]; rfl
      have cf := rtC_f (sp (iN b) K 16 a K x).2 0 (zm_ui (zm_ui (zm_ui h 29 3 0) 29 4 (iN b)) 29 5 (iN K))
      refine ⟨_, _, _, hE2, ?_, fin_act r0 (iN b) (iN K) (sp (iN b) K 16 a K x).2 hl⟩
      have gM := actM (b := b) (K := K) (by omega) hK 16 a K ha hK (en_16 K hK a ha) (d + 59) x (zm_ui (rtC 0 (sp (iN b) K 16 a K x).2 (zm_ui (zm_ui (zm_ui h 29 3 0) 29 4 (iN b)) 29 5 (iN K))) 45 43 0) 0 (by omega) (by rw [ui_s]; rfl) (by rw [ui_c (by omega), cf.1 71 (by omega) (by omega)]; simp (disch := omega) only [ui_c]; exact k2) (by omega)
      rw [hM _ (by rw [cf.1 45 (by omega) (by omega)]; simp (disch := omega) only [ui_c]; exact b3), in_t p, show (decide (0 ≤ iN a) && decide (iN a ≤ 3)) = true by simp (disch := omega) only [iN_add, iN_addl, iN_addr, iN_mul, iN_mull, iN_mulr, iN_sub, iN_subl, iN_subr, iN_c, iN_lt, iN_ltl, iN_ltr, iN_le, iN_lel, iN_ler, iN_eq, iN_eql, iN_eqr]; simp; omega, gR_71 (by omega), iN_c (by omega)]
      rw [show (zm_ui (rtC 0 (sp (iN b) K 16 a K x).2 (zm_ui (zm_ui (zm_ui h 29 3 0) 29 4 (iN b)) 29 5 (iN K))) 45 43 0).1 71 b = iN K by rw [ui_c (by omega), cf.1 71 (by omega) (by omega)]; simp (disch := omega) only [ui_c]; exact k2]
      simp only [Bool.cond_true]
      rcases cases4 ha with rfl | rfl | rfl | rfl
      · rw [decide_eq_true (show iN 0 = 0 from rfl)]; exact (mI gM _).trans rfl
      · rw [decide_eq_false (show ¬ iN 1 = 0 by decide), decide_eq_true (show iN 1 = 1 from rfl)]; exact (mI gM _).trans rfl
      · rw [decide_eq_false (show ¬ iN 2 = 0 by decide), decide_eq_false (show ¬ iN 2 = 1 by decide), decide_eq_true (show iN 2 = 2 from rfl)]; exact (mI gM _).trans rfl
      · rw [decide_eq_false (show ¬ iN 3 = 0 by decide), decide_eq_false (show ¬ iN 3 = 1 by decide), decide_eq_false (show ¬ iN 3 = 2 by decide)]; exact (mI gM _).trans rfl
  · refine ⟨0, zm_ui h 29 3 0, _, ?_, ?_, fin_act0 r0⟩
    · rw [hE, in_f p]; rfl
    · rw [hM _ e41, in_f p]; rfl
