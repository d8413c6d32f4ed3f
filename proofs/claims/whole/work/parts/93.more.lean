/-! one more TIER -/
theorem addC (d : Nat) {P t m : Nat} (hP : P ≤ 6) (ht : t < P) (hm : m ≤ 6) : ∀ (n j : Nat) (h : zm_H), j + n = m → h.1 15 7 = iN m → ∃ K, fDr_addTierLike_c2 (d + 2) (iN t) (iN P) (iN j) h = some (none, K) ∧ (∀ a, a ≠ 21 → K.1 a = h.1 a) ∧ K.2 = h.2 ∧ (∀ y, j ≤ y → y < m → K.1 21 (P * 6 + y) = h.1 21 (t * 6 + y)) ∧ (∀ y, y < P * 6 + j → K.1 21 y = h.1 21 y) := by
  intro n
  induction n with
  | zero =>
    intro j h hj e7
    obtain rfl : j = m := by omega
    refine ⟨h, ?_, fun _ _ => rfl, rfl, fun y h1 h2 => absurd h1 (by omega), fun _ _ => rfl⟩
    rw [fDr_addTierLike_c2_eq, e7, cT (by simp (disch := omega) only [iN_add, iN_addl, iN_addr, iN_mul, iN_mull, iN_mulr, iN_sub, iN_subl, iN_subr, iN_c, iN_lt, iN_ltl, iN_ltr, iN_le, iN_lel, iN_ler, iN_eq, iN_eql, iN_eqr]; omega)]
  | succ n ih =>
    intro j h hj e7
    obtain ⟨K, k1, k2, k3, k4, k5⟩ := ih (j + 1) (zm_ui h 21 (P * 6 + j) (h.1 21 (t * 6 + j))) (by omega) (by rw [ui_c (by omega)]; exact e7)
    refine ⟨K, ?_, fun a h1 => by rw [k2 a h1, ui_f h1], k3, ?_, ?_⟩
    · rw [fDr_addTierLike_c2_eq, e7, cF (by simp (disch := omega) only [iN_add, iN_addl, iN_addr, iN_mul, iN_mull, iN_mulr, iN_sub, iN_subl, iN_subr, iN_c, iN_lt, iN_ltl, iN_ltr, iN_le, iN_lel, iN_ler, iN_eq, iN_eql, iN_eqr]; omega), minForC d (by omega) (by omega), bI, fDr_time_eq, cF (iN_lt0 (by omega)), cF (by simp (disch := omega) only [iN_add, iN_addl, iN_addr, iN_mul, iN_mull, iN_mulr, iN_sub, iN_subl, iN_subr, iN_c, iN_lt, iN_ltl, iN_ltr, iN_le, iN_lel, iN_ler, iN_eq, iN_eql, iN_eqr]; omega), cF (iN_lt0 (by omega)), cF (by simp (disch := omega) only [iN_add, iN_addl, iN_addr, iN_mul, iN_mull, iN_mulr, iN_sub, iN_subl, iN_subr, iN_c, iN_lt, iN_ltl, iN_ltr, iN_le, iN_lel, iN_ler, iN_eq, iN_eql, iN_eqr]; omega)]
      simp (disch := omega) only [bI, bJ, bV, cN, zi_0, zi_z, Bool.cond_true, Bool.cond_false, decide_true, decide_false, decide_eq_true_eq, Bool.cond_decide, if_true, if_false, ofN12, Bool.not_not, zi_t, zi_f, iN_add, iN_addl, iN_addr, iN_mul, iN_mull, iN_mulr, iN_sub, iN_subl, iN_subr, iN_c, iN_lt, iN_ltl, iN_ltr, iN_le, iN_lel, iN_ler, iN_eq, iN_eql, iN_eqr, gR_2, hR_2, gW_2, hW_2, gR_4, hR_4, gW_4, hW_4, gR_5, hR_5, gW_5, hW_5, gR_6, hR_6, gW_6, hW_6, gR_7, hR_7, gW_7, hW_7, gR_9, hR_9, gW_9, hW_9, gR_10, hR_10, gW_10, hW_10, gR_12, hR_12, gW_12, hW_12, gR_13, hR_13, gW_13, hW_13, gR_16, hR_16, gW_16, hW_16, gR_17, hR_17, gW_17, hW_17, gR_18, hR_18, gW_18, hW_18, gR_19, hR_19, gW_19, hW_19, gR_20, hR_20, gW_20, hW_20, gR_21, hR_21, gW_21, hW_21, gR_22, hR_22, gW_22, hW_22, gR_24, hR_24, gW_24, hW_24, gR_25, hR_25, gW_25, hW_25, gR_27, hR_27, gW_27, hW_27, gR_28, hR_28, gW_28, hW_28, gR_30, hR_30, gW_30, hW_30, gR_31, hR_31, gW_31, hW_31, gR_46, hR_46, gW_46, hW_46, gR_47, hR_47, gW_47, hW_47, gR_48, hR_48, gW_48, hW_48, gR_49, hR_49, gW_49, hW_49, gR_50, hR_50, gW_50, hW_50, gR_51, hR_51, gW_51, hW_51, gR_52, hR_52, gW_52, hW_52, gR_53, hR_53, gW_53, hW_53, gR_54, hR_54, gW_54, hW_54, gR_55, hR_55, gW_55, hW_55, gR_56, hR_56, gW_56, hW_56, gR_57, hR_57, gW_57, hW_57, gR_58, hR_58, gW_58, hW_58, gR_59, hR_59, gW_59, hW_59, gR_60, hR_60, gW_60, hW_60, gR_61, hR_61, gW_61, hW_61, gR_62, hR_62, gW_62, hW_62, gR_63, hR_63, gW_63, hW_63, gR_64, hR_64, gW_64, hW_64, gR_65, hR_65, gW_65, hW_65, gR_66, hR_66, gW_66, hW_66, gR_67, hR_67, gW_67, hW_67, gR_68, hR_68, gW_68, hW_68, gR_69, hR_69, gW_69, hW_69, gR_70, hR_70, gW_70, hW_70, gR_71, hR_71, gW_71, hW_71, gR_72, hR_72, gW_72, hW_72, gR_73, hR_73, gW_73, hW_73, gR_74, hR_74, gW_74, hW_74, gR_76, hR_76, gW_76, hW_76, gR_77, hR_77, gW_77, hW_77, gR_78, hR_78, gW_78, hW_78, gR_79, hR_79, gW_79, hW_79, gR_80, hR_80, gW_80, hW_80, gR_81, hR_81, gW_81, hW_81, gR_82, hR_82, gW_82, hW_82, gR_1000, hR_1000, gR_1001, hR_1001, gR_1002, hR_1002, gR_1003, hR_1003, gJ_39, gJ_40, gJ_41, gJ_42, gJ_43, gJ_44, gJ_75, gQ_32]
      exact k1
    · intro y h1 h2
      by_cases e : y = j
      · subst e; rw [k5 _ (by omega), ui_s]
      · rw [k4 y (by omega) h2, ui_k (by omega)]
    · intro y h1
      rw [k5 y (by omega), ui_k (by omega)]
theorem RR_m {L : Nat} {xs : Nat → Int32} {h K : zm_H} (r : RR L xs h) {P : Nat} (hP : P ≤ 6) (eP : h.1 1 2 = iN P) (e : ∀ a, a ≠ 53 → a ≠ 54 → a ≠ 55 → K.1 a = h.1 a) (e2 : ∀ w, w < P → K.1 53 w = h.1 53 w ∧ K.1 54 w = h.1 54 w ∧ K.1 55 w = h.1 55 w) (e3 : K.2 = h.2) : RR L xs K := by
  obtain ⟨T, P', D, A, S, B, Q, W, N, C, T', Lw, G, I, Bd, Sh⟩ := r
  obtain ⟨⟨hT, hP', n1, n2, n3, n4⟩, N1, N2, N3⟩ := N
  have hh : iN P' = iN P := n3.symm.trans eP
  rw [iN_eq (by omega) (by omega)] at hh
  subst hh
  refine ⟨T, P', D, A, S, B, Q, rW_d ?_ W, ?_, rC_d ?_ C, rT_d ?_ T', rL_d ?_ Lw, rG_d ?_ G, rI_d ?_ I, rB_d ?_ Bd, rS_d ?_ Sh⟩
  · simp (disch := omega) only [dW, e, and_self]
  · have k1 := e 1 (by omega) (by omega) (by omega)
    have k2 := e 2 (by omega) (by omega) (by omega)
    have k45 := e 45 (by omega) (by omega) (by omega)
    refine ⟨⟨hT, hP', by rw [k1]; exact n1, by rw [k45]; exact n2, by rw [k1]; exact n3, by rw [k45]; exact n4⟩, ?_, by rw [k2]; exact N2, by rw [k2]; exact N3⟩
    intro w n hw hn
    rw [k2, ← N1 w n hw hn]
    rcases (show w < 12 ∨ w = 12 by omega) with g | rfl
    · rcases cases12 g with rfl | rfl | rfl | rfl | rfl | rfl | rfl | rfl | rfl | rfl | rfl | rfl
      all_goals first
        | (simp only [mc, mi]; rw [e _ (by decide) (by decide) (by decide)]; done)
        | exact (e2 n (by simpa [cnt] using hn)).1
        | exact (e2 n (by simpa [cnt] using hn)).2.1
        | exact (e2 n (by simpa [cnt] using hn)).2.2
    · simp only [mc, mi]; rw [e _ (by decide) (by decide) (by decide)]
  · simp (disch := omega) only [dC, e, and_self]
  · simp (disch := omega) only [dT, e, and_self]
  · simp (disch := omega) only [dL, e, and_self]
  · simp (disch := omega) only [dG, e, and_self]
  · simp (disch := omega) only [dI, e, and_self]
  · simp (disch := omega) only [dB, e, and_self]
  · simp (disch := omega) only [dS, e, e3, and_self]
theorem K_oneMore (d : Nat) {L : Nat} {xs : Nat → Int32} {h : zm_H} (r : RR L xs h) (z kn q : Int32) : okC L xs (fE_oneMore (d + 20) z kn q) (fM_oneMore (d + 20) z kn q) h := by
  have r0 := r
  obtain ⟨T, P, D, A, S, B, Q, W, N, C, T', Lw, G, I, Bd, Sh⟩ := r
  have hB := Bd.1
  have N0 := N
  obtain ⟨⟨hT, hP, n1, n2, n3, n4⟩, N1, N2, N3⟩ := N
  obtain ⟨lw, l1, l2⟩ := rL_lw Lw
  have hE0 : fE_oneMore (d + 20) z kn q h = zb_I (fE_refusalOfDressing (d + 19) z kn (zi (decide (0 ≤ q) && decide (q < iN P))) h) (fun v4 h3 =>
  cond (decide (v4 = 0))
  (zb_V (fE_gather (d + 19) z kn h3) (fun h5 =>
   zb_I (fDr_allDone (d + 19) (h5.1 1 2) h5) (fun v7 h6 =>
   zb_V (fDr_addTierLike (d + 19) q (h6.1 1 2) h6) (fun h8 =>
   zb_I (fDr_allDone (d + 19) ((h8.1 1 2) + (1 : Int32)) h8) (fun v10 h9 =>
   some (some (.int ((v7 - v10))), h9))))))
  (some (some (.int ((-2000000000 : Int32))), h3))) := by
    rw [fE_oneMore_eq, has_s (d + 17) n1 n3 (x := 9) (w := 9) rfl (by omega), bI]; rfl
  by_cases qz : z < 0 ∨ 6 ≤ z
  · refine okC_same r0 (-2000000000) ?_ ?_
    · rw [hE0, refDr_z (d + 17) qz, bI, cF (by decide)]
    · rw [fM_oneMore_eq, isShelfM_s, le5_n qz, bI, cT (by decide)]
  · have qz1 := le5_6 qz
    obtain ⟨z, hz, rfl⟩ := iN_exn 6 rfl (by decide) qz
    obtain ⟨c, kk, n, V, X⟩ := shv_of hB (Sh z hz)
    cases qk : (decide (0 ≤ kn) && decide (kn ≤ 4))
    · refine okC_same r0 (-2000000000) ?_ ?_
      · rw [hE0, refDr_k (d + 17) _ qk, bI, cF (by decide)]
      · rw [fM_oneMore_eq, isShelfM_s, qz1, bI, cF (by decide), isKnot_s, qk, bI, cT (by decide)]
    · cases qt : (decide (0 ≤ q) && decide (q < iN P))
      · refine okC_same r0 (-2000000000) ?_ ?_
        · rw [hE0, qt, show zi false = 0 from rfl, refDr_0 (d + 17), bI, cF (by decide)]
        · rw [fM_oneMore_eq, isShelfM_s, qz1, bI, cF (by decide), isKnot_s, qk, bI, cF (by decide), isTier_s (d + 17) (by omega) _ _ n4, qt, bI, cT (by decide)]
      · have hE1 := hE0
        rw [qt, show zi true = 1 from rfl, refDr (d + 15) hz V qk, bI] at hE1
        by_cases hc : c = 2 ∧ kk = 0
        · obtain ⟨rfl, rfl⟩ := hc
          have X := X rfl
          obtain ⟨v, -⟩ | ⟨v, -⟩ | ⟨-, v0, v1, v2, v3, v4, v5, v6⟩ := id V
          · exact absurd v (by omega)
          · exact absurd v (by omega)
          obtain ⟨k, hk, rfl⟩ := iN_exn (x := kn) (c := 5) 5 rfl (by decide) (by grind)
          obtain ⟨t, ht, rfl⟩ := iN_exn (x := q) (c := iN P) P rfl (by omega) (by grind)
          have go := gth_ok (h.2 (39 + z)) n hT 7 [] (by simp) (fun j hj => absurd hj (by simp))
          obtain ⟨K1, a1, a2, a3, a4, a5⟩ := gathE (d + 11) (lw := lw) hz v1 hT hP hk (pOk_of N0) n1 n3 l1 v4
          obtain ⟨K2, b1, b2, b3, b4, b5⟩ := allDoneC (d + 15) (show 1 ≤ P by omega) (by omega) (fmn_le lw h k) go.1 a3 a5
          obtain ⟨K3, c1, c2, c3, c4, c5⟩ := addC (d + 17) hP ht go.1 (gth (h.2 (39 + z)) n T 7 []).length 0 K2 (by omega) (by rw [b4 15 (by omega) (by omega) (by omega) (by omega)]; exact a3)
          have hmt : ∀ w x, (fun w x => if w = P then fmn lw h k t x else fmn lw h k w x) w x ≤ 600 := by
            intro w x
            show (if w = P then fmn lw h k t x else fmn lw h k w x) ≤ 600
            split <;> exact fmn_le _ _ _ _ _
          obtain ⟨K4, d1, d2, d3, d4, d5⟩ := allDoneC (d + 15) (N := P + 1) (h := K3) (show 1 ≤ P + 1 by omega) (by omega) hmt go.1 (by rw [c2 15 (by omega), b4 15 (by omega) (by omega) (by omega) (by omega)]; exact a3) (fun w y h1 h2 => by
            by_cases e : w = P
            · subst e
              rw [c4 y (by omega) h2, b4 21 (by omega) (by omega) (by omega) (by omega), a5 t y ht h2, if_pos rfl]
            · rw [c5 _ (by omega), b4 21 (by omega) (by omega) (by omega) (by omega), a5 w y (by omega) h2, if_neg e])
          have f2 : frG K1 K2 := ⟨fun a h1 h2 => b4 a (by omega) (by omega) (by omega) (by omega), fun b _ => by rw [b4 11 (by omega) (by omega) (by omega) (by omega)], b5⟩
          have f3 : frG K2 K3 := ⟨fun a h1 h2 => c2 a (by omega), fun b _ => by rw [c2 11 (by omega)], c3⟩
          have f4 : frG K3 K4 := ⟨fun a h1 h2 => d4 a (by omega) (by omega) (by omega) (by omega), fun b _ => by rw [d4 11 (by omega) (by omega) (by omega) (by omega)], d5⟩
          have fG := frG_t (frG_t (frG_t a2 f2) f3) f4
          obtain ⟨M1, m1, m2, m3, m4, m5, m6⟩ := rdM (d + 16) hz v1 hT (f := h.2 (39 + z)) (h := K4) (by rw [fG.1 74 (by omega) (by omega)]; exact v6) (by rw [fG.1 45 (by omega) (by omega)]; exact n2) (fun i hi => by rw [fG.2.2]; exact (X i hi).1)
          have fR : frRd K4 M1 := ⟨m4, m5, m6⟩
          generalize gth (h.2 (39 + z)) n T 7 [] = l at *
          have bx : ∀ x ∈ l, x < 8 := fun x hx => by
            obtain ⟨j, hj, e⟩ := List.getElem_of_mem hx
            have := go.2 j hj
            have e2 : (l).getD j 0 = x := by rw [← e]; simp [List.getD, hj]
            omega
          have lt : ∀ u, u < 8 → (∃ j, j < (l).length ∧ M1.1 76 j = iN u) → u < T := fun u hu hj => by
            obtain ⟨j, hj, e⟩ := hj
            have b := go.2 j hj
            rw [m3 j hj, iN_eq (by omega) (by omega)] at e
            omega
          have e5 : ∀ a, a = 53 ∨ a = 54 ∨ a = 55 → M1.1 a = h.1 a := fun a ha => by rw [m4 a (by omega) (by omega), fG.1 a (by omega) (by omega)]
          obtain ⟨M2, r1, r2, r3, r4⟩ := dressM (d + 18) (show 1 ≤ P by omega) (by omega : P ≤ 7) (mt := fmn lw h k) (fun w x _ => fmn_le lw h k w x) (kn := iN k) (h0 := M1) go.1 bx (fun w u K hw hu hj fK => tk_of (d + 11) N0 hw (lt u hu hj) hk (frRd_lwM fR (frG_lwM fG l2)) (frRd_mE fR (frG_mE fG (mE_of N0 (lt u hu hj) hk))) e5 fK) m2 m3
          have P2 : M2.1 45 11 = iN P := by rw [r4.2.1 11 (by omega), m5 11 (by omega), fG.1 45 (by omega) (by omega)]; exact n4
          have e5' : ∀ a, a = 53 ∨ a = 54 ∨ a = 55 → M2.1 a = h.1 a := fun a ha => by rw [r4.1 a (by omega) (by omega) (by omega)]; exact e5 a ha
          have o9 : M2.1 53 t = h.1 2 (9 * 8 + t) := by rw [e5' 53 (by omega)]; exact N1 9 t (by omega) ht
          have oA : M2.1 54 t = h.1 2 (10 * 8 + t) := by rw [e5' 54 (by omega)]; exact N1 10 t (by omega) ht
          have oB : M2.1 55 t = h.1 2 (11 * 8 + t) := by rw [e5' 55 (by omega)]; exact N1 11 t (by omega) ht
          obtain ⟨ok1, ok2, ok3⟩ := pOk_of N0 t ht
          generalize hv9 : h.1 2 (9 * 8 + t) = v9 at o9 ok2 ok3
          generalize hvA : h.1 2 (10 * 8 + t) = vA at oA ok1
          generalize hvB : h.1 2 (11 * 8 + t) = vB at oB
          have fZ : ∀ a, a ≠ 53 → a ≠ 54 → a ≠ 55 → (zm_ui (zm_ui (zm_ui M2 53 P v9) 54 P vA) 55 P vB).1 a = M2.1 a := fun a h1 h2 h3 => by rw [ui_f h3, ui_f h2, ui_f h1]
          have z9 : ∀ w, (zm_ui (zm_ui (zm_ui M2 53 P v9) 54 P vA) 55 P vB).1 53 w = if w = P then v9 else M2.1 53 w := fun w => by
            rw [ui_c (by omega), ui_c (by omega)]
            by_cases e : w = P
            · subst e; rw [ui_s, if_pos rfl]
            · rw [ui_k e, if_neg e]
          have zA : ∀ w, (zm_ui (zm_ui (zm_ui M2 53 P v9) 54 P vA) 55 P vB).1 54 w = if w = P then vA else M2.1 54 w := fun w => by
            rw [ui_c (by omega)]
            by_cases e : w = P
            · subst e; rw [ui_s, if_pos rfl]
            · rw [ui_k e, ui_c (by omega), if_neg e]
          have zB : ∀ w, (zm_ui (zm_ui (zm_ui M2 53 P v9) 54 P vA) 55 P vB).1 55 w = if w = P then vB else M2.1 55 w := fun w => by
            by_cases e : w = P
            · subst e; rw [ui_s, if_pos rfl]
            · rw [ui_k e, ui_c (by omega), ui_c (by omega), if_neg e]
          have fZ2 : (zm_ui (zm_ui (zm_ui M2 53 P v9) 54 P vA) 55 P vB).2 = M2.2 := rfl
          have hM0 : fM_oneMore (d + 20) (iN z) (iN k) (iN t) K4 = zb_I (fM_dresses (d + 19) (iN k) (iN (P + 1)) (zm_ui (zm_ui (zm_ui M2 53 P v9) 54 P vA) 55 P vB)) (fun v13 h12 => some (some (.int ((iN (dn (fmn lw h k) P (l) (fun _ => 0) 0).1 - v13))), h12)) := by
            rw [fM_oneMore_eq, isShelfM_s, qz1, bI, cF (by decide), isKnot_s, qk, bI, cF (by decide), isTier_s (d + 17) (by omega) _ _ (show K4.1 45 11 = iN P by rw [fG.1 45 (by omega) (by omega)]; exact n4), qt, bI, cF (by decide)]
            rw [show fM_noRow (d + 19) (iN z) 0 K4 = some (some (.int (rfv 2 0 0)), K4) from noRow (d + 18) (q := 0) hz (by omega) (shv_G hz fG V), rfv_0 rfl rfl, bI, cT (by decide), m1, bV, show M1.1 45 11 = iN P by rw [m5 11 (by omega), fG.1 45 (by omega) (by omega)]; exact n4, r1, bI]
            simp (disch := omega) only [bI, bJ, bV, cN, zi_0, zi_z, Bool.cond_true, Bool.cond_false, decide_true, decide_false, decide_eq_true_eq, Bool.cond_decide, if_true, if_false, ofN12, Bool.not_not, zi_t, zi_f, iN_add, iN_addl, iN_addr, iN_mul, iN_mull, iN_mulr, iN_sub, iN_subl, iN_subr, iN_c, iN_lt, iN_ltl, iN_ltr, iN_le, iN_lel, iN_ler, iN_eq, iN_eql, iN_eqr, gR_2, hR_2, gW_2, hW_2, gR_4, hR_4, gW_4, hW_4, gR_5, hR_5, gW_5, hW_5, gR_6, hR_6, gW_6, hW_6, gR_7, hR_7, gW_7, hW_7, gR_9, hR_9, gW_9, hW_9, gR_10, hR_10, gW_10, hW_10, gR_12, hR_12, gW_12, hW_12, gR_13, hR_13, gW_13, hW_13, gR_16, hR_16, gW_16, hW_16, gR_17, hR_17, gW_17, hW_17, gR_18, hR_18, gW_18, hW_18, gR_19, hR_19, gW_19, hW_19, gR_20, hR_20, gW_20, hW_20, gR_21, hR_21, gW_21, hW_21, gR_22, hR_22, gW_22, hW_22, gR_24, hR_24, gW_24, hW_24, gR_25, hR_25, gW_25, hW_25, gR_27, hR_27, gW_27, hW_27, gR_28, hR_28, gW_28, hW_28, gR_30, hR_30, gW_30, hW_30, gR_31, hR_31, gW_31, hW_31, gR_46, hR_46, gW_46, hW_46, gR_47, hR_47, gW_47, hW_47, gR_48, hR_48, gW_48, hW_48, gR_49, hR_49, gW_49, hW_49, gR_50, hR_50, gW_50, hW_50, gR_51, hR_51, gW_51, hW_51, gR_52, hR_52, gW_52, hW_52, gR_53, hR_53, gW_53, hW_53, gR_54, hR_54, gW_54, hW_54, gR_55, hR_55, gW_55, hW_55, gR_56, hR_56, gW_56, hW_56, gR_57, hR_57, gW_57, hW_57, gR_58, hR_58, gW_58, hW_58, gR_59, hR_59, gW_59, hW_59, gR_60, hR_60, gW_60, hW_60, gR_61, hR_61, gW_61, hW_61, gR_62, hR_62, gW_62, hW_62, gR_63, hR_63, gW_63, hW_63, gR_64, hR_64, gW_64, hW_64, gR_65, hR_65, gW_65, hW_65, gR_66, hR_66, gW_66, hW_66, gR_67, hR_67, gW_67, hW_67, gR_68, hR_68, gW_68, hW_68, gR_69, hR_69, gW_69, hW_69, gR_70, hR_70, gW_70, hW_70, gR_71, hR_71, gW_71, hW_71, gR_72, hR_72, gW_72, hW_72, gR_73, hR_73, gW_73, hW_73, gR_74, hR_74, gW_74, hW_74, gR_76, hR_76, gW_76, hW_76, gR_77, hR_77, gW_77, hW_77, gR_78, hR_78, gW_78, hW_78, gR_79, hR_79, gW_79, hW_79, gR_80, hR_80, gW_80, hW_80, gR_81, hR_81, gW_81, hW_81, gR_82, hR_82, gW_82, hW_82, gR_1000, hR_1000, gR_1001, hR_1001, gR_1002, hR_1002, gR_1003, hR_1003, gJ_39, gJ_40, gJ_41, gJ_42, gJ_43, gJ_44, gJ_75, gQ_32, P2, ui_c, o9, oA, oB, iN_c]
          generalize zm_ui (zm_ui (zm_ui M2 53 P v9) 54 P vA) 55 P vB = Z at *
          have nz : ∀ u, u < T → mE (gOf h u k) u k Z := fun u hu => by
            have a1 := frD_mE r4 (frRd_mE fR (frG_mE fG (mE_of N0 hu hk)))
            unfold mE at *
            rw [fZ 46 (by omega) (by omega) (by omega), fZ 47 (by omega) (by omega) (by omega), fZ 48 (by omega) (by omega) (by omega), fZ 49 (by omega) (by omega) (by omega), fZ 50 (by omega) (by omega) (by omega), fZ 52 (by omega) (by omega) (by omega), fZ 45 (by omega) (by omega) (by omega)]; exact a1
          have lz : lwM lw Z := by
            have a1 := frD_lwM r4 (frRd_lwM fR (frG_lwM fG l2))
            have e45 := fZ 45 (by omega) (by omega) (by omega)
            cases lw with
            | none => unfold lwM at *; rw [e45]; exact a1
            | some ls => exact ⟨by rw [e45]; exact a1.1, a1.2.1, a1.2.2.1, by rw [e45]; exact a1.2.2.2.1, lml_d (fZ 57 (by omega) (by omega) (by omega)) (fZ 58 (by omega) (by omega) (by omega)) (fZ 59 (by omega) (by omega) (by omega)) (fZ 60 (by omega) (by omega) (by omega)) ls _ _ a1.2.2.2.2.1, a1.2.2.2.2.2⟩
          obtain ⟨M3, s1, s2, s3, s4⟩ := dressM (d + 18) (N := P + 1) (show 1 ≤ P + 1 by omega) (by omega) (mt := fun w x => if w = P then fmn lw h k t x else fmn lw h k w x) (fun w x _ => hmt w x) (kn := iN k) (h0 := Z) go.1 bx (fun w u K hw hu hj fK => by
            have hu2 : u < T := lt u hu (by
              obtain ⟨j, hj, e⟩ := hj
              exact ⟨j, hj, by rw [fZ 76 (by omega) (by omega) (by omega), r4.1 76 (by omega) (by omega) (by omega)] at e; exact e⟩)
            by_cases e : w = P
            · subst e
              have := takesM (d + 11) (b := vB) (by omega : u < 8) hk (by omega : w < 7) ok1 ok2 ok3 (frD_lwM fK lz) (frD_mE fK (nz u hu2)) (by rw [fK.1 53 (by omega) (by omega) (by omega), z9, if_pos rfl]) (by rw [fK.1 54 (by omega) (by omega) (by omega), zA, if_pos rfl]) (by rw [fK.1 55 (by omega) (by omega) (by omega), zB, if_pos rfl])
              show ∃ K', fM_takesFor (d + 18) (iN w) (iN u) (iN k) K = some (some (.int (iN (if w = w then fmn lw h k t u else fmn lw h k w u))), K') ∧ frT K K'
              rw [if_pos rfl]; unfold fmn; rw [hv9, hvA, hvB]; exact this
            · obtain ⟨q1, q2, q3⟩ := pOk_of N0 w (by omega)
              have := takesM (d + 11) (b := h.1 2 (11 * 8 + w)) (by omega : u < 8) hk (by omega : w < 7) q1 q2 q3 (frD_lwM fK lz) (frD_mE fK (nz u hu2)) (by rw [fK.1 53 (by omega) (by omega) (by omega), z9, if_neg e, e5' 53 (by omega)]; exact N1 9 w (by omega) (by show w < P; omega)) (by rw [fK.1 54 (by omega) (by omega) (by omega), zA, if_neg e, e5' 54 (by omega)]; exact N1 10 w (by omega) (by show w < P; omega)) (by rw [fK.1 55 (by omega) (by omega) (by omega), zB, if_neg e, e5' 55 (by omega)]; exact N1 11 w (by omega) (by show w < P; omega))
              show ∃ K', fM_takesFor (d + 18) (iN w) (iN u) (iN k) K = some (some (.int (iN (if w = P then fmn lw h k t u else fmn lw h k w u))), K') ∧ frT K K'
              rw [if_neg e]; exact this) (by rw [fZ 45 (by omega) (by omega) (by omega), r4.2.1 49 (by omega)]; exact m2) (fun j hj => by rw [fZ 76 (by omega) (by omega) (by omega), r4.1 76 (by omega) (by omega) (by omega)]; exact m3 j hj)
          have RM2 : RR L xs M2 := RR_q r0 (frQ_t (frQ_t (frQ_G fG) (frQ_Rd fR)) (frQ_D r4))
          have RZ : RR L xs Z := RR_m RM2 hP (by rw [r4.1 1 (by omega) (by omega) (by omega), m4 1 (by omega) (by omega), fG.1 1 (by omega) (by omega)]; exact n3) fZ (fun w hw => ⟨by rw [z9, if_neg (by omega)], by rw [zA, if_neg (by omega)], by rw [zB, if_neg (by omega)]⟩) fZ2
          refine ⟨iN (dn (fmn lw h k) P l (fun _ => 0) 0).1 - iN (dn (fun w x => if w = P then fmn lw h k t x else fmn lw h k w x) (P + 1) l (fun _ => 0) 0).1, K4, M3, ?_, ?_, RR_q RZ (frQ_D s4)⟩
          rotate_left
          · rw [hM0, s1, bI]
          · rw [hE1, cT (rfv_0 rfl rfl), a1, bV, show K1.1 1 2 = iN P by rw [a2.1 1 (by omega) (by omega)]; exact n3, b1, bI, show K2.1 1 2 = iN P by rw [f2.1 1 (by omega) (by omega), a2.1 1 (by omega) (by omega)]; exact n3, fDr_addTierLike_eq]
            rw [show fDr_addTierLike_c2 (d + 18 + 1) (iN t) (iN P) 0 K2 = some (none, K3) from c1, bV, show K3.1 1 2 = iN P by rw [f3.1 1 (by omega) (by omega), f2.1 1 (by omega) (by omega), a2.1 1 (by omega) (by omega)]; exact n3, iN_addr, d1, bI]
        · refine okC_same r0 (-2000000000) ?_ ?_
          · rw [hE1, cF (by rcases rfv_n hc with e | e <;> rw [e] <;> decide)]
          · rw [fM_oneMore_eq, isShelfM_s, qz1, bI, cF (by decide), isKnot_s, qk, bI, cF (by decide), isTier_s (d + 17) (by omega) _ _ n4, qt, bI, cF (by decide)]
            rw [show fM_noRow (d + 19) (iN z) 0 h = some (some (.int (rfv c kk 0)), h) from noRow (d + 18) (q := 0) hz (by omega) V, bI, cF (by rcases rfv_n hc with e | e <;> rw [e] <;> decide)]
