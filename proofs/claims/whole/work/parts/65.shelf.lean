/-! shelves -/
theorem cases6 {s : Nat} (h : s < 6) : s = 0 ∨ s = 1 ∨ s = 2 ∨ s = 3 ∨ s = 4 ∨ s = 5 := by omega
theorem rt32 {s : Nat} (h : s < 6) : zm_rt 32 s = 33 + s := by rcases cases6 h with rfl | rfl | rfl | rfl | rfl | rfl <;> decide +kernel
theorem rt33 {s : Nat} (h : s < 6) : zm_rt (33 + s) 0 = 39 + s := by rcases cases6 h with rfl | rfl | rfl | rfl | rfl | rfl <;> decide +kernel
theorem isO7 {s : Nat} (h : s < 6) : zm_isO (33 + s) 7 = true := by rcases cases6 h with rfl | rfl | rfl | rfl | rfl | rfl <;> decide +kernel
theorem isA39 {s : Nat} (h : s < 6) : zm_isA (39 + s) = true := by rcases cases6 h with rfl | rfl | rfl | rfl | rfl | rfl <;> decide +kernel
theorem kd39 {s : Nat} (h : s < 6) : zm_kd (39 + s) = (2, 60) := by rcases cases6 h with rfl | rfl | rfl | rfl | rfl | rfl <;> decide +kernel
theorem gJ39 {s n : Nat} (h : s < 6) (hn : n < 60) : zm_inJ (39 + s) (iN n) = true := gJ_g (kd39 h) hn (by omega)
theorem le5_6 {a : Int32} (h : ¬ (a < 0 ∨ 6 ≤ a)) : (decide (0 ≤ a) && decide (a ≤ 5)) = true := by grind
theorem le5_n {a : Int32} (h : a < 0 ∨ 6 ≤ a) : (decide (0 ≤ a) && decide (a ≤ 5)) = false := by grind
theorem iN_ne1 {n : Nat} (h : n < 2147483648) : ¬ iN n = -1 := by
  intro e
  have := congrArg Int32.toInt e
  rw [iN_toInt h] at this
  have : ((-1 : Int32)).toInt = -1 := by decide
  omega
theorem isEmpty_s (d : Nat) {s : Nat} (hs : s < 6) (h : zm_H) : fSh_isEmpty (d + 1) (33 + s) h = some (some (.int (zi (decide (h.1 (33 + s) 1 = -1) && decide (h.1 (33 + s) 2 = -1)))), h) := by
  rw [fSh_isEmpty_eq, isO7 hs]
  simp only [Bool.cond_true, cN]
  cases decide (h.1 (33 + s) 1 = -1) <;> cases decide (h.1 (33 + s) 2 = -1) <;> rfl
theorem isRow_s (d : Nat) {s : Nat} (hs : s < 6) (h : zm_H) : fSh_isRow (d + 1) (33 + s) h = some (some (.int (zi (!decide (h.1 (33 + s) 2 = -1)))), h) := by
  rw [fSh_isRow_eq, isO7 hs]
  simp only [Bool.cond_true]
  cases decide (h.1 (33 + s) 2 = -1) <;> rfl
theorem isRowOf_s (d : Nat) {s : Nat} (hs : s < 6) (a : Int32) (h : zm_H) : fSh_isRowOf (d + 2) (33 + s) a h = some (some (.int (zi (!decide (h.1 (33 + s) 2 = -1) && decide (h.1 (33 + s) 2 = a)))), h) := by
  rw [fSh_isRowOf_eq, isRow_s d hs, bI, zi_0, isO7 hs]
  cases decide (h.1 (33 + s) 2 = -1) <;> cases decide (h.1 (33 + s) 2 = a) <;> rfl
theorem hasSpan_s (d : Nat) {s : Nat} (hs : s < 6) (a n : Int32) (h : zm_H) : fSh_hasSpan (d + 1) (33 + s) a n h = some (some (.int (zi (decide (0 ≤ n) && decide (n ≤ h.1 (33 + s) 3) && (decide (0 ≤ a) && decide (a ≤ h.1 (33 + s) 3 - n))))), h) := by
  rw [fSh_hasSpan_eq, isO7 hs]
  simp only [Bool.cond_true, cI]
  rw [wi_b a 0]
  by_cases p : n < 0
  · rw [cT p, decide_eq_false (Int32.not_le.mpr p)]; rfl
  · rw [cF p, decide_eq_true (Int32.not_lt.mp p)]
    by_cases q : h.1 (33 + s) 3 < n
    · rw [cT q, decide_eq_false (Int32.not_le.mpr q)]; rfl
    · rw [cF q, decide_eq_true (Int32.not_lt.mp q)]; rfl
/-- the row's own number -/
def fitv (x : Int32) (v : Int64) : Int64 := cond (decide (x = 0)) (v.toInt32.toInt8.toInt32.toInt64) (cond (decide (x = 1)) (v.toInt32.toInt16.toInt32.toInt64) (cond (decide (x = 2)) (v.toInt32.toInt64) (cond (decide (x = 3)) v (cond (decide (lg_cmp v 0 = 0)) 0 1))))
theorem cJ (b : Bool) (x y : Int64) (h : zm_H) : cond b (some (some (.long x), h) : zm_R) (some (some (.long y), h)) = some (some (.long (cond b x y)), h) := by cases b <;> rfl
theorem fitted_s (d : Nat) {s : Nat} (hs : s < 6) (v : Int64) (h : zm_H) : fSh_fitted (d + 1) (33 + s) v h = some (some (.long (fitv (h.1 (33 + s) 2) v)), h) := by
  rw [fSh_fitted_eq, isO7 hs]
  simp only [Bool.cond_true, cJ]; rfl
theorem kept_s (d : Nat) (x : Int32) (v : Int64) (h : zm_H) : fM_kept (d + 1) x v h = some (some (.long (fitv x v)), h) := by
  rw [fM_kept_eq]
  simp only [cJ]; rfl
theorem fitv_ok {k : Nat} (hk : k ≤ 2) (v : Int64) : (fitv (iN k) v).toInt32.toInt64 = fitv (iN k) v := by
  have : k = 0 ∨ k = 1 ∨ k = 2 := by omega
  rcases this with rfl | rfl | rfl
  · show (v.toInt32.toInt8.toInt32.toInt64).toInt32.toInt64 = v.toInt32.toInt8.toInt32.toInt64
    rw [Int32.toInt32_toInt64]
  · show (v.toInt32.toInt16.toInt32.toInt64).toInt32.toInt64 = v.toInt32.toInt16.toInt32.toInt64
    rw [Int32.toInt32_toInt64]
  · show (v.toInt32.toInt64).toInt32.toInt64 = v.toInt32.toInt64
    rw [Int32.toInt32_toInt64]
theorem rS_upd {B s : Nat} {h K : zm_H} (r : rS B h) (k1 : ∀ z, z < 6 → z ≠ s → K.1 (33 + z) = h.1 (33 + z) ∧ K.1 73 z = h.1 73 z ∧ K.1 74 z = h.1 74 z ∧ K.2 (39 + z) = h.2 (39 + z) ∧ ∀ i, i < 60 → K.2 75 (60 * z + i) = h.2 75 (60 * z + i)) (k2 : rSo B s K) : rS B K := by
  intro z hz
  by_cases q : z = s
  · subst q; exact k2
  · obtain ⟨e1, e2, e3, e4, e5⟩ := k1 z hz q
    have := r z hz
    unfold rSo at *
    rw [e1, e2, e3, e4]
    rcases this with r | r | ⟨k, n, r1, r2, r3, r4, r5, r6, r7, r8⟩
    · exact .inl r
    · exact .inr (.inl r)
    · exact .inr (.inr ⟨k, n, r1, r2, r3, r4, r5, r6, r7, fun i hi => by rw [e5 i (by omega)]; exact r8 i hi⟩)
theorem K_keep (d : Nat) {L : Nat} {xs : Nat → Int32} {h : zm_H} (r : RR L xs h) (a b : Int32) : okC L xs (fE_keep (d + 6) a b) (fM_keep (d + 6) a b) h := by
  have r0 := r
  obtain ⟨T, P, D, A, S, B, Q, W, N, C, T', Lw, G, I, Bd, Sh⟩ := r
  have Bd0 := Bd
  obtain ⟨b1, b2, b3, b4, b5, b6, b7, b8⟩ := Bd
  by_cases q : a < 0 ∨ 6 ≤ a
  · refine okC_same r0 (-1) ?_ ?_
    · rw [fE_keep_eq, isShelf_s, le5_n q, bI, cT (by decide)]
    · rw [fM_keep_eq, isShelfM_s, le5_n q, bI, cT (by decide)]
  · have q1 := le5_6 q
    obtain ⟨s, hs, rfl⟩ := iN_exn 6 rfl (by decide) q
    have fin : ∀ (v v' : Int32), (v = -1 ∧ v' = -1 ∨ ∃ j, j < B ∧ v = iN j ∧ v' = iN (10 + j)) →
        RR L xs (zm_ui (zm_ui (zm_ui (zm_ui (zm_ui h (33 + s) 1 v) (33 + s) 2 (-1)) (33 + s) 3 0) 73 s v') 74 s 0) := by
      intro v v' hv
      refine ⟨T, P, D, A, S, B, Q, rW_d ?_ W, rN_d ?_ N, rC_d ?_ C, rT_d ?_ T', rL_d ?_ Lw, rG_d ?_ G, rI_d ?_ I, rB_d ?_ Bd0, rS_upd (s := s) Sh ?_ ?_⟩
      · simp (disch := omega) only [dW, ui_f, ui_c, ui_k, ui_2, ul_1, ul_f, and_self]
      · simp (disch := omega) only [dN, ui_f, ui_c, ui_k, ui_2, ul_1, ul_f, and_self]
      · simp (disch := omega) only [dC, ui_f, ui_c, ui_k, ui_2, ul_1, ul_f, and_self]
      · simp (disch := omega) only [dT, ui_f, ui_c, ui_k, ui_2, ul_1, ul_f, and_self]
      · simp (disch := omega) only [dL, ui_f, ui_c, ui_k, ui_2, ul_1, ul_f, and_self]
      · simp (disch := omega) only [dG, ui_f, ui_c, ui_k, ui_2, ul_1, ul_f, and_self]
      · simp (disch := omega) only [dI, ui_f, ui_c, ui_k, ui_2, ul_1, ul_f, and_self]
      · simp (disch := omega) only [dB, ui_f, ui_c, ui_k, ui_2, ul_1, ul_f, and_self]
      · intro z hz hne
        simp (disch := omega) only [ui_f, ui_k, ui_c, ui_2, true_and, and_self, implies_true]
      · unfold rSo
        simp (disch := omega) only [ui_s, ui_k, ui_c, ui_2]
        rcases hv with ⟨rfl, rfl⟩ | ⟨j, hj, rfl, rfl⟩
        · exact .inl ⟨by trivial, by trivial, by trivial, by trivial, by trivial⟩
        · exact .inr (.inl ⟨j, hj, by trivial, by trivial, by trivial, by trivial, by trivial⟩)
    have hM : ∀ (k : zm_H) (v : Int32), k.1 45 41 = iN B → fM_keep (d + 6) (iN s) v k = cond (decide (-1 ≤ v) && decide (v < iN B)) (cond (decide (0 ≤ v)) (some (some (.int 1), zm_ui (zm_ui k 73 s (10 + v)) 74 s 0)) (some (some (.int 1), zm_ui (zm_ui k 73 s (-1)) 74 s 0))) (some (some (.int (-1)), k)) := by
      intro k v e
      rw [fM_keep_eq, isShelfM_s, q1, bI, cF (by decide), within_s, e, le_predd (by omega), bI, zi_0]
      cases (decide (-1 ≤ v) && decide (v < iN B))
      · rfl
      · simp (disch := omega) only [bI, bJ, bV, cN, zi_0, zi_z, Bool.cond_true, Bool.cond_false, decide_true, decide_false, decide_eq_true_eq, Bool.cond_decide, if_true, if_false, ofN12, Bool.not_not, zi_t, zi_f, iN_add, iN_addl, iN_addr, iN_mul, iN_mull, iN_mulr, iN_sub, iN_subl, iN_subr, iN_c, iN_lt, iN_ltl, iN_ltr, iN_le, iN_lel, iN_ler, iN_eq, iN_eql, iN_eqr, gR_2, hR_2, gW_2, hW_2, gR_4, hR_4, gW_4, hW_4, gR_5, hR_5, gW_5, hW_5, gR_6, hR_6, gW_6, hW_6, gR_7, hR_7, gW_7, hW_7, gR_9, hR_9, gW_9, hW_9, gR_10, hR_10, gW_10, hW_10, gR_12, hR_12, gW_12, hW_12, gR_13, hR_13, gW_13, hW_13, gR_16, hR_16, gW_16, hW_16, gR_17, hR_17, gW_17, hW_17, gR_18, hR_18, gW_18, hW_18, gR_19, hR_19, gW_19, hW_19, gR_20, hR_20, gW_20, hW_20, gR_21, hR_21, gW_21, hW_21, gR_22, hR_22, gW_22, hW_22, gR_24, hR_24, gW_24, hW_24, gR_25, hR_25, gW_25, hW_25, gR_27, hR_27, gW_27, hW_27, gR_28, hR_28, gW_28, hW_28, gR_30, hR_30, gW_30, hW_30, gR_31, hR_31, gW_31, hW_31, gR_46, hR_46, gW_46, hW_46, gR_47, hR_47, gW_47, hW_47, gR_48, hR_48, gW_48, hW_48, gR_49, hR_49, gW_49, hW_49, gR_50, hR_50, gW_50, hW_50, gR_51, hR_51, gW_51, hW_51, gR_52, hR_52, gW_52, hW_52, gR_53, hR_53, gW_53, hW_53, gR_54, hR_54, gW_54, hW_54, gR_55, hR_55, gW_55, hW_55, gR_56, hR_56, gW_56, hW_56, gR_57, hR_57, gW_57, hW_57, gR_58, hR_58, gW_58, hW_58, gR_59, hR_59, gW_59, hW_59, gR_60, hR_60, gW_60, hW_60, gR_61, hR_61, gW_61, hW_61, gR_62, hR_62, gW_62, hW_62, gR_63, hR_63, gW_63, hW_63, gR_64, hR_64, gW_64, hW_64, gR_65, hR_65, gW_65, hW_65, gR_66, hR_66, gW_66, hW_66, gR_67, hR_67, gW_67, hW_67, gR_68, hR_68, gW_68, hW_68, gR_69, hR_69, gW_69, hW_69, gR_70, hR_70, gW_70, hW_70, gR_71, hR_71, gW_71, hW_71, gR_72, hR_72, gW_72, hW_72, gR_73, hR_73, gW_73, hW_73, gR_74, hR_74, gW_74, hW_74, gR_76, hR_76, gW_76, hW_76, gR_77, hR_77, gW_77, hW_77, gR_78, hR_78, gW_78, hW_78, gR_79, hR_79, gW_79, hW_79, gR_80, hR_80, gW_80, hW_80, gR_81, hR_81, gW_81, hW_81, gR_82, hR_82, gW_82, hW_82, gR_1000, hR_1000, gR_1001, hR_1001, gR_1002, hR_1002, gR_1003, hR_1003, gJ_39, gJ_40, gJ_41, gJ_42, gJ_43, gJ_44, gJ_75, gQ_32]
    by_cases p : b = -1
    · subst p
      refine ⟨1, zm_ui (zm_ui (zm_ui h (33 + s) 1 (-1)) (33 + s) 2 (-1)) (33 + s) 3 0, zm_ui (zm_ui (zm_ui (zm_ui (zm_ui h (33 + s) 1 (-1)) (33 + s) 2 (-1)) (33 + s) 3 0) 73 s (-1)) 74 s 0, ?_, ?_, fin (-1) (-1) (.inl ⟨rfl, rfl⟩)⟩
      · rw [fE_keep_eq, isShelf_s, q1, bI, cF (by decide), cT rfl, gQ_32 hs, iN_c (by omega), rt32 hs, isO7 hs, fSh_hold_eq, isO7 hs]; rfl
      · rw [hM _ _ (by simp (disch := omega) only [ui_c]; exact b3)]
        rw [show (decide ((-1 : Int32) ≤ -1) && decide ((-1 : Int32) < iN B)) = true by
          have : (0 : Int32) ≤ iN B := by simp (disch := omega) only [iN_add, iN_addl, iN_addr, iN_mul, iN_mull, iN_mulr, iN_sub, iN_subl, iN_subr, iN_c, iN_lt, iN_ltl, iN_ltr, iN_le, iN_lel, iN_ler, iN_eq, iN_eql, iN_eqr]; omega
          generalize iN B = x at this
          grind]
        rfl
    · by_cases p2 : 0 ≤ b ∧ b < iN B
      · obtain ⟨j, hj, rfl⟩ := iN_ex p2.1 p2.2 (by omega)
        refine ⟨1, zm_ui (zm_ui (zm_ui h (33 + s) 1 (iN j)) (33 + s) 2 (-1)) (33 + s) 3 0, zm_ui (zm_ui (zm_ui (zm_ui (zm_ui h (33 + s) 1 (iN j)) (33 + s) 2 (-1)) (33 + s) 3 0) 73 s (iN (10 + j))) 74 s 0, ?_, ?_, fin (iN j) (iN (10 + j)) (.inr ⟨j, hj, rfl, rfl⟩)⟩
        · rw [fE_keep_eq, isShelf_s, q1, bI, cF (by decide), cF p, fTu_has_eq, b2]
          simp only [cI, bl_b, bI, zi_0, cN]
          rw [in_t p2, gQ_32 hs, iN_c (by omega), rt32 hs, isO7 hs, fSh_hold_eq, isO7 hs]; rfl
        · rw [hM _ _ (by simp (disch := omega) only [ui_c]; exact b3)]
          rw [show (decide ((-1 : Int32) ≤ iN j) && decide (iN j < iN B)) = true by
            rw [decide_eq_true p2.2, decide_eq_true (by have := p2.1; generalize iN j = x at this; grind)]; rfl, decide_eq_true p2.1, iN_addl]
          rfl
      · refine okC_same r0 (-1) ?_ ?_
        · rw [fE_keep_eq, isShelf_s, q1, bI, cF (by decide), cF p, fTu_has_eq, b2]
          simp only [cI, bl_b, bI, zi_0, cN]
          rw [in_f p2]; rfl
        · rw [hM h b b3, show (decide (-1 ≤ b) && decide (b < iN B)) = false by grind]; rfl
