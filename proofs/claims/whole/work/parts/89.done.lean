/-! who ties which: both sides -/
def ffl (F : Nat → Nat) : Nat → Nat → Nat → Nat
  | 0, _, b => b
  | n + 1, p, b => if F b ≤ F p then ffl F n (p + 1) b else ffl F n (p + 1) p
def updN (F : Nat → Nat) (w v : Nat) : Nat → Nat := fun p => if p = w then v else F p
def dn (mt : Nat → Nat → Nat) (N : Nat) : List Nat → (Nat → Nat) → Nat → Nat × List Nat × List Nat
  | [], _, l => (l, [], [])
  | x :: xs, F, l => ((dn mt N xs (updN F (ffl F (N - 1) 1 0) (F (ffl F (N - 1) 1 0) + mt (ffl F (N - 1) 1 0) x)) (max l (F (ffl F (N - 1) 1 0) + mt (ffl F (N - 1) 1 0) x))).1,
      ffl F (N - 1) 1 0 :: (dn mt N xs (updN F (ffl F (N - 1) 1 0) (F (ffl F (N - 1) 1 0) + mt (ffl F (N - 1) 1 0) x)) (max l (F (ffl F (N - 1) 1 0) + mt (ffl F (N - 1) 1 0) x))).2.1,
      (F (ffl F (N - 1) 1 0) + mt (ffl F (N - 1) 1 0) x) :: (dn mt N xs (updN F (ffl F (N - 1) 1 0) (F (ffl F (N - 1) 1 0) + mt (ffl F (N - 1) 1 0) x)) (max l (F (ffl F (N - 1) 1 0) + mt (ffl F (N - 1) 1 0) x))).2.2)
theorem ffl_lt (F : Nat → Nat) (N : Nat) : ∀ (n p b : Nat), p + n ≤ N → b < N → ffl F n p b < N := by
  intro n
  induction n with
  | zero => intro p b _ h; exact h
  | succ n ih =>
    intro p b h1 h2
    rw [ffl]; split
    · exact ih _ _ (by omega) h2
    · exact ih _ _ (by omega) (by omega)
theorem dn_len (mt : Nat → Nat → Nat) (N : Nat) : ∀ (xs : List Nat) (F : Nat → Nat) (l : Nat), (dn mt N xs F l).2.1.length = xs.length ∧ (dn mt N xs F l).2.2.length = xs.length := by
  intro xs
  induction xs with
  | nil => intro F l; exact ⟨rfl, rfl⟩
  | cons x xs ih =>
    intro F l
    rw [dn]
    obtain ⟨i1, i2⟩ := ih (updN F (ffl F (N - 1) 1 0) (F (ffl F (N - 1) 1 0) + mt (ffl F (N - 1) 1 0) x)) (max l (F (ffl F (N - 1) 1 0) + mt (ffl F (N - 1) 1 0) x))
    exact ⟨by simp only [List.length_cons, i1], by simp only [List.length_cons, i2]⟩
theorem dn_map (m : Nat → Nat → Nat) (N : Nat) (f : Nat → Nat) : ∀ (xs : List Nat) (F : Nat → Nat) (l : Nat), dn (fun w x => m w (f x)) N xs F l = dn m N (xs.map f) F l := by
  intro xs
  induction xs with
  | nil => intro F l; rfl
  | cons x xs ih => intro F l; rw [List.map_cons, dn, dn, ih]
theorem firstFreeC (d : Nat) {N : Nat} (hN : N ≤ 7) {F : Nat → Nat} (hF : ∀ p, p < 7 → F p < 100000) {h : zm_H} (er : ∀ p, p < 7 → h.1 22 p = iN (F p)) : ∀ (n p b : Nat), p + n = N → b < N → fDr_firstFree_c4 (d + 1) (iN N) (iN b) (iN p) h = some (some (.int (iN (ffl F n p b))), h) := by
  intro n
  induction n with
  | zero =>
    intro p b hp hb
    rw [fDr_firstFree_c4_eq, cT (by simp (disch := omega) only [iN_add, iN_addl, iN_addr, iN_mul, iN_mull, iN_mulr, iN_sub, iN_subl, iN_subr, iN_c, iN_lt, iN_ltl, iN_ltr, iN_le, iN_lel, iN_ler, iN_eq, iN_eql, iN_eqr]; omega)]; rfl
  | succ n ih =>
    intro p b hp hb
    have f1 := hF p (by omega)
    have f2 := hF b (by omega)
    rw [fDr_firstFree_c4_eq, cF (by simp (disch := omega) only [iN_add, iN_addl, iN_addr, iN_mul, iN_mull, iN_mulr, iN_sub, iN_subl, iN_subr, iN_c, iN_lt, iN_ltl, iN_ltr, iN_le, iN_lel, iN_ler, iN_eq, iN_eql, iN_eqr]; omega), cF (by simp (disch := omega) only [iN_add, iN_addl, iN_addr, iN_mul, iN_mull, iN_mulr, iN_sub, iN_subl, iN_subr, iN_c, iN_lt, iN_ltl, iN_ltr, iN_le, iN_lel, iN_ler, iN_eq, iN_eql, iN_eqr]; omega), gR_22 (by omega), gR_22 (by omega), iN_c (by omega), iN_c (by omega), er p (by omega), er b (by omega), Bool.cond_true, Bool.cond_true, iN_addr, ffl]
    by_cases q : F b ≤ F p
    · rw [cT (by rw [iN_le (by omega) (by omega)]; exact q), if_pos q]; exact ih _ _ (by omega) hb
    · rw [cF (by rw [iN_le (by omega) (by omega)]; exact q), if_neg q]; exact ih _ _ (by omega) (by omega)
theorem minForC (d : Nat) {w x : Nat} (hw : w < 7) (hx : x < 6) {h : zm_H} : fDr_minutesFor (d + 1) (iN w) (iN x) h = some (some (.int (h.1 21 (w * 6 + x))), h) := by
  rw [fDr_minutesFor_eq, cF (iN_lt0 (by omega)), cF (by simp (disch := omega) only [iN_add, iN_addl, iN_addr, iN_mul, iN_mull, iN_mulr, iN_sub, iN_subl, iN_subr, iN_c, iN_lt, iN_ltl, iN_ltr, iN_le, iN_lel, iN_ler, iN_eq, iN_eql, iN_eqr]; omega), cF (iN_lt0 (by omega)), cF (by simp (disch := omega) only [iN_add, iN_addl, iN_addr, iN_mul, iN_mull, iN_mulr, iN_sub, iN_subl, iN_subr, iN_c, iN_lt, iN_ltl, iN_ltr, iN_le, iN_lel, iN_ler, iN_eq, iN_eql, iN_eqr]; omega), cF (by decide)]
  simp (disch := omega) only [bI, bJ, bV, cN, zi_0, zi_z, Bool.cond_true, Bool.cond_false, decide_true, decide_false, decide_eq_true_eq, Bool.cond_decide, if_true, if_false, ofN12, Bool.not_not, zi_t, zi_f, iN_add, iN_addl, iN_addr, iN_mul, iN_mull, iN_mulr, iN_sub, iN_subl, iN_subr, iN_c, iN_lt, iN_ltl, iN_ltr, iN_le, iN_lel, iN_ler, iN_eq, iN_eql, iN_eqr, gR_2, hR_2, gW_2, hW_2, gR_4, hR_4, gW_4, hW_4, gR_5, hR_5, gW_5, hW_5, gR_6, hR_6, gW_6, hW_6, gR_7, hR_7, gW_7, hW_7, gR_9, hR_9, gW_9, hW_9, gR_10, hR_10, gW_10, hW_10, gR_12, hR_12, gW_12, hW_12, gR_13, hR_13, gW_13, hW_13, gR_16, hR_16, gW_16, hW_16, gR_17, hR_17, gW_17, hW_17, gR_18, hR_18, gW_18, hW_18, gR_19, hR_19, gW_19, hW_19, gR_20, hR_20, gW_20, hW_20, gR_21, hR_21, gW_21, hW_21, gR_22, hR_22, gW_22, hW_22, gR_24, hR_24, gW_24, hW_24, gR_25, hR_25, gW_25, hW_25, gR_27, hR_27, gW_27, hW_27, gR_28, hR_28, gW_28, hW_28, gR_30, hR_30, gW_30, hW_30, gR_31, hR_31, gW_31, hW_31, gR_46, hR_46, gW_46, hW_46, gR_47, hR_47, gW_47, hW_47, gR_48, hR_48, gW_48, hW_48, gR_49, hR_49, gW_49, hW_49, gR_50, hR_50, gW_50, hW_50, gR_51, hR_51, gW_51, hW_51, gR_52, hR_52, gW_52, hW_52, gR_53, hR_53, gW_53, hW_53, gR_54, hR_54, gW_54, hW_54, gR_55, hR_55, gW_55, hW_55, gR_56, hR_56, gW_56, hW_56, gR_57, hR_57, gW_57, hW_57, gR_58, hR_58, gW_58, hW_58, gR_59, hR_59, gW_59, hW_59, gR_60, hR_60, gW_60, hW_60, gR_61, hR_61, gW_61, hW_61, gR_62, hR_62, gW_62, hW_62, gR_63, hR_63, gW_63, hW_63, gR_64, hR_64, gW_64, hW_64, gR_65, hR_65, gW_65, hW_65, gR_66, hR_66, gW_66, hW_66, gR_67, hR_67, gW_67, hW_67, gR_68, hR_68, gW_68, hW_68, gR_69, hR_69, gW_69, hW_69, gR_70, hR_70, gW_70, hW_70, gR_71, hR_71, gW_71, hW_71, gR_72, hR_72, gW_72, hW_72, gR_73, hR_73, gW_73, hW_73, gR_74, hR_74, gW_74, hW_74, gR_76, hR_76, gW_76, hW_76, gR_77, hR_77, gW_77, hW_77, gR_78, hR_78, gW_78, hW_78, gR_79, hR_79, gW_79, hW_79, gR_80, hR_80, gW_80, hW_80, gR_81, hR_81, gW_81, hW_81, gR_82, hR_82, gW_82, hW_82, gR_1000, hR_1000, gR_1001, hR_1001, gR_1002, hR_1002, gR_1003, hR_1003, gJ_39, gJ_40, gJ_41, gJ_42, gJ_43, gJ_44, gJ_75, gQ_32]
theorem doneC_l (d : Nat) {N m : Nat} (hN0 : 1 ≤ N) (hN : N ≤ 7) (hm : m ≤ 6) {mt : Nat → Nat → Nat} (hmt : ∀ w x, w < 7 → mt w x ≤ 600) : ∀ (xs : List Nat) (i : Nat) (F : Nat → Nat) (l : Nat) (h : zm_H), i + xs.length = m → (∀ x ∈ xs, x < 6) → (∀ p, p < 7 → F p ≤ 600 * i) → l ≤ 600 * i → h.1 15 7 = iN m → (∀ j, j < xs.length → h.1 20 (i + j) = iN (xs.getD j 0)) → (∀ p, p < 7 → h.1 22 p = iN (F p)) → (∀ w x, w < N → x ∈ xs → h.1 21 (w * 6 + x) = iN (mt w x)) →
    ∃ K, fDr_done_c12 (d + 2) (iN N) (iN l) (iN i) h = some (some (.int (iN (dn mt N xs F l).1)), K) ∧ (∀ j, j < xs.length → K.1 17 (i + j) = iN ((dn mt N xs F l).2.1.getD j 0) ∧ K.1 19 (i + j) = iN ((dn mt N xs F l).2.2.getD j 0)) ∧ (∀ j, j < i → K.1 17 j = h.1 17 j ∧ K.1 19 j = h.1 19 j) ∧ (∀ a, a ≠ 17 → a ≠ 19 → a ≠ 22 → K.1 a = h.1 a) ∧ K.2 = h.2 := by
  intro xs
  induction xs with
  | nil =>
    intro i F l h hi _ _ _ e7 _ _ _
    obtain rfl : i = m := by simpa using hi
    refine ⟨h, ?_, fun j hj => absurd hj (by simp), fun _ _ => ⟨rfl, rfl⟩, fun _ _ _ _ => rfl, rfl⟩
    rw [fDr_done_c12_eq, e7, cT (by simp (disch := omega) only [iN_add, iN_addl, iN_addr, iN_mul, iN_mull, iN_mulr, iN_sub, iN_subl, iN_subr, iN_c, iN_lt, iN_ltl, iN_ltr, iN_le, iN_lel, iN_ler, iN_eq, iN_eql, iN_eqr]; omega)]; rfl
  | cons x xs ih =>
    intro i F l h hi hx hF hl e7 e20 e22 e21
    rw [List.length_cons] at hi
    have hw := ffl_lt F N (N - 1) 1 0 (by omega) (by omega)
    have fw := hF _ (by omega : ffl F (N - 1) 1 0 < 7)
    have hx6 := hx x (List.mem_cons_self ..)
    have mb := hmt (ffl F (N - 1) 1 0) x (by omega)
    have hff := firstFreeC d hN (F := F) (fun p hp => by have := hF p hp; omega) e22 (N - 1) 1 0 (by omega) (by omega)
    have e20' := e20 0 (by rw [List.length_cons]; omega)
    rw [Nat.add_zero] at e20'
    have e21' := e21 _ x hw (List.mem_cons_self ..)
    have e22' := e22 _ (by omega : ffl F (N - 1) 1 0 < 7)
    have hdn : dn mt N (x :: xs) F l = ((dn mt N xs (updN F (ffl F (N - 1) 1 0) (F (ffl F (N - 1) 1 0) + mt (ffl F (N - 1) 1 0) x)) (max l (F (ffl F (N - 1) 1 0) + mt (ffl F (N - 1) 1 0) x))).1,
      ffl F (N - 1) 1 0 :: (dn mt N xs (updN F (ffl F (N - 1) 1 0) (F (ffl F (N - 1) 1 0) + mt (ffl F (N - 1) 1 0) x)) (max l (F (ffl F (N - 1) 1 0) + mt (ffl F (N - 1) 1 0) x))).2.1,
      (F (ffl F (N - 1) 1 0) + mt (ffl F (N - 1) 1 0) x) :: (dn mt N xs (updN F (ffl F (N - 1) 1 0) (F (ffl F (N - 1) 1 0) + mt (ffl F (N - 1) 1 0) x)) (max l (F (ffl F (N - 1) 1 0) + mt (ffl F (N - 1) 1 0) x))).2.2) := rfl
    rw [hdn]
    generalize ffl F (N - 1) 1 0 = w at *
    generalize mt w x = q at *
    have HH := ih (i + 1) (updN F w (F w + q)) (max l (F w + q)) (zm_ui (zm_ui (zm_ui h 22 w (iN (F w + q))) 17 i (iN w)) 19 i (iN (F w + q))) (by omega) (fun y hy => hx y (List.mem_cons_of_mem _ hy)) ?_ (by omega) (by simp (disch := omega) only [ui_c]; exact e7) ?_ ?_ ?_
    · obtain ⟨K, k1, k2, k3, k4, k5⟩ := HH
      refine ⟨K, ?_, ?_, ?_, ?_, k5⟩
      · rw [fDr_done_c12_eq, e7, cF (by simp (disch := omega) only [iN_add, iN_addl, iN_addr, iN_mul, iN_mull, iN_mulr, iN_sub, iN_subl, iN_subr, iN_c, iN_lt, iN_ltl, iN_ltr, iN_le, iN_lel, iN_ler, iN_eq, iN_eql, iN_eqr]; omega), fDr_firstFree_eq]
        rw [show fDr_firstFree_c4 (d + 1) (iN N) 0 1 h = some (some (.int (iN w)), h) from hff, bI, gR_22 (by omega), gR_20 (by omega), iN_c (by omega), iN_c (by omega), e20', List.getD_cons_zero, Bool.cond_true, Bool.cond_true, minForC d (by omega) hx6, bI, e21', e22', iN_add]
        simp (disch := omega) only [bI, bJ, bV, cN, zi_0, zi_z, Bool.cond_true, Bool.cond_false, decide_true, decide_false, decide_eq_true_eq, Bool.cond_decide, if_true, if_false, ofN12, Bool.not_not, zi_t, zi_f, gR_2, hR_2, gW_2, hW_2, gR_4, hR_4, gW_4, hW_4, gR_5, hR_5, gW_5, hW_5, gR_6, hR_6, gW_6, hW_6, gR_7, hR_7, gW_7, hW_7, gR_9, hR_9, gW_9, hW_9, gR_10, hR_10, gW_10, hW_10, gR_12, hR_12, gW_12, hW_12, gR_13, hR_13, gW_13, hW_13, gR_16, hR_16, gW_16, hW_16, gR_17, hR_17, gW_17, hW_17, gR_18, hR_18, gW_18, hW_18, gR_19, hR_19, gW_19, hW_19, gR_20, hR_20, gW_20, hW_20, gR_21, hR_21, gW_21, hW_21, gR_22, hR_22, gW_22, hW_22, gR_24, hR_24, gW_24, hW_24, gR_25, hR_25, gW_25, hW_25, gR_27, hR_27, gW_27, hW_27, gR_28, hR_28, gW_28, hW_28, gR_30, hR_30, gW_30, hW_30, gR_31, hR_31, gW_31, hW_31, gR_46, hR_46, gW_46, hW_46, gR_47, hR_47, gW_47, hW_47, gR_48, hR_48, gW_48, hW_48, gR_49, hR_49, gW_49, hW_49, gR_50, hR_50, gW_50, hW_50, gR_51, hR_51, gW_51, hW_51, gR_52, hR_52, gW_52, hW_52, gR_53, hR_53, gW_53, hW_53, gR_54, hR_54, gW_54, hW_54, gR_55, hR_55, gW_55, hW_55, gR_56, hR_56, gW_56, hW_56, gR_57, hR_57, gW_57, hW_57, gR_58, hR_58, gW_58, hW_58, gR_59, hR_59, gW_59, hW_59, gR_60, hR_60, gW_60, hW_60, gR_61, hR_61, gW_61, hW_61, gR_62, hR_62, gW_62, hW_62, gR_63, hR_63, gW_63, hW_63, gR_64, hR_64, gW_64, hW_64, gR_65, hR_65, gW_65, hW_65, gR_66, hR_66, gW_66, hW_66, gR_67, hR_67, gW_67, hW_67, gR_68, hR_68, gW_68, hW_68, gR_69, hR_69, gW_69, hW_69, gR_70, hR_70, gW_70, hW_70, gR_71, hR_71, gW_71, hW_71, gR_72, hR_72, gW_72, hW_72, gR_73, hR_73, gW_73, hW_73, gR_74, hR_74, gW_74, hW_74, gR_76, hR_76, gW_76, hW_76, gR_77, hR_77, gW_77, hW_77, gR_78, hR_78, gW_78, hW_78, gR_79, hR_79, gW_79, hW_79, gR_80, hR_80, gW_80, hW_80, gR_81, hR_81, gW_81, hW_81, gR_82, hR_82, gW_82, hW_82, gR_1000, hR_1000, gR_1001, hR_1001, gR_1002, hR_1002, gR_1003, hR_1003, gJ_39, gJ_40, gJ_41, gJ_42, gJ_43, gJ_44, gJ_75, gQ_32, ui_s, ui_k, ui_c, iN_addr, iN_c, zm_max_iN]
        exact k1
      · intro j hj
        rw [List.length_cons] at hj
        cases j with
        | zero =>
          have := k3 i (by omega)
          rw [Nat.add_zero, this.1, this.2, List.getD_cons_zero, List.getD_cons_zero]
          simp (disch := omega) only [ui_s, ui_c, and_self]
        | succ j =>
          rw [List.getD_cons_succ, List.getD_cons_succ, show i + (j + 1) = i + 1 + j by omega]
          exact k2 j (by omega)
      · intro j hj
        have := k3 j (by omega)
        rw [this.1, this.2]
        simp (disch := omega) only [ui_k, ui_c, and_self]
      · intro a h1 h2 h3
        rw [k4 a h1 h2 h3]; simp (disch := omega) only [ui_f]
    · intro p hp
      have := hF p hp
      unfold updN; split <;> omega
    · intro j hj
      have := e20 (j + 1) (by rw [List.length_cons]; omega)
      rw [List.getD_cons_succ] at this
      simp (disch := omega) only [ui_c]
      rw [show i + 1 + j = i + (j + 1) by omega]; exact this
    · intro p hp
      unfold updN
      by_cases e : p = w
      · subst e; rw [if_pos rfl]; simp (disch := omega) only [ui_s, ui_c]
      · rw [if_neg e]; simp (disch := omega) only [ui_k, ui_c]; exact e22 p hp
    · intro y z hy hz
      simp (disch := omega) only [ui_c]
      exact e21 y z hy (List.mem_cons_of_mem _ hz)
theorem fill22 (d : Nat) : ∀ (k i : Nat) (h : zm_H), i + k = 7 → ∃ K, fJa_fillI_c5 (d + 1) 22 0 (iN i) (iN 7) h = some (none, K) ∧ (∀ a, a ≠ 22 → K.1 a = h.1 a) ∧ K.2 = h.2 ∧ (∀ p, p < 7 → i ≤ p → K.1 22 p = 0) ∧ (∀ p, p < i → K.1 22 p = h.1 22 p) := by
  intro k
  induction k with
  | zero =>
    intro i h hi
    obtain rfl : i = 7 := by omega
    refine ⟨h, ?_, fun _ _ => rfl, rfl, fun p h1 h2 => absurd h1 (by omega), fun _ _ => rfl⟩
    rw [fJa_fillI_c5_eq, cT (by decide)]
  | succ k ih =>
    intro i h hi
    obtain ⟨K, f, k1, k2, k3, k4⟩ := ih (i + 1) (zm_ui h 22 i 0) (by omega)
    refine ⟨K, ?_, ?_, k2, ?_, ?_⟩
    · rw [fJa_fillI_c5_eq, cF (by simp (disch := omega) only [iN_add, iN_addl, iN_addr, iN_mul, iN_mull, iN_mulr, iN_sub, iN_subl, iN_subr, iN_c, iN_lt, iN_ltl, iN_ltr, iN_le, iN_lel, iN_ler, iN_eq, iN_eql, iN_eqr]; omega), gW_22 (by omega), iN_c (by omega), iN_addr]; exact f
    · intro a h1; rw [k1 a h1, ui_f h1]
    · intro p h1 h2
      by_cases e : p = i
      · subst e; rw [k4 p (by omega), ui_s]
      · exact k3 p h1 (by omega)
    · intro p h1
      rw [k4 p (by omega), ui_k (by omega)]
theorem doneC (d : Nat) {N : Nat} (hN0 : 1 ≤ N) (hN : N ≤ 7) {mt : Nat → Nat → Nat} (hmt : ∀ w x, w < 7 → mt w x ≤ 600) {xs : List Nat} (hl : xs.length ≤ 6) (hx : ∀ x ∈ xs, x < 6) {h : zm_H} (e7 : h.1 15 7 = iN xs.length) (e20 : rowN (h.1 20) xs) (e21 : ∀ w x, w < N → x ∈ xs → h.1 21 (w * 6 + x) = iN (mt w x)) :
    ∃ K, fDr_done (d + 3) (iN N) h = some (some (.int (iN (dn mt N xs (fun _ => 0) 0).1)), K) ∧ rowN (K.1 17) (dn mt N xs (fun _ => 0) 0).2.1 ∧ rowN (K.1 19) (dn mt N xs (fun _ => 0) 0).2.2 ∧ (∀ a, a ≠ 17 → a ≠ 19 → a ≠ 22 → K.1 a = h.1 a) ∧ K.2 = h.2 := by
  obtain ⟨K0, f0, f1, f2, f3, f4⟩ := fill22 (d + 1) 7 0 h (by omega)
  obtain ⟨K, k1, k2, k3, k4, k5⟩ := doneC_l (d + 1) hN0 hN hl hmt xs 0 (fun _ => 0) 0 K0 (by omega) hx (fun _ _ => Nat.zero_le _) (by omega) (by rw [f1 15 (by omega)]; exact e7) (fun j hj => by rw [f1 20 (by omega), Nat.zero_add]; exact e20 j hj) (fun p hp => by rw [f3 p hp (by omega)]; rfl) (fun w x h1 h2 => by rw [f1 21 (by omega)]; exact e21 w x h1 h2)
  have dl := dn_len mt N xs (fun _ => 0) 0
  refine ⟨K, ?_, ?_, ?_, fun a h1 h2 h3 => by rw [k4 a h1 h2 h3, f1 a h3], by rw [k5, f2]⟩
  · rw [fDr_done_eq, fJa_fillI_eq, show zm_isA 22 = true by decide +kernel, show (zm_kd 22) = (1, 7) by decide +kernel]
    rw [show (cond (Nat.beq (1, 7).1 5) (h.1 2001 (0 : Nat)) (Int32.ofNat ((1, 7) : Nat × Nat).2)) = iN 7 from rfl, Bool.cond_true]
    rw [show fJa_fillI_c5 (d + 1 + 1) 22 0 0 (iN 7) h = some (none, K0) from f0, bV]; exact k1
  · intro j hj
    rw [dl.1] at hj
    have := (k2 j hj).1
    rw [Nat.zero_add] at this; exact this
  · intro j hj
    rw [dl.2] at hj
    have := (k2 j hj).2
    rw [Nat.zero_add] at this; exact this
