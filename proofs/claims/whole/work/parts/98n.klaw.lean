/-! law -/
theorem copyM (d : Nat) {N : Nat} (hN : N ≤ 60) : ∀ (n i : Nat) (h : zm_H), i + n = N → h.1 45 18 = iN N → ∃ K, fM_law_c99 (d + 1) (iN i) h = fM_law_c151 (d + 1) 0 K ∧ (∀ a, a ≠ 57 → a ≠ 58 → a ≠ 59 → K.1 a = h.1 a) ∧ K.2 = h.2 ∧ (∀ j, j < N → i ≤ j → K.1 57 j = h.1 61 j ∧ K.1 58 j = h.1 62 j ∧ K.1 59 j = h.1 63 j) ∧ (∀ j, j < i → K.1 57 j = h.1 57 j ∧ K.1 58 j = h.1 58 j ∧ K.1 59 j = h.1 59 j) := by
  intro n
  induction n with
  | zero =>
    intro i h hi e
    obtain rfl : i = N := by omega
    refine ⟨h, ?_, fun _ _ _ _ => rfl, rfl, fun p h1 h2 => absurd h1 (by omega), fun _ _ => ⟨rfl, rfl, rfl⟩⟩
    rw [fM_law_c99_eq, e, cT (by rw [iN_le (by omega) (by omega)]; omega)]
  | succ n ih =>
    intro i h hi e
    obtain ⟨K, f, k1, k2, k3, k4⟩ := ih (i + 1) (zm_ui (zm_ui (zm_ui h 57 i (h.1 61 i)) 58 i (h.1 62 i)) 59 i (h.1 63 i)) (by omega) (by rw [ui_c (by omega), ui_c (by omega), ui_c (by omega)]; exact e)
    refine ⟨K, ?_, ?_, k2, ?_, ?_⟩
    · rw [fM_law_c99_eq, e, cF (by rw [iN_le (by omega) (by omega)]; omega)]
      simp (disch := omega) only [bI, bJ, bV, cN, zi_0, zi_z, Bool.cond_true, Bool.cond_false, decide_true, decide_false, decide_eq_true_eq, Bool.cond_decide, if_true, if_false, ofN12, Bool.not_not, zi_t, zi_f, gR_2, hR_2, gW_2, hW_2, gR_4, hR_4, gW_4, hW_4, gR_5, hR_5, gW_5, hW_5, gR_6, hR_6, gW_6, hW_6, gR_7, hR_7, gW_7, hW_7, gR_9, hR_9, gW_9, hW_9, gR_10, hR_10, gW_10, hW_10, gR_12, hR_12, gW_12, hW_12, gR_13, hR_13, gW_13, hW_13, gR_16, hR_16, gW_16, hW_16, gR_17, hR_17, gW_17, hW_17, gR_18, hR_18, gW_18, hW_18, gR_19, hR_19, gW_19, hW_19, gR_20, hR_20, gW_20, hW_20, gR_21, hR_21, gW_21, hW_21, gR_22, hR_22, gW_22, hW_22, gR_24, hR_24, gW_24, hW_24, gR_25, hR_25, gW_25, hW_25, gR_27, hR_27, gW_27, hW_27, gR_28, hR_28, gW_28, hW_28, gR_30, hR_30, gW_30, hW_30, gR_31, hR_31, gW_31, hW_31, gR_46, hR_46, gW_46, hW_46, gR_47, hR_47, gW_47, hW_47, gR_48, hR_48, gW_48, hW_48, gR_49, hR_49, gW_49, hW_49, gR_50, hR_50, gW_50, hW_50, gR_51, hR_51, gW_51, hW_51, gR_52, hR_52, gW_52, hW_52, gR_53, hR_53, gW_53, hW_53, gR_54, hR_54, gW_54, hW_54, gR_55, hR_55, gW_55, hW_55, gR_56, hR_56, gW_56, hW_56, gR_57, hR_57, gW_57, hW_57, gR_58, hR_58, gW_58, hW_58, gR_59, hR_59, gW_59, hW_59, gR_60, hR_60, gW_60, hW_60, gR_61, hR_61, gW_61, hW_61, gR_62, hR_62, gW_62, hW_62, gR_63, hR_63, gW_63, hW_63, gR_64, hR_64, gW_64, hW_64, gR_65, hR_65, gW_65, hW_65, gR_66, hR_66, gW_66, hW_66, gR_67, hR_67, gW_67, hW_67, gR_68, hR_68, gW_68, hW_68, gR_69, hR_69, gW_69, hW_69, gR_70, hR_70, gW_70, hW_70, gR_71, hR_71, gW_71, hW_71, gR_72, hR_72, gW_72, hW_72, gR_73, hR_73, gW_73, hW_73, gR_74, hR_74, gW_74, hW_74, gR_76, hR_76, gW_76, hW_76, gR_77, hR_77, gW_77, hW_77, gR_78, hR_78, gW_78, hW_78, gR_79, hR_79, gW_79, hW_79, gR_80, hR_80, gW_80, hW_80, gR_81, hR_81, gW_81, hW_81, gR_82, hR_82, gW_82, hW_82, gR_1000, hR_1000, gR_1001, hR_1001, gR_1002, hR_1002, gR_1003, hR_1003, gJ_39, gJ_40, gJ_41, gJ_42, gJ_43, gJ_44, gJ_75, gQ_32, ui_c, iN_addr, iN_c]
      exact f
    · intro a h1 h2 h3; rw [k1 a h1 h2 h3, ui_f h3, ui_f h2, ui_f h1]
    · intro p h1 h2
      by_cases e : p = i
      · subst e
        have := k4 p (by omega)
        rw [this.1, this.2.1, this.2.2, ui_c (by omega), ui_c (by omega), ui_s, ui_c (by omega), ui_s, ui_s]; exact ⟨rfl, rfl, rfl⟩
      · have := k3 p h1 (by omega)
        rw [this.1, this.2.1, this.2.2]
        simp (disch := omega) only [ui_c, and_self]
    · intro p h1
      have := k4 p (by omega)
      rw [this.1, this.2.1, this.2.2]
      simp (disch := omega) only [ui_c, ui_k, and_self]
theorem copyT (d : Nat) {N : Nat} (hN : N ≤ 128) : ∀ (n i : Nat) (h : zm_H), i + n = N → h.1 45 25 = iN N → ∃ K, fM_law_c151 (d + 1) (iN i) h = some (some (.int 1), K) ∧ (∀ a, a ≠ 60 → K.1 a = h.1 a) ∧ K.2 = h.2 ∧ (∀ j, j < N → i ≤ j → K.1 60 j = h.1 64 j) ∧ (∀ j, j < i → K.1 60 j = h.1 60 j) := by
  intro n
  induction n with
  | zero =>
    intro i h hi e
    obtain rfl : i = N := by omega
    refine ⟨h, ?_, fun _ _ => rfl, rfl, fun p h1 h2 => absurd h1 (by omega), fun _ _ => rfl⟩
    rw [fM_law_c151_eq, e, cT (by rw [iN_le (by omega) (by omega)]; omega)]
  | succ n ih =>
    intro i h hi e
    obtain ⟨K, f, k1, k2, k3, k4⟩ := ih (i + 1) (zm_ui h 60 i (h.1 64 i)) (by omega) (by rw [ui_c (by omega)]; exact e)
    refine ⟨K, ?_, ?_, k2, ?_, ?_⟩
    · rw [fM_law_c151_eq, e, cF (by rw [iN_le (by omega) (by omega)]; omega), gR_64 (by omega), gW_60 (by omega), iN_c (by omega), iN_addr]; exact f
    · intro a h1; rw [k1 a h1, ui_f h1]
    · intro p h1 h2
      by_cases e : p = i
      · subst e; rw [k4 p (by omega), ui_s]
      · rw [k3 p h1 (by omega), ui_c (by omega)]
    · intro p h1
      rw [k4 p (by omega), ui_k (by omega)]
theorem lml_r {h k : zm_H} : ∀ (ls : List (List Nat × List Nat)) (i p n m : Nat), i + ls.length ≤ n → p + tkn ls ≤ m → (∀ j, j < n → k.1 57 j = h.1 61 j ∧ k.1 58 j = h.1 62 j ∧ k.1 59 j = h.1 63 j) → (∀ j, j < m → k.1 60 j = h.1 64 j) → lmr h i p ls → lml k i p ls := by
  intro ls
  induction ls with
  | nil => intro i p n m _ _ _ _ _; trivial
  | cons x ls ih =>
    intro i p n m hn hm e1 e2 r
    obtain ⟨a, s⟩ := x
    obtain ⟨r1, r2, r3, r4, r5, r6⟩ := r
    rw [List.length_cons] at hn
    rw [tkn] at hm
    obtain ⟨w1, w2, w3⟩ := e1 i (by omega)
    refine ⟨w1.trans r1, w2.trans r2, w3.trans r3, atL_k _ _ (fun j h1 h2 => e2 j ?_) r4, atL_k _ _ (fun j h1 h2 => e2 j ?_) r5, ih _ _ n m (by omega) (by omega) e1 e2 r6⟩
    · rw [List.length_map] at h2; omega
    · rw [List.length_map] at h2; omega
