/-! shift -/
theorem iN_64 {n : Nat} (h : n < 2147483648) : (iN n).toInt64.toInt = (n : Int) := by
  rw [Int32.toInt_toInt64, iN_toInt h]
theorem le64 {p q m : Nat} (hp : p < 2147483648) (hq : q < 2147483648) (hm : m < 2147483648) : ((iN p).toInt64 + (iN q).toInt64 ≤ (iN m).toInt64) ↔ p + q ≤ m := by
  rw [Int64.le_iff_toInt_le, Int64.toInt_add, iN_64 hp, iN_64 hq, iN_64 hm, Int.bmod_eq_of_le (by omega) (by omega)]
  omega
theorem mshift188 (d : Nat) {s z p j n : Nat} (hs : s < 6) (hz : z < 6) (hp : p + n ≤ 60) (hj : j + n ≤ 60) (ho : 60 * z + j ≤ 60 * s + p ∨ 60 * s + p + n ≤ 60 * z + j) : ∀ (k i : Nat) (h : zm_H), i + k = n →
    ∃ K, fM_shift_c188 (d + 1) (iN s) (iN p) (iN z) (iN j) (iN n) (iN i) h = some (some (.int (iN n)), K) ∧ K.1 = h.1 ∧ (∀ a, a ≠ 75 → K.2 a = h.2 a) ∧
      (∀ b, K.2 75 b = if 60 * z + j + i ≤ b ∧ b < 60 * z + j + n then h.2 75 (60 * s + p + (b - (60 * z + j))) else h.2 75 b) := by
  intro k
  induction k with
  | zero =>
    intro i h hi
    obtain rfl : i = n := by omega
    refine ⟨h, ?_, rfl, fun _ _ => rfl, fun b => ?_⟩
    · rw [fM_shift_c188_eq, cT (by simp (disch := omega) only [iN_add, iN_addl, iN_addr, iN_mul, iN_mull, iN_mulr, iN_sub, iN_subl, iN_subr, iN_c, iN_lt, iN_ltl, iN_ltr, iN_le, iN_lel, iN_ler, iN_eq, iN_eql, iN_eqr]; omega)]
    · rw [if_neg (by omega)]
  | succ k ih =>
    intro i h hi
    obtain ⟨K, f, k1, k2, k3⟩ := ih (i + 1) (zm_ul h 75 (60 * z + j + i) (h.2 75 (60 * s + p + i))) (by omega)
    refine ⟨K, ?_, ?_, ?_, ?_⟩
    · rw [fM_shift_c188_eq, cF (by simp (disch := omega) only [iN_add, iN_addl, iN_addr, iN_mul, iN_mull, iN_mulr, iN_sub, iN_subl, iN_subr, iN_c, iN_lt, iN_ltl, iN_ltr, iN_le, iN_lel, iN_ler, iN_eq, iN_eql, iN_eqr]; omega)]
      simp (disch := omega) only [bI, bJ, bV, cN, zi_0, zi_z, Bool.cond_true, Bool.cond_false, decide_true, decide_false, decide_eq_true_eq, Bool.cond_decide, if_true, if_false, ofN12, Bool.not_not, zi_t, zi_f, iN_add, iN_addl, iN_addr, iN_mul, iN_mull, iN_mulr, iN_sub, iN_subl, iN_subr, iN_c, iN_lt, iN_ltl, iN_ltr, iN_le, iN_lel, iN_ler, iN_eq, iN_eql, iN_eqr, gR_2, hR_2, gW_2, hW_2, gR_4, hR_4, gW_4, hW_4, gR_5, hR_5, gW_5, hW_5, gR_6, hR_6, gW_6, hW_6, gR_7, hR_7, gW_7, hW_7, gR_9, hR_9, gW_9, hW_9, gR_10, hR_10, gW_10, hW_10, gR_12, hR_12, gW_12, hW_12, gR_13, hR_13, gW_13, hW_13, gR_16, hR_16, gW_16, hW_16, gR_17, hR_17, gW_17, hW_17, gR_18, hR_18, gW_18, hW_18, gR_19, hR_19, gW_19, hW_19, gR_20, hR_20, gW_20, hW_20, gR_21, hR_21, gW_21, hW_21, gR_22, hR_22, gW_22, hW_22, gR_24, hR_24, gW_24, hW_24, gR_25, hR_25, gW_25, hW_25, gR_27, hR_27, gW_27, hW_27, gR_28, hR_28, gW_28, hW_28, gR_30, hR_30, gW_30, hW_30, gR_31, hR_31, gW_31, hW_31, gR_46, hR_46, gW_46, hW_46, gR_47, hR_47, gW_47, hW_47, gR_48, hR_48, gW_48, hW_48, gR_49, hR_49, gW_49, hW_49, gR_50, hR_50, gW_50, hW_50, gR_51, hR_51, gW_51, hW_51, gR_52, hR_52, gW_52, hW_52, gR_53, hR_53, gW_53, hW_53, gR_54, hR_54, gW_54, hW_54, gR_55, hR_55, gW_55, hW_55, gR_56, hR_56, gW_56, hW_56, gR_57, hR_57, gW_57, hW_57, gR_58, hR_58, gW_58, hW_58, gR_59, hR_59, gW_59, hW_59, gR_60, hR_60, gW_60, hW_60, gR_61, hR_61, gW_61, hW_61, gR_62, hR_62, gW_62, hW_62, gR_63, hR_63, gW_63, hW_63, gR_64, hR_64, gW_64, hW_64, gR_65, hR_65, gW_65, hW_65, gR_66, hR_66, gW_66, hW_66, gR_67, hR_67, gW_67, hW_67, gR_68, hR_68, gW_68, hW_68, gR_69, hR_69, gW_69, hW_69, gR_70, hR_70, gW_70, hW_70, gR_71, hR_71, gW_71, hW_71, gR_72, hR_72, gW_72, hW_72, gR_73, hR_73, gW_73, hW_73, gR_74, hR_74, gW_74, hW_74, gR_76, hR_76, gW_76, hW_76, gR_77, hR_77, gW_77, hW_77, gR_78, hR_78, gW_78, hW_78, gR_79, hR_79, gW_79, hW_79, gR_80, hR_80, gW_80, hW_80, gR_81, hR_81, gW_81, hW_81, gR_82, hR_82, gW_82, hW_82, gR_1000, hR_1000, gR_1001, hR_1001, gR_1002, hR_1002, gR_1003, hR_1003, gJ_39, gJ_40, gJ_41, gJ_42, gJ_43, gJ_44, gJ_75, gQ_32]
      exact f
    · rw [k1]; rfl
    · intro a h1
      rw [k2 a h1, ul_f h1]
    · intro b
      rw [k3 b]
      by_cases q : b = 60 * z + j + i
      · subst q
        rw [if_neg (show ¬ (60 * z + j + (i + 1) ≤ 60 * z + j + i ∧ 60 * z + j + i < 60 * z + j + n) by omega), if_pos (show 60 * z + j + i ≤ 60 * z + j + i ∧ 60 * z + j + i < 60 * z + j + n by omega), ul_s]
        rw [show 60 * z + j + i - (60 * z + j) = i by omega]
      · by_cases q2 : 60 * z + j + (i + 1) ≤ b ∧ b < 60 * z + j + n
        · rw [if_pos q2, if_pos (show 60 * z + j + i ≤ b ∧ b < 60 * z + j + n by omega), ul_k (by omega)]
        · rw [if_neg q2, if_neg (show ¬ (60 * z + j + i ≤ b ∧ b < 60 * z + j + n) by omega), ul_k (by omega)]
theorem iN_dec (i : Nat) : iN (i + 1) + -1 = iN i := by
  have : iN (i + 1) = iN i + 1 := (iN_add i 1).symm
  rw [this]; generalize iN i = x; grind
theorem mshift142 (d : Nat) {s p j n : Nat} (hs : s < 6) (hp : p + n ≤ 60) (hj : j + n ≤ 60) (ho : p < j) : ∀ (i : Nat) (h : zm_H), i ≤ n →
    ∃ K, fM_shift_c142 (d + 1) (iN s) (iN p) (iN s) (iN j) (iN n) (iN i - 1) h = some (some (.int (iN n)), K) ∧ K.1 = h.1 ∧ (∀ a, a ≠ 75 → K.2 a = h.2 a) ∧
      (∀ b, K.2 75 b = if 60 * s + j ≤ b ∧ b < 60 * s + j + i then h.2 75 (60 * s + p + (b - (60 * s + j))) else h.2 75 b) := by
  intro i
  induction i with
  | zero =>
    intro h hi
    refine ⟨h, ?_, rfl, fun _ _ => rfl, fun b => ?_⟩
    · rw [fM_shift_c142_eq, cT (by decide)]
    · rw [if_neg (by omega)]
  | succ i ih =>
    intro h hi
    obtain ⟨K, f, k1, k2, k3⟩ := ih (zm_ul h 75 (60 * s + j + i) (h.2 75 (60 * s + p + i))) (by omega)
    refine ⟨K, ?_, ?_, ?_, ?_⟩
    · have e1 : iN (i + 1) - 1 = iN i := by simp (disch := omega) only [iN_add, iN_addl, iN_addr, iN_mul, iN_mull, iN_mulr, iN_sub, iN_subl, iN_subr, iN_c, iN_lt, iN_ltl, iN_ltr, iN_le, iN_lel, iN_ler, iN_eq, iN_eql, iN_eqr, Nat.add_sub_cancel]
      rw [fM_shift_c142_eq, e1, cF (iN_lt0 (by omega))]
      simp (disch := omega) only [bI, bJ, bV, cN, zi_0, zi_z, Bool.cond_true, Bool.cond_false, decide_true, decide_false, decide_eq_true_eq, Bool.cond_decide, if_true, if_false, ofN12, Bool.not_not, zi_t, zi_f, iN_add, iN_addl, iN_addr, iN_mul, iN_mull, iN_mulr, iN_sub, iN_subl, iN_subr, iN_c, iN_lt, iN_ltl, iN_ltr, iN_le, iN_lel, iN_ler, iN_eq, iN_eql, iN_eqr, gR_2, hR_2, gW_2, hW_2, gR_4, hR_4, gW_4, hW_4, gR_5, hR_5, gW_5, hW_5, gR_6, hR_6, gW_6, hW_6, gR_7, hR_7, gW_7, hW_7, gR_9, hR_9, gW_9, hW_9, gR_10, hR_10, gW_10, hW_10, gR_12, hR_12, gW_12, hW_12, gR_13, hR_13, gW_13, hW_13, gR_16, hR_16, gW_16, hW_16, gR_17, hR_17, gW_17, hW_17, gR_18, hR_18, gW_18, hW_18, gR_19, hR_19, gW_19, hW_19, gR_20, hR_20, gW_20, hW_20, gR_21, hR_21, gW_21, hW_21, gR_22, hR_22, gW_22, hW_22, gR_24, hR_24, gW_24, hW_24, gR_25, hR_25, gW_25, hW_25, gR_27, hR_27, gW_27, hW_27, gR_28, hR_28, gW_28, hW_28, gR_30, hR_30, gW_30, hW_30, gR_31, hR_31, gW_31, hW_31, gR_46, hR_46, gW_46, hW_46, gR_47, hR_47, gW_47, hW_47, gR_48, hR_48, gW_48, hW_48, gR_49, hR_49, gW_49, hW_49, gR_50, hR_50, gW_50, hW_50, gR_51, hR_51, gW_51, hW_51, gR_52, hR_52, gW_52, hW_52, gR_53, hR_53, gW_53, hW_53, gR_54, hR_54, gW_54, hW_54, gR_55, hR_55, gW_55, hW_55, gR_56, hR_56, gW_56, hW_56, gR_57, hR_57, gW_57, hW_57, gR_58, hR_58, gW_58, hW_58, gR_59, hR_59, gW_59, hW_59, gR_60, hR_60, gW_60, hW_60, gR_61, hR_61, gW_61, hW_61, gR_62, hR_62, gW_62, hW_62, gR_63, hR_63, gW_63, hW_63, gR_64, hR_64, gW_64, hW_64, gR_65, hR_65, gW_65, hW_65, gR_66, hR_66, gW_66, hW_66, gR_67, hR_67, gW_67, hW_67, gR_68, hR_68, gW_68, hW_68, gR_69, hR_69, gW_69, hW_69, gR_70, hR_70, gW_70, hW_70, gR_71, hR_71, gW_71, hW_71, gR_72, hR_72, gW_72, hW_72, gR_73, hR_73, gW_73, hW_73, gR_74, hR_74, gW_74, hW_74, gR_76, hR_76, gW_76, hW_76, gR_77, hR_77, gW_77, hW_77, gR_78, hR_78, gW_78, hW_78, gR_79, hR_79, gW_79, hW_79, gR_80, hR_80, gW_80, hW_80, gR_81, hR_81, gW_81, hW_81, gR_82, hR_82, gW_82, hW_82, gR_1000, hR_1000, gR_1001, hR_1001, gR_1002, hR_1002, gR_1003, hR_1003, gJ_39, gJ_40, gJ_41, gJ_42, gJ_43, gJ_44, gJ_75, gQ_32]
      rw [show iN i + -1 = iN i - 1 by generalize iN i = x; grind]
      exact f
    · rw [k1]; rfl
    · intro a h1
      rw [k2 a h1, ul_f h1]
    · intro b
      rw [k3 b]
      by_cases q : b = 60 * s + j + i
      · subst q
        rw [if_neg (show ¬ (60 * s + j ≤ 60 * s + j + i ∧ 60 * s + j + i < 60 * s + j + i) by omega), if_pos (show 60 * s + j ≤ 60 * s + j + i ∧ 60 * s + j + i < 60 * s + j + (i + 1) by omega), ul_s]
        rw [show 60 * s + j + i - (60 * s + j) = i by omega]
      · by_cases q2 : 60 * s + j ≤ b ∧ b < 60 * s + j + i
        · rw [if_pos q2, if_pos (show 60 * s + j ≤ b ∧ b < 60 * s + j + (i + 1) by omega), ul_k (by omega)]
        · rw [if_neg q2, if_neg (show ¬ (60 * s + j ≤ b ∧ b < 60 * s + j + (i + 1)) by omega), ul_k (by omega)]
/-- what a shelf is -/
def shv (B : Nat) (h : zm_H) (s : Nat) (c : Nat) (k n : Nat) : Prop :=
  (c = 0 ∧ h.1 (33 + s) 1 = -1 ∧ h.1 (33 + s) 2 = -1 ∧ h.1 73 s = -1) ∨
  (c = 1 ∧ k < 50 ∧ h.1 (33 + s) 1 = iN k ∧ h.1 (33 + s) 2 = -1 ∧ h.1 73 s = iN (10 + k)) ∨
  (c = 2 ∧ k < 5 ∧ n ≤ 60 ∧ h.1 (33 + s) 1 = -1 ∧ h.1 (33 + s) 2 = iN k ∧ h.1 (33 + s) 3 = iN n ∧ h.1 73 s = iN k ∧ h.1 74 s = iN n)
theorem isE_c (d : Nat) {B : Nat} {h : zm_H} {s c k n : Nat} (hs : s < 6) (r : shv B h s c k n) : fSh_isEmpty (d + 1) (33 + s) h = some (some (.int (zi (decide (c = 0)))), h) := by
  rcases r with ⟨rfl, r1, r2, r3⟩ | ⟨rfl, r0, r1, r2, r3⟩ | ⟨rfl, r0, r1, r2, r3, r4, r5, r6⟩
  · rw [isEmpty_s _ hs, r1, r2]; rfl
  · rw [isEmpty_s _ hs, r1, r2, decide_eq_false (iN_ne1 (by omega))]; rfl
  · rw [isEmpty_s _ hs, r2, r3, decide_eq_false (iN_ne1 (show k < 2147483648 by omega))]; rfl
theorem isR_c (d : Nat) {B : Nat} {h : zm_H} {s c k n : Nat} (hs : s < 6) (r : shv B h s c k n) : fSh_isRow (d + 1) (33 + s) h = some (some (.int (zi (decide (c = 2)))), h) := by
  rcases r with ⟨rfl, r1, r2, r3⟩ | ⟨rfl, r0, r1, r2, r3⟩ | ⟨rfl, r0, r1, r2, r3, r4, r5, r6⟩
  · rw [isRow_s _ hs, r2]; rfl
  · rw [isRow_s _ hs, r2]; rfl
  · rw [isRow_s _ hs, r3, decide_eq_false (iN_ne1 (show k < 2147483648 by omega))]; rfl
theorem isE_M {B : Nat} {h : zm_H} {s c k n : Nat} (r : shv B h s c k n) : decide (h.1 73 s = -1) = decide (c = 0) := by
  rcases r with ⟨rfl, r1, r2, r3⟩ | ⟨rfl, r0, r1, r2, r3⟩ | ⟨rfl, r0, r1, r2, r3, r4, r5, r6⟩
  · rw [r3]; rfl
  · rw [r3, decide_eq_false (iN_ne1 (by omega))]; rfl
  · rw [r5, decide_eq_false (iN_ne1 (by omega))]; rfl
theorem isR_M (d : Nat) {B : Nat} {h : zm_H} {s c k n : Nat} (hs : s < 6) (r : shv B h s c k n) : fM_isRow (d + 2) (iN s) h = some (some (.int (zi (decide (c = 2)))), h) := by
  rcases r with ⟨rfl, r1, r2, r3⟩ | ⟨rfl, r0, r1, r2, r3⟩ | ⟨rfl, r0, r1, r2, r3, r4, r5, r6⟩
  · rw [isRowM_s _ hs r3]; rfl
  · rw [isRowM_s _ hs r3, inrow_t (by omega)]; rfl
  · rw [isRowM_s _ hs r5, inrow_r r0]; rfl
theorem shv_of {B : Nat} (hB : B ≤ 50) {h : zm_H} {s : Nat} (r : rSo B s h) : ∃ c k n, shv B h s c k n ∧ (c = 2 → ∀ i, i < n → h.2 75 (60 * s + i) = h.2 (39 + s) i ∧ (k ≤ 2 → (h.2 (39 + s) i).toInt32.toInt64 = h.2 (39 + s) i)) := by
  rcases r with ⟨s1, s2, s3, s4, s5⟩ | ⟨b, hb, s1, s2, s3, s4, s5⟩ | ⟨k, n, hk, hn, s1, s2, s3, s4, s5, s6⟩
  · exact ⟨0, 0, 0, .inl ⟨rfl, s1, s2, s4⟩, fun e => absurd e (by omega)⟩
  · exact ⟨1, b, 0, .inr (.inl ⟨rfl, by omega, s1, s2, s4⟩), fun e => absurd e (by omega)⟩
  · exact ⟨2, k, n, .inr (.inr ⟨rfl, hk, hn, s1, s2, s3, s4, s5⟩), fun _ => s6⟩
theorem span_n {n : Nat} (hn : n ≤ 60) (a m : Int32) : (decide (0 ≤ m) && decide (m ≤ iN n) && (decide (0 ≤ a) && decide (a ≤ iN n - m))) = decide (0 ≤ m ∧ 0 ≤ a ∧ m ≤ iN n ∧ a ≤ iN n - m) := by grind
