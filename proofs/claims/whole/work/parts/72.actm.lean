/-! act -/
def sb (K a k : Nat) : List (Nat × Nat) := match a, k with
  | 0, 0 => []
  | 0, 1 => [(0, 0)]
  | 0, 2 => [(0, 0)]
  | 0, 3 => [(0, 2)]
  | 0, 4 => [(0, 1)]
  | 0, 5 => [(0, 3)]
  | 0, 6 => [(0, 0)]
  | 0, 7 => [(0, 4)]
  | 1, 0 => [(0, K)]
  | 1, 1 => [(1, 0)]
  | 1, 2 => [(1, 0)]
  | 1, 3 => [(1, 2)]
  | 1, 4 => [(1, 1)]
  | 1, 5 => [(1, 3)]
  | 1, 6 => [(1, 0)]
  | 1, 7 => [(1, 4), (2, K)]
  | 2, 0 => []
  | 2, 1 => [(2, 0)]
  | 2, 2 => [(2, 0)]
  | 2, 3 => [(2, 2)]
  | 2, 4 => [(2, 1), (0, K)]
  | 2, 5 => [(2, 3)]
  | 2, 6 => [(2, 0)]
  | 2, 7 => [(2, 4)]
  | 3, 0 => [(1, K), (2, K)]
  | 3, 1 => [(3, 0)]
  | 3, 2 => [(3, 0)]
  | 3, 3 => [(3, 2)]
  | 3, 4 => [(3, 1)]
  | 3, 5 => [(3, 3)]
  | 3, 6 => [(3, 0)]
  | 3, 7 => [(3, 4)]
  | _, _ => []
def en (K : Nat) : Nat → Nat → Nat → Bool
  | 0, _, _ => false
  | f + 1, a, k => (sb K a k).all (fun p => en K f p.1 p.2)
def sp (b : Int32) (K : Nat) : Nat → Nat → Nat → Int32 → Int32 × List Int32
  | 0, _, _, _ => (0, [])
  | f + 1, a, k, x => match a, k with
    | 0, 0 => (x + b, [1])
    | 0, 1 => ((sp b K f 0 0 (x)).1 + 3, [20] ++ (sp b K f 0 0 (x)).2)
    | 0, 2 => sp b K f 0 0 x
    | 0, 3 => sp b K f 0 2 x
    | 0, 4 => sp b K f 0 1 x
    | 0, 5 => sp b K f 0 3 x
    | 0, 6 => ((sp b K f 0 0 (x)).1 * 2, [70] ++ (sp b K f 0 0 (x)).2)
    | 0, 7 => sp b K f 0 4 x
    | 1, 0 => ((sp b K f 0 K (x)).1 * 2, [10] ++ (sp b K f 0 K (x)).2)
    | 1, 1 => sp b K f 1 0 x
    | 1, 2 => (-(sp b K f 1 0 (x)).1, [30] ++ (sp b K f 1 0 (x)).2)
    | 1, 3 => ((sp b K f 1 2 (x + 1)).1, [41] ++ (sp b K f 1 2 (x + 1)).2)
    | 1, 4 => sp b K f 1 1 x
    | 1, 5 => sp b K f 1 3 x
    | 1, 6 => sp b K f 1 0 x
    | 1, 7 => ((sp b K f 1 4 (x)).1 + (sp b K f 2 K (2)).1, [80] ++ (sp b K f 1 4 (x)).2 ++ (sp b K f 2 K (2)).2)
    | 2, 0 => (x ^^^ b, [11])
    | 2, 1 => sp b K f 2 0 x
    | 2, 2 => sp b K f 2 0 x
    | 2, 3 => ((sp b K f 2 2 (x)).1 * 3, [40] ++ (sp b K f 2 2 (x)).2)
    | 2, 4 => ((sp b K f 2 1 (x)).1 - (sp b K f 0 K (2)).1, [50] ++ (sp b K f 2 1 (x)).2 ++ (sp b K f 0 K (2)).2)
    | 2, 5 => sp b K f 2 3 x
    | 2, 6 => sp b K f 2 0 x
    | 2, 7 => sp b K f 2 4 x
    | 3, 0 => ((sp b K f 1 K (x)).1 - (sp b K f 2 K (1)).1, [2] ++ (sp b K f 1 K (x)).2 ++ (sp b K f 2 K (1)).2)
    | 3, 1 => sp b K f 3 0 x
    | 3, 2 => sp b K f 3 0 x
    | 3, 3 => sp b K f 3 2 x
    | 3, 4 => sp b K f 3 1 x
    | 3, 5 => ((sp b K f 3 3 (x)).1 ^^^ 5, [60] ++ (sp b K f 3 3 (x)).2)
    | 3, 6 => sp b K f 3 0 x
    | 3, 7 => ((sp b K f 3 4 (x)).1 - 1, [81] ++ (sp b K f 3 4 (x)).2)
    | _, _ => (0, [])
def tC (Q : Nat) (o : Int32) (h : zm_H) : zm_H := if Q < 24 then zm_ui (zm_ui h 31 Q o) 29 3 (iN (Q + 1)) else zm_ui h 29 3 (iN (Q + 1))
def tM (Q : Nat) (o : Int32) (h : zm_H) : zm_H := if Q < 24 then zm_ui (zm_ui h 72 Q o) 45 43 (iN (Q + 1)) else zm_ui h 45 43 (iN (Q + 1))
def rtC : Nat → List Int32 → zm_H → zm_H
  | _, [], h => h
  | Q, o :: l, h => rtC (Q + 1) l (tC Q o h)
def rtM : Nat → List Int32 → zm_H → zm_H
  | _, [], h => h
  | Q, o :: l, h => rtM (Q + 1) l (tM Q o h)
theorem rtC_app (l l' : List Int32) : ∀ (Q : Nat) (h : zm_H), rtC Q (l ++ l') h = rtC (Q + l.length) l' (rtC Q l h) := by
  induction l with
  | nil => intro Q h; rfl
  | cons o l ih => intro Q h; rw [List.cons_append, rtC, rtC, ih, List.length_cons, show Q + 1 + l.length = Q + (l.length + 1) by omega]
theorem rtM_app (l l' : List Int32) : ∀ (Q : Nat) (h : zm_H), rtM Q (l ++ l') h = rtM (Q + l.length) l' (rtM Q l h) := by
  induction l with
  | nil => intro Q h; rfl
  | cons o l ih => intro Q h; rw [List.cons_append, rtM, rtM, ih, List.length_cons, show Q + 1 + l.length = Q + (l.length + 1) by omega]
theorem tC_3 (Q : Nat) (o : Int32) (h : zm_H) : (tC Q o h).1 29 3 = iN (Q + 1) := by unfold tC; split <;> exact ui_s _ _ _ _
theorem tM_3 (Q : Nat) (o : Int32) (h : zm_H) : (tM Q o h).1 45 43 = iN (Q + 1) := by unfold tM; split <;> exact ui_s _ _ _ _
theorem rtC_3 (l : List Int32) : ∀ (Q : Nat) (h : zm_H), h.1 29 3 = iN Q → (rtC Q l h).1 29 3 = iN (Q + l.length) := by
  induction l with
  | nil => intro Q h e; exact e
  | cons o l ih => intro Q h e; rw [rtC, ih _ _ (tC_3 _ _ _), List.length_cons, show Q + 1 + l.length = Q + (l.length + 1) by omega]
theorem rtM_3 (l : List Int32) : ∀ (Q : Nat) (h : zm_H), h.1 45 43 = iN Q → (rtM Q l h).1 45 43 = iN (Q + l.length) := by
  induction l with
  | nil => intro Q h e; exact e
  | cons o l ih => intro Q h e; rw [rtM, ih _ _ (tM_3 _ _ _), List.length_cons, show Q + 1 + l.length = Q + (l.length + 1) by omega]
theorem tC_f (Q : Nat) (o : Int32) (h : zm_H) : (∀ a, a ≠ 29 → a ≠ 31 → (tC Q o h).1 a = h.1 a) ∧ (∀ b, b ≠ 3 → (tC Q o h).1 29 b = h.1 29 b) ∧ (tC Q o h).2 = h.2 := by
  unfold tC; split
  · refine ⟨fun a h1 h2 => ?_, fun b h1 => ?_, rfl⟩ <;> simp (disch := omega) only [ui_f, ui_k, ui_c]
  · refine ⟨fun a h1 h2 => ?_, fun b h1 => ?_, rfl⟩ <;> simp (disch := omega) only [ui_f, ui_k, ui_c]
theorem tM_f (Q : Nat) (o : Int32) (h : zm_H) : (∀ a, a ≠ 45 → a ≠ 72 → (tM Q o h).1 a = h.1 a) ∧ (∀ b, b ≠ 43 → (tM Q o h).1 45 b = h.1 45 b) ∧ (tM Q o h).2 = h.2 := by
  unfold tM; split
  · refine ⟨fun a h1 h2 => ?_, fun b h1 => ?_, rfl⟩ <;> simp (disch := omega) only [ui_f, ui_k, ui_c]
  · refine ⟨fun a h1 h2 => ?_, fun b h1 => ?_, rfl⟩ <;> simp (disch := omega) only [ui_f, ui_k, ui_c]
theorem rtC_f (l : List Int32) : ∀ (Q : Nat) (h : zm_H), (∀ a, a ≠ 29 → a ≠ 31 → (rtC Q l h).1 a = h.1 a) ∧ (∀ b, b ≠ 3 → (rtC Q l h).1 29 b = h.1 29 b) ∧ (rtC Q l h).2 = h.2 := by
  induction l with
  | nil => intro Q h; exact ⟨fun _ _ _ => rfl, fun _ _ => rfl, rfl⟩
  | cons o l ih =>
    intro Q h
    obtain ⟨i1, i2, i3⟩ := ih (Q + 1) (tC Q o h)
    obtain ⟨j1, j2, j3⟩ := tC_f Q o h
    exact ⟨fun a h1 h2 => (i1 a h1 h2).trans (j1 a h1 h2), fun b h1 => (i2 b h1).trans (j2 b h1), i3.trans j3⟩
theorem rtM_f (l : List Int32) : ∀ (Q : Nat) (h : zm_H), (∀ a, a ≠ 45 → a ≠ 72 → (rtM Q l h).1 a = h.1 a) ∧ (∀ b, b ≠ 43 → (rtM Q l h).1 45 b = h.1 45 b) ∧ (rtM Q l h).2 = h.2 := by
  induction l with
  | nil => intro Q h; exact ⟨fun _ _ _ => rfl, fun _ _ => rfl, rfl⟩
  | cons o l ih =>
    intro Q h
    obtain ⟨i1, i2, i3⟩ := ih (Q + 1) (tM Q o h)
    obtain ⟨j1, j2, j3⟩ := tM_f Q o h
    exact ⟨fun a h1 h2 => (i1 a h1 h2).trans (j1 a h1 h2), fun b h1 => (i2 b h1).trans (j2 b h1), i3.trans j3⟩
theorem ran_s (d : Nat) {Q : Nat} (hQ : Q < 2000) (o : Int32) {h : zm_H} (e : h.1 45 43 = iN Q) : fM_ran (d + 1) o h = some (none, tM Q o h) := by
  rw [fM_ran_eq, e]; unfold tM
  by_cases q : Q < 24
  · simp (disch := omega) only [bI, bJ, bV, cN, zi_0, zi_z, Bool.cond_true, Bool.cond_false, decide_true, decide_false, decide_eq_true_eq, Bool.cond_decide, if_true, if_false, ofN12, Bool.not_not, zi_t, zi_f, iN_add, iN_addl, iN_addr, iN_mul, iN_mull, iN_mulr, iN_sub, iN_subl, iN_subr, iN_c, iN_lt, iN_ltl, iN_ltr, iN_le, iN_lel, iN_ler, iN_eq, iN_eql, iN_eqr, gR_2, hR_2, gW_2, hW_2, gR_4, hR_4, gW_4, hW_4, gR_5, hR_5, gW_5, hW_5, gR_6, hR_6, gW_6, hW_6, gR_7, hR_7, gW_7, hW_7, gR_9, hR_9, gW_9, hW_9, gR_10, hR_10, gW_10, hW_10, gR_12, hR_12, gW_12, hW_12, gR_13, hR_13, gW_13, hW_13, gR_16, hR_16, gW_16, hW_16, gR_17, hR_17, gW_17, hW_17, gR_18, hR_18, gW_18, hW_18, gR_19, hR_19, gW_19, hW_19, gR_20, hR_20, gW_20, hW_20, gR_21, hR_21, gW_21, hW_21, gR_22, hR_22, gW_22, hW_22, gR_24, hR_24, gW_24, hW_24, gR_25, hR_25, gW_25, hW_25, gR_27, hR_27, gW_27, hW_27, gR_28, hR_28, gW_28, hW_28, gR_30, hR_30, gW_30, hW_30, gR_31, hR_31, gW_31, hW_31, gR_46, hR_46, gW_46, hW_46, gR_47, hR_47, gW_47, hW_47, gR_48, hR_48, gW_48, hW_48, gR_49, hR_49, gW_49, hW_49, gR_50, hR_50, gW_50, hW_50, gR_51, hR_51, gW_51, hW_51, gR_52, hR_52, gW_52, hW_52, gR_53, hR_53, gW_53, hW_53, gR_54, hR_54, gW_54, hW_54, gR_55, hR_55, gW_55, hW_55, gR_56, hR_56, gW_56, hW_56, gR_57, hR_57, gW_57, hW_57, gR_58, hR_58, gW_58, hW_58, gR_59, hR_59, gW_59, hW_59, gR_60, hR_60, gW_60, hW_60, gR_61, hR_61, gW_61, hW_61, gR_62, hR_62, gW_62, hW_62, gR_63, hR_63, gW_63, hW_63, gR_64, hR_64, gW_64, hW_64, gR_65, hR_65, gW_65, hW_65, gR_66, hR_66, gW_66, hW_66, gR_67, hR_67, gW_67, hW_67, gR_68, hR_68, gW_68, hW_68, gR_69, hR_69, gW_69, hW_69, gR_70, hR_70, gW_70, hW_70, gR_71, hR_71, gW_71, hW_71, gR_72, hR_72, gW_72, hW_72, gR_73, hR_73, gW_73, hW_73, gR_74, hR_74, gW_74, hW_74, gR_76, hR_76, gW_76, hW_76, gR_77, hR_77, gW_77, hW_77, gR_78, hR_78, gW_78, hW_78, gR_79, hR_79, gW_79, hW_79, gR_80, hR_80, gW_80, hW_80, gR_81, hR_81, gW_81, hW_81, gR_82, hR_82, gW_82, hW_82, gR_1000, hR_1000, gR_1001, hR_1001, gR_1002, hR_1002, gR_1003, hR_1003, gJ_39, gJ_40, gJ_41, gJ_42, gJ_43, gJ_44, gJ_75, gQ_32, ui_s, ui_k, ui_c, e]
    rw [if_neg (by omega), if_pos q]
  · rw [cT (by simp (disch := omega) only [iN_add, iN_addl, iN_addr, iN_mul, iN_mull, iN_mulr, iN_sub, iN_subl, iN_subr, iN_c, iN_lt, iN_ltl, iN_ltr, iN_le, iN_lel, iN_ler, iN_eq, iN_eql, iN_eqr]; omega), if_neg q, iN_addr]
theorem begin_s (d : Nat) {Q : Nat} (hQ : Q < 2000) (o : Int32) {h : zm_H} (e : h.1 29 3 = iN Q) : fTu_begin (d + 1) o h = some (none, tC Q o h) := by
  rw [fTu_begin_eq, e, cF (iN_lt0 (by omega))]; unfold tC
  by_cases q : Q < 24
  · simp (disch := omega) only [bI, bJ, bV, cN, zi_0, zi_z, Bool.cond_true, Bool.cond_false, decide_true, decide_false, decide_eq_true_eq, Bool.cond_decide, if_true, if_false, ofN12, Bool.not_not, zi_t, zi_f, iN_add, iN_addl, iN_addr, iN_mul, iN_mull, iN_mulr, iN_sub, iN_subl, iN_subr, iN_c, iN_lt, iN_ltl, iN_ltr, iN_le, iN_lel, iN_ler, iN_eq, iN_eql, iN_eqr, gR_2, hR_2, gW_2, hW_2, gR_4, hR_4, gW_4, hW_4, gR_5, hR_5, gW_5, hW_5, gR_6, hR_6, gW_6, hW_6, gR_7, hR_7, gW_7, hW_7, gR_9, hR_9, gW_9, hW_9, gR_10, hR_10, gW_10, hW_10, gR_12, hR_12, gW_12, hW_12, gR_13, hR_13, gW_13, hW_13, gR_16, hR_16, gW_16, hW_16, gR_17, hR_17, gW_17, hW_17, gR_18, hR_18, gW_18, hW_18, gR_19, hR_19, gW_19, hW_19, gR_20, hR_20, gW_20, hW_20, gR_21, hR_21, gW_21, hW_21, gR_22, hR_22, gW_22, hW_22, gR_24, hR_24, gW_24, hW_24, gR_25, hR_25, gW_25, hW_25, gR_27, hR_27, gW_27, hW_27, gR_28, hR_28, gW_28, hW_28, gR_30, hR_30, gW_30, hW_30, gR_31, hR_31, gW_31, hW_31, gR_46, hR_46, gW_46, hW_46, gR_47, hR_47, gW_47, hW_47, gR_48, hR_48, gW_48, hW_48, gR_49, hR_49, gW_49, hW_49, gR_50, hR_50, gW_50, hW_50, gR_51, hR_51, gW_51, hW_51, gR_52, hR_52, gW_52, hW_52, gR_53, hR_53, gW_53, hW_53, gR_54, hR_54, gW_54, hW_54, gR_55, hR_55, gW_55, hW_55, gR_56, hR_56, gW_56, hW_56, gR_57, hR_57, gW_57, hW_57, gR_58, hR_58, gW_58, hW_58, gR_59, hR_59, gW_59, hW_59, gR_60, hR_60, gW_60, hW_60, gR_61, hR_61, gW_61, hW_61, gR_62, hR_62, gW_62, hW_62, gR_63, hR_63, gW_63, hW_63, gR_64, hR_64, gW_64, hW_64, gR_65, hR_65, gW_65, hW_65, gR_66, hR_66, gW_66, hW_66, gR_67, hR_67, gW_67, hW_67, gR_68, hR_68, gW_68, hW_68, gR_69, hR_69, gW_69, hW_69, gR_70, hR_70, gW_70, hW_70, gR_71, hR_71, gW_71, hW_71, gR_72, hR_72, gW_72, hW_72, gR_73, hR_73, gW_73, hW_73, gR_74, hR_74, gW_74, hW_74, gR_76, hR_76, gW_76, hW_76, gR_77, hR_77, gW_77, hW_77, gR_78, hR_78, gW_78, hW_78, gR_79, hR_79, gW_79, hW_79, gR_80, hR_80, gW_80, hW_80, gR_81, hR_81, gW_81, hW_81, gR_82, hR_82, gW_82, hW_82, gR_1000, hR_1000, gR_1001, hR_1001, gR_1002, hR_1002, gR_1003, hR_1003, gJ_39, gJ_40, gJ_41, gJ_42, gJ_43, gJ_44, gJ_75, gQ_32, ui_s, ui_k, ui_c, e]
    rw [if_neg (by omega), if_pos q]
  · rw [cT (by simp (disch := omega) only [iN_add, iN_addl, iN_addr, iN_mul, iN_mull, iN_mulr, iN_sub, iN_subl, iN_subr, iN_c, iN_lt, iN_ltl, iN_ltr, iN_le, iN_lel, iN_ler, iN_eq, iN_eql, iN_eqr]; omega), if_neg q, iN_addr]
noncomputable def mcall (D a : Nat) (b k x : Int32) (h : zm_H) : zm_R := match a with
  | 0 => fM_lies D b k x h
  | 1 => fM_tookBy D b k x h
  | 2 => fM_slipped D b k x h
  | _ => fM_tells D b k x h
theorem cases4 {a : Nat} (h : a < 4) : a = 0 ∨ a = 1 ∨ a = 2 ∨ a = 3 := by omega
theorem mI {r r' : zm_R} (e : r = r') (k : Int32 → zm_H → zm_R) : zb_I r k = zb_I r' k := by rw [e]
theorem actM {b K : Nat} (hb : b < 50) (hK : K < 8) : ∀ (f a k : Nat), a < 4 → k < 8 → en K f a k = true → ∀ (D : Nat) (x : Int32) (h : zm_H) (Q : Nat), f + 2 ≤ D → h.1 45 43 = iN Q → h.1 71 b = iN K → Q + (sp (iN b) K f a k x).2.length ≤ 1000 →
    mcall D a (iN b) (iN k) x h = some (some (.int (sp (iN b) K f a k x).1), rtM Q (sp (iN b) K f a k x).2 h) := by
  intro f
  induction f with
  | zero => intro a k _ _ e; exact absurd e (by simp [en])
  | succ f ih =>
    intro a k ha hk hen D x h Q hD e eK hQ
    obtain ⟨D, rfl⟩ : ∃ D', D = D' + 1 := ⟨D - 1, by omega⟩
    rcases cases4 ha with rfl | rfl | rfl | rfl <;> rcases cases8 hk with rfl | rfl | rfl | rfl | rfl | rfl | rfl | rfl
    · -- 0 0 own 1
      obtain ⟨D, rfl⟩ : ∃ D', D = D' + 1 := ⟨D - 1, by omega⟩
      show fM_lies (D + 1 + 1) (iN b) (iN 0) x h = _
      rw [fM_lies_eq, cT (by decide), ran_s D (by omega) _ e, bV]; rfl
    · -- 0 1 own 20
      have hq : Q + (1 + (sp (iN b) K f 0 0 (x)).2.length) ≤ 1000 := by
        have := hQ
        rw [show (sp (iN b) K (f + 1) 0 1 x).2 = [20] ++ (sp (iN b) K f 0 0 (x)).2 from rfl] at this
        simp only [List.length_append, List.length_cons, List.length_nil] at this
        omega
      have f1 := tM_f Q 20 h
      have g := ih 0 0 (by decide) (by decide) (by simpa [en, sb] using hen) D (x) (tM Q 20 h) (Q + 1) (by omega) (tM_3 _ _ _) ((congrFun (f1.1 71 (by omega) (by omega)) b).trans eK) (by omega)
      obtain ⟨D, rfl⟩ : ∃ D', D = D' + 1 := ⟨D - 1, by omega⟩
      show fM_lies (D + 1 + 1) (iN b) (iN 1) x h = _
      rw [fM_lies_eq, cF (by decide), cT (by decide), ran_s D (by omega) _ e, bV]
      refine (mI g _).trans ?_
      simp only [bI]
      rfl
    · -- 0 2
      have g := ih 0 0 ha (by decide) (by simpa [en, sb] using hen) D x h Q (by omega) e eK hQ
      obtain ⟨D, rfl⟩ : ∃ D', D = D' + 1 := ⟨D - 1, by omega⟩
      show fM_lies (D + 1 + 1) (iN b) (iN 2) x h = _
      rw [fM_lies_eq, cF (by decide), cF (by decide), cF (by decide), aboveM_s D (by decide) h, bI, show upk 2 = 0 from rfl]
      exact (mI g _).trans rfl
    · -- 0 3
      have g := ih 0 2 ha (by decide) (by simpa [en, sb] using hen) D x h Q (by omega) e eK hQ
      obtain ⟨D, rfl⟩ : ∃ D', D = D' + 1 := ⟨D - 1, by omega⟩
      show fM_lies (D + 1 + 1) (iN b) (iN 3) x h = _
      rw [fM_lies_eq, cF (by decide), cF (by decide), cF (by decide), aboveM_s D (by decide) h, bI, show upk 3 = 2 from rfl]
      exact (mI g _).trans rfl
    · -- 0 4
      have g := ih 0 1 ha (by decide) (by simpa [en, sb] using hen) D x h Q (by omega) e eK hQ
      obtain ⟨D, rfl⟩ : ∃ D', D = D' + 1 := ⟨D - 1, by omega⟩
      show fM_lies (D + 1 + 1) (iN b) (iN 4) x h = _
      rw [fM_lies_eq, cF (by decide), cF (by decide), cF (by decide), aboveM_s D (by decide) h, bI, show upk 4 = 1 from rfl]
      exact (mI g _).trans rfl
    · -- 0 5
      have g := ih 0 3 ha (by decide) (by simpa [en, sb] using hen) D x h Q (by omega) e eK hQ
      obtain ⟨D, rfl⟩ : ∃ D', D = D' + 1 := ⟨D - 1, by omega⟩
      show fM_lies (D + 1 + 1) (iN b) (iN 5) x h = _
      rw [fM_lies_eq, cF (by decide), cF (by decide), cF (by decide), aboveM_s D (by decide) h, bI, show upk 5 = 3 from rfl]
      exact (mI g _).trans rfl
    · -- 0 6 own 70
      have hq : Q + (1 + (sp (iN b) K f 0 0 (x)).2.length) ≤ 1000 := by
        have := hQ
        rw [show (sp (iN b) K (f + 1) 0 6 x).2 = [70] ++ (sp (iN b) K f 0 0 (x)).2 from rfl] at this
        simp only [List.length_append, List.length_cons, List.length_nil] at this
        omega
      have f1 := tM_f Q 70 h
      have g := ih 0 0 (by decide) (by decide) (by simpa [en, sb] using hen) D (x) (tM Q 70 h) (Q + 1) (by omega) (tM_3 _ _ _) ((congrFun (f1.1 71 (by omega) (by omega)) b).trans eK) (by omega)
      obtain ⟨D, rfl⟩ : ∃ D', D = D' + 1 := ⟨D - 1, by omega⟩
      show fM_lies (D + 1 + 1) (iN b) (iN 6) x h = _
      rw [fM_lies_eq, cF (by decide), cF (by decide), cT (by decide), ran_s D (by omega) _ e, bV]
      refine (mI g _).trans ?_
      simp only [bI]
      rfl
    · -- 0 7
      have g := ih 0 4 ha (by decide) (by simpa [en, sb] using hen) D x h Q (by omega) e eK hQ
      obtain ⟨D, rfl⟩ : ∃ D', D = D' + 1 := ⟨D - 1, by omega⟩
      show fM_lies (D + 1 + 1) (iN b) (iN 7) x h = _
      rw [fM_lies_eq, cF (by decide), cF (by decide), cF (by decide), aboveM_s D (by decide) h, bI, show upk 7 = 4 from rfl]
      exact (mI g _).trans rfl
    · -- 1 0 own 10
      have hq : Q + (1 + (sp (iN b) K f 0 K (x)).2.length) ≤ 1000 := by
        have := hQ
        rw [show (sp (iN b) K (f + 1) 1 0 x).2 = [10] ++ (sp (iN b) K f 0 K (x)).2 from rfl] at this
        simp only [List.length_append, List.length_cons, List.length_nil] at this
        omega
      have f1 := tM_f Q 10 h
      have g := ih 0 K (by decide) hK (by simpa [en, sb] using hen) D (x) (tM Q 10 h) (Q + 1) (by omega) (tM_3 _ _ _) ((congrFun (f1.1 71 (by omega) (by omega)) b).trans eK) (by omega)
      obtain ⟨D, rfl⟩ : ∃ D', D = D' + 1 := ⟨D - 1, by omega⟩
      show fM_tookBy (D + 1 + 1) (iN b) (iN 0) x h = _
      rw [fM_tookBy_eq, cT (by decide), ran_s D (by omega) _ e, bV]
      rw [gR_71 (by omega), iN_c (by omega), f1.1 71 (by omega) (by omega), eK]
      simp only [Bool.cond_true]
      refine (mI g _).trans ?_
      simp only [bI]
      rfl
    · -- 1 1
      have g := ih 1 0 ha (by decide) (by simpa [en, sb] using hen) D x h Q (by omega) e eK hQ
      obtain ⟨D, rfl⟩ : ∃ D', D = D' + 1 := ⟨D - 1, by omega⟩
      show fM_tookBy (D + 1 + 1) (iN b) (iN 1) x h = _
      rw [fM_tookBy_eq, cF (by decide), cT (by decide), aboveM_s D (by decide) h, bI, show upk 1 = 0 from rfl]
      exact (mI g _).trans rfl
    · -- 1 2 own 30
      have hq : Q + (1 + (sp (iN b) K f 1 0 (x)).2.length) ≤ 1000 := by
        have := hQ
        rw [show (sp (iN b) K (f + 1) 1 2 x).2 = [30] ++ (sp (iN b) K f 1 0 (x)).2 from rfl] at this
        simp only [List.length_append, List.length_cons, List.length_nil] at this
        omega
      have f1 := tM_f Q 30 h
      have g := ih 1 0 (by decide) (by decide) (by simpa [en, sb] using hen) D (x) (tM Q 30 h) (Q + 1) (by omega) (tM_3 _ _ _) ((congrFun (f1.1 71 (by omega) (by omega)) b).trans eK) (by omega)
      obtain ⟨D, rfl⟩ : ∃ D', D = D' + 1 := ⟨D - 1, by omega⟩
      show fM_tookBy (D + 1 + 1) (iN b) (iN 2) x h = _
      rw [fM_tookBy_eq, cF (by decide), cF (by decide), cT (by decide), ran_s D (by omega) _ e, bV]
      refine (mI g _).trans ?_
      simp only [bI]
      rfl
    · -- 1 3 own 41
      have hq : Q + (1 + (sp (iN b) K f 1 2 (x + 1)).2.length) ≤ 1000 := by
        have := hQ
        rw [show (sp (iN b) K (f + 1) 1 3 x).2 = [41] ++ (sp (iN b) K f 1 2 (x + 1)).2 from rfl] at this
        simp only [List.length_append, List.length_cons, List.length_nil] at this
        omega
      have f1 := tM_f Q 41 h
      have g := ih 1 2 (by decide) (by decide) (by simpa [en, sb] using hen) D (x + 1) (tM Q 41 h) (Q + 1) (by omega) (tM_3 _ _ _) ((congrFun (f1.1 71 (by omega) (by omega)) b).trans eK) (by omega)
      obtain ⟨D, rfl⟩ : ∃ D', D = D' + 1 := ⟨D - 1, by omega⟩
      show fM_tookBy (D + 1 + 1) (iN b) (iN 3) x h = _
      rw [fM_tookBy_eq, cF (by decide), cF (by decide), cF (by decide), cT (by decide), ran_s D (by omega) _ e, bV]
      refine (mI g _).trans ?_
      simp only [bI]
      rfl
    · -- 1 4
      have g := ih 1 1 ha (by decide) (by simpa [en, sb] using hen) D x h Q (by omega) e eK hQ
      obtain ⟨D, rfl⟩ : ∃ D', D = D' + 1 := ⟨D - 1, by omega⟩
      show fM_tookBy (D + 1 + 1) (iN b) (iN 4) x h = _
      rw [fM_tookBy_eq, cF (by decide), cF (by decide), cF (by decide), cF (by decide), cT (by decide), aboveM_s D (by decide) h, bI, show upk 4 = 1 from rfl]
      exact (mI g _).trans rfl
    · -- 1 5
      have g := ih 1 3 ha (by decide) (by simpa [en, sb] using hen) D x h Q (by omega) e eK hQ
      obtain ⟨D, rfl⟩ : ∃ D', D = D' + 1 := ⟨D - 1, by omega⟩
      show fM_tookBy (D + 1 + 1) (iN b) (iN 5) x h = _
      rw [fM_tookBy_eq, cF (by decide), cF (by decide), cF (by decide), cF (by decide), cF (by decide), cT (by decide), aboveM_s D (by decide) h, bI, show upk 5 = 3 from rfl]
      exact (mI g _).trans rfl
    · -- 1 6
      have g := ih 1 0 ha (by decide) (by simpa [en, sb] using hen) D x h Q (by omega) e eK hQ
      obtain ⟨D, rfl⟩ : ∃ D', D = D' + 1 := ⟨D - 1, by omega⟩
      show fM_tookBy (D + 1 + 1) (iN b) (iN 6) x h = _
      rw [fM_tookBy_eq, cF (by decide), cF (by decide), cF (by decide), cF (by decide), cF (by decide), cF (by decide), cT (by decide), aboveM_s D (by decide) h, bI, show upk 6 = 0 from rfl]
      exact (mI g _).trans rfl
    · -- 1 7 own 80
      have hq : Q + (1 + (sp (iN b) K f 1 4 (x)).2.length + (sp (iN b) K f 2 K (2)).2.length) ≤ 1000 := by
        have := hQ
        rw [show (sp (iN b) K (f + 1) 1 7 x).2 = [80] ++ (sp (iN b) K f 1 4 (x)).2 ++ (sp (iN b) K f 2 K (2)).2 from rfl] at this
        simp only [List.length_append, List.length_cons, List.length_nil] at this
        omega
      have f1 := tM_f Q 80 h
      have g := ih 1 4 (by decide) (by decide) (by have := hen; simp [en, sb] at this; exact this.1) D (x) (tM Q 80 h) (Q + 1) (by omega) (tM_3 _ _ _) ((congrFun (f1.1 71 (by omega) (by omega)) b).trans eK) (by omega)
      have f2 := rtM_f (sp (iN b) K f 1 4 (x)).2 (Q + 1) (tM Q 80 h)
      have e2 : (rtM (Q + 1) (sp (iN b) K f 1 4 (x)).2 (tM Q 80 h)).1 71 b = iN K := (congrFun (f2.1 71 (by omega) (by omega)) b).trans ((congrFun (f1.1 71 (by omega) (by omega)) b).trans eK)
      have g2 := ih 2 K (by decide) hK (by have := hen; simp [en, sb] at this; exact this.2) D (2) (rtM (Q + 1) (sp (iN b) K f 1 4 (x)).2 (tM Q 80 h)) (Q + 1 + (sp (iN b) K f 1 4 (x)).2.length) (by omega) (rtM_3 _ _ _ (tM_3 _ _ _)) e2 (by omega)
      obtain ⟨D, rfl⟩ : ∃ D', D = D' + 1 := ⟨D - 1, by omega⟩
      show fM_tookBy (D + 1 + 1) (iN b) (iN 7) x h = _
      rw [fM_tookBy_eq, cF (by decide), cF (by decide), cF (by decide), cF (by decide), cF (by decide), cF (by decide), cF (by decide), cT (by decide), ran_s D (by omega) _ e, bV]
      refine (mI g _).trans ?_
      simp only [bI]
      simp (disch := omega) only [gR_71, iN_c, e2, Bool.cond_true]
      refine (mI g2 _).trans ?_
      simp only [bI]
      rw [show (sp (iN b) K (f + 1) 1 7 x).2 = [80] ++ (sp (iN b) K f 1 4 (x)).2 ++ (sp (iN b) K f 2 K (2)).2 from rfl, rtM_app]
      rw [show Q + ([(80 : Int32)] ++ (sp (iN b) K f 1 4 (x)).2).length = Q + 1 + (sp (iN b) K f 1 4 (x)).2.length by simp only [List.length_append, List.length_cons, List.length_nil]; omega]
      rfl
    · -- 2 0 own 11
      obtain ⟨D, rfl⟩ : ∃ D', D = D' + 1 := ⟨D - 1, by omega⟩
      show fM_slipped (D + 1 + 1) (iN b) (iN 0) x h = _
      rw [fM_slipped_eq, cT (by decide), ran_s D (by omega) _ e, bV]; rfl
    · -- 2 1
      have g := ih 2 0 ha (by decide) (by simpa [en, sb] using hen) D x h Q (by omega) e eK hQ
      obtain ⟨D, rfl⟩ : ∃ D', D = D' + 1 := ⟨D - 1, by omega⟩
      show fM_slipped (D + 1 + 1) (iN b) (iN 1) x h = _
      rw [fM_slipped_eq, cF (by decide), cT (by decide), aboveM_s D (by decide) h, bI, show upk 1 = 0 from rfl]
      exact (mI g _).trans rfl
    · -- 2 2
      have g := ih 2 0 ha (by decide) (by simpa [en, sb] using hen) D x h Q (by omega) e eK hQ
      obtain ⟨D, rfl⟩ : ∃ D', D = D' + 1 := ⟨D - 1, by omega⟩
      show fM_slipped (D + 1 + 1) (iN b) (iN 2) x h = _
      rw [fM_slipped_eq, cF (by decide), cF (by decide), cT (by decide), aboveM_s D (by decide) h, bI, show upk 2 = 0 from rfl]
      exact (mI g _).trans rfl
    · -- 2 3 own 40
      have hq : Q + (1 + (sp (iN b) K f 2 2 (x)).2.length) ≤ 1000 := by
        have := hQ
        rw [show (sp (iN b) K (f + 1) 2 3 x).2 = [40] ++ (sp (iN b) K f 2 2 (x)).2 from rfl] at this
        simp only [List.length_append, List.length_cons, List.length_nil] at this
        omega
      have f1 := tM_f Q 40 h
      have g := ih 2 2 (by decide) (by decide) (by simpa [en, sb] using hen) D (x) (tM Q 40 h) (Q + 1) (by omega) (tM_3 _ _ _) ((congrFun (f1.1 71 (by omega) (by omega)) b).trans eK) (by omega)
      obtain ⟨D, rfl⟩ : ∃ D', D = D' + 1 := ⟨D - 1, by omega⟩
      show fM_slipped (D + 1 + 1) (iN b) (iN 3) x h = _
      rw [fM_slipped_eq, cF (by decide), cF (by decide), cF (by decide), cT (by decide), ran_s D (by omega) _ e, bV]
      refine (mI g _).trans ?_
      simp only [bI]
      rfl
    · -- 2 4 own 50
      have hq : Q + (1 + (sp (iN b) K f 2 1 (x)).2.length + (sp (iN b) K f 0 K (2)).2.length) ≤ 1000 := by
        have := hQ
        rw [show (sp (iN b) K (f + 1) 2 4 x).2 = [50] ++ (sp (iN b) K f 2 1 (x)).2 ++ (sp (iN b) K f 0 K (2)).2 from rfl] at this
        simp only [List.length_append, List.length_cons, List.length_nil] at this
        omega
      have f1 := tM_f Q 50 h
      have g := ih 2 1 (by decide) (by decide) (by have := hen; simp [en, sb] at this; exact this.1) D (x) (tM Q 50 h) (Q + 1) (by omega) (tM_3 _ _ _) ((congrFun (f1.1 71 (by omega) (by omega)) b).trans eK) (by omega)
      have f2 := rtM_f (sp (iN b) K f 2 1 (x)).2 (Q + 1) (tM Q 50 h)
      have e2 : (rtM (Q + 1) (sp (iN b) K f 2 1 (x)).2 (tM Q 50 h)).1 71 b = iN K := (congrFun (f2.1 71 (by omega) (by omega)) b).trans ((congrFun (f1.1 71 (by omega) (by omega)) b).trans eK)
      have g2 := ih 0 K (by decide) hK (by have := hen; simp [en, sb] at this; exact this.2) D (2) (rtM (Q + 1) (sp (iN b) K f 2 1 (x)).2 (tM Q 50 h)) (Q + 1 + (sp (iN b) K f 2 1 (x)).2.length) (by omega) (rtM_3 _ _ _ (tM_3 _ _ _)) e2 (by omega)
      obtain ⟨D, rfl⟩ : ∃ D', D = D' + 1 := ⟨D - 1, by omega⟩
      show fM_slipped (D + 1 + 1) (iN b) (iN 4) x h = _
      rw [fM_slipped_eq, cF (by decide), cF (by decide), cF (by decide), cF (by decide), cT (by decide), ran_s D (by omega) _ e, bV]
      refine (mI g _).trans ?_
      simp only [bI]
      simp (disch := omega) only [gR_71, iN_c, e2, Bool.cond_true]
      refine (mI g2 _).trans ?_
      simp only [bI]
      rw [show (sp (iN b) K (f + 1) 2 4 x).2 = [50] ++ (sp (iN b) K f 2 1 (x)).2 ++ (sp (iN b) K f 0 K (2)).2 from rfl, rtM_app]
      rw [show Q + ([(50 : Int32)] ++ (sp (iN b) K f 2 1 (x)).2).length = Q + 1 + (sp (iN b) K f 2 1 (x)).2.length by simp only [List.length_append, List.length_cons, List.length_nil]; omega]
      rfl
    · -- 2 5
      have g := ih 2 3 ha (by decide) (by simpa [en, sb] using hen) D x h Q (by omega) e eK hQ
      obtain ⟨D, rfl⟩ : ∃ D', D = D' + 1 := ⟨D - 1, by omega⟩
      show fM_slipped (D + 1 + 1) (iN b) (iN 5) x h = _
      rw [fM_slipped_eq, cF (by decide), cF (by decide), cF (by decide), cF (by decide), cF (by decide), aboveM_s D (by decide) h, bI, show upk 5 = 3 from rfl]
      exact (mI g _).trans rfl
    · -- 2 6
      have g := ih 2 0 ha (by decide) (by simpa [en, sb] using hen) D x h Q (by omega) e eK hQ
      obtain ⟨D, rfl⟩ : ∃ D', D = D' + 1 := ⟨D - 1, by omega⟩
      show fM_slipped (D + 1 + 1) (iN b) (iN 6) x h = _
      rw [fM_slipped_eq, cF (by decide), cF (by decide), cF (by decide), cF (by decide), cF (by decide), aboveM_s D (by decide) h, bI, show upk 6 = 0 from rfl]
      exact (mI g _).trans rfl
    · -- 2 7
      have g := ih 2 4 ha (by decide) (by simpa [en, sb] using hen) D x h Q (by omega) e eK hQ
      obtain ⟨D, rfl⟩ : ∃ D', D = D' + 1 := ⟨D - 1, by omega⟩
      show fM_slipped (D + 1 + 1) (iN b) (iN 7) x h = _
      rw [fM_slipped_eq, cF (by decide), cF (by decide), cF (by decide), cF (by decide), cF (by decide), aboveM_s D (by decide) h, bI, show upk 7 = 4 from rfl]
      exact (mI g _).trans rfl
    · -- 3 0 own 2
      have hq : Q + (1 + (sp (iN b) K f 1 K (x)).2.length + (sp (iN b) K f 2 K (1)).2.length) ≤ 1000 := by
        have := hQ
        rw [show (sp (iN b) K (f + 1) 3 0 x).2 = [2] ++ (sp (iN b) K f 1 K (x)).2 ++ (sp (iN b) K f 2 K (1)).2 from rfl] at this
        simp only [List.length_append, List.length_cons, List.length_nil] at this
        omega
      have f1 := tM_f Q 2 h
      have g := ih 1 K (by decide) hK (by have := hen; simp [en, sb] at this; exact this.1) D (x) (tM Q 2 h) (Q + 1) (by omega) (tM_3 _ _ _) ((congrFun (f1.1 71 (by omega) (by omega)) b).trans eK) (by omega)
      have f2 := rtM_f (sp (iN b) K f 1 K (x)).2 (Q + 1) (tM Q 2 h)
      have e2 : (rtM (Q + 1) (sp (iN b) K f 1 K (x)).2 (tM Q 2 h)).1 71 b = iN K := (congrFun (f2.1 71 (by omega) (by omega)) b).trans ((congrFun (f1.1 71 (by omega) (by omega)) b).trans eK)
      have g2 := ih 2 K (by decide) hK (by have := hen; simp [en, sb] at this; exact this.2) D (1) (rtM (Q + 1) (sp (iN b) K f 1 K (x)).2 (tM Q 2 h)) (Q + 1 + (sp (iN b) K f 1 K (x)).2.length) (by omega) (rtM_3 _ _ _ (tM_3 _ _ _)) e2 (by omega)
      obtain ⟨D, rfl⟩ : ∃ D', D = D' + 1 := ⟨D - 1, by omega⟩
      show fM_tells (D + 1 + 1) (iN b) (iN 0) x h = _
      rw [fM_tells_eq, cT (by decide), ran_s D (by omega) _ e, bV]
      rw [gR_71 (by omega), iN_c (by omega), f1.1 71 (by omega) (by omega), eK]
      simp only [Bool.cond_true]
      refine (mI g _).trans ?_
      simp only [bI]
      simp (disch := omega) only [gR_71, iN_c, e2, Bool.cond_true]
      refine (mI g2 _).trans ?_
      simp only [bI]
      rw [show (sp (iN b) K (f + 1) 3 0 x).2 = [2] ++ (sp (iN b) K f 1 K (x)).2 ++ (sp (iN b) K f 2 K (1)).2 from rfl, rtM_app]
      rw [show Q + ([(2 : Int32)] ++ (sp (iN b) K f 1 K (x)).2).length = Q + 1 + (sp (iN b) K f 1 K (x)).2.length by simp only [List.length_append, List.length_cons, List.length_nil]; omega]
      rfl
    · -- 3 1
      have g := ih 3 0 ha (by decide) (by simpa [en, sb] using hen) D x h Q (by omega) e eK hQ
      obtain ⟨D, rfl⟩ : ∃ D', D = D' + 1 := ⟨D - 1, by omega⟩
      show fM_tells (D + 1 + 1) (iN b) (iN 1) x h = _
      rw [fM_tells_eq, cF (by decide), cF (by decide), cF (by decide), aboveM_s D (by decide) h, bI, show upk 1 = 0 from rfl]
      exact (mI g _).trans rfl
    · -- 3 2
      have g := ih 3 0 ha (by decide) (by simpa [en, sb] using hen) D x h Q (by omega) e eK hQ
      obtain ⟨D, rfl⟩ : ∃ D', D = D' + 1 := ⟨D - 1, by omega⟩
      show fM_tells (D + 1 + 1) (iN b) (iN 2) x h = _
      rw [fM_tells_eq, cF (by decide), cF (by decide), cF (by decide), aboveM_s D (by decide) h, bI, show upk 2 = 0 from rfl]
      exact (mI g _).trans rfl
    · -- 3 3
      have g := ih 3 2 ha (by decide) (by simpa [en, sb] using hen) D x h Q (by omega) e eK hQ
      obtain ⟨D, rfl⟩ : ∃ D', D = D' + 1 := ⟨D - 1, by omega⟩
      show fM_tells (D + 1 + 1) (iN b) (iN 3) x h = _
      rw [fM_tells_eq, cF (by decide), cF (by decide), cF (by decide), aboveM_s D (by decide) h, bI, show upk 3 = 2 from rfl]
      exact (mI g _).trans rfl
    · -- 3 4
      have g := ih 3 1 ha (by decide) (by simpa [en, sb] using hen) D x h Q (by omega) e eK hQ
      obtain ⟨D, rfl⟩ : ∃ D', D = D' + 1 := ⟨D - 1, by omega⟩
      show fM_tells (D + 1 + 1) (iN b) (iN 4) x h = _
      rw [fM_tells_eq, cF (by decide), cF (by decide), cF (by decide), aboveM_s D (by decide) h, bI, show upk 4 = 1 from rfl]
      exact (mI g _).trans rfl
    · -- 3 5 own 60
      have hq : Q + (1 + (sp (iN b) K f 3 3 (x)).2.length) ≤ 1000 := by
        have := hQ
        rw [show (sp (iN b) K (f + 1) 3 5 x).2 = [60] ++ (sp (iN b) K f 3 3 (x)).2 from rfl] at this
        simp only [List.length_append, List.length_cons, List.length_nil] at this
        omega
      have f1 := tM_f Q 60 h
      have g := ih 3 3 (by decide) (by decide) (by simpa [en, sb] using hen) D (x) (tM Q 60 h) (Q + 1) (by omega) (tM_3 _ _ _) ((congrFun (f1.1 71 (by omega) (by omega)) b).trans eK) (by omega)
      obtain ⟨D, rfl⟩ : ∃ D', D = D' + 1 := ⟨D - 1, by omega⟩
      show fM_tells (D + 1 + 1) (iN b) (iN 5) x h = _
      rw [fM_tells_eq, cF (by decide), cT (by decide), ran_s D (by omega) _ e, bV]
      refine (mI g _).trans ?_
      simp only [bI]
      rfl
    · -- 3 6
      have g := ih 3 0 ha (by decide) (by simpa [en, sb] using hen) D x h Q (by omega) e eK hQ
      obtain ⟨D, rfl⟩ : ∃ D', D = D' + 1 := ⟨D - 1, by omega⟩
      show fM_tells (D + 1 + 1) (iN b) (iN 6) x h = _
      rw [fM_tells_eq, cF (by decide), cF (by decide), cF (by decide), aboveM_s D (by decide) h, bI, show upk 6 = 0 from rfl]
      exact (mI g _).trans rfl
    · -- 3 7 own 81
      have hq : Q + (1 + (sp (iN b) K f 3 4 (x)).2.length) ≤ 1000 := by
        have := hQ
        rw [show (sp (iN b) K (f + 1) 3 7 x).2 = [81] ++ (sp (iN b) K f 3 4 (x)).2 from rfl] at this
        simp only [List.length_append, List.length_cons, List.length_nil] at this
        omega
      have f1 := tM_f Q 81 h
      have g := ih 3 4 (by decide) (by decide) (by simpa [en, sb] using hen) D (x) (tM Q 81 h) (Q + 1) (by omega) (tM_3 _ _ _) ((congrFun (f1.1 71 (by omega) (by omega)) b).trans eK) (by omega)
      obtain ⟨D, rfl⟩ : ∃ D', D = D' + 1 := ⟨D - 1, by omega⟩
      show fM_tells (D + 1 + 1) (iN b) (iN 7) x h = _
      rw [fM_tells_eq, cF (by decide), cF (by decide), cT (by decide), ran_s D (by omega) _ e, bV]
      refine (mI g _).trans ?_
      simp only [bI]
      rfl
