/-! THE LAW worked off, on both sides -/
def nmv (g : Nat → Int32) (b : Int32) (c : Nat) : Int32 := match c with
  | 0 => g 2
  | 1 => g 6
  | 2 => g 3
  | 3 => g 5
  | 4 => g 7
  | 5 => b
  | _ => iN (c - 18)
def biv (c : Nat) (x y : Int32) : Int32 := match c with
  | 6 => cond (!(decide (x = 0))) 1 (cond (decide (y = 0)) 0 1)
  | 7 => cond (decide (x = 0)) 0 (cond (decide (y = 0)) 0 1)
  | 8 => cond (decide (y ≤ x)) 0 1
  | 9 => cond (!(decide (x = y))) 0 1
  | 10 => cond (decide (x ≤ y)) 0 1
  | 11 => x + y
  | 12 => x - y
  | 13 => x * y
  | 14 => cond (!(decide (y = 0))) (x / y) 0
  | _ => cond (!(decide (y = 0))) (x - x / y * y) 0
def unv (c : Nat) (x : Int32) : Int32 := match c with
  | 16 => cond (!(decide (x = 0))) 0 1
  | _ => -x
def st1 (g : Nat → Int32) (b : Int32) (st : List Int32) (c : Nat) : List Int32 :=
  if c ≤ 5 ∨ 18 ≤ c then nmv g b c :: st
  else if 16 ≤ c then (match st with
    | v :: st => unv c v :: st
    | [] => [])
  else (match st with
    | y :: x :: st => biv c x y :: st
    | _ => [])
def evs (g : Nat → Int32) (b : Int32) : List Int32 → List Nat → List Int32
  | st, [] => st
  | st, c :: l => evs g b (st1 g b st c) l
def stk (f : Nat → Int32) : List Int32 → Prop
  | [] => True
  | v :: st => f st.length = v ∧ stk f st
theorem stk_ui {h : zm_H} {a k : Nat} {v : Int32} : ∀ (st : List Int32), stk (h.1 a) st → st.length ≤ k → stk ((zm_ui h a k v).1 a) st := by
  intro st
  induction st with
  | nil => intro _ _; trivial
  | cons x st ih =>
    intro r hk
    rw [List.length_cons] at hk
    exact ⟨by rw [ui_k (by omega)]; exact r.1, ih r.2 (by omega)⟩
theorem push_s (d : Nat) {n : Nat} (hn : n < 64) (v : Int32) {h : zm_H} (e : h.1 11 3 = iN n) : fLa_push (d + 1) v h = some (none, zm_ui (zm_ui h 13 n v) 11 3 (iN (n + 1))) := by
  rw [fLa_push_eq, e, cF (iN_lt0 (by omega)), cF (by simp (disch := omega) only [iN_add, iN_addl, iN_addr, iN_mul, iN_mull, iN_mulr, iN_sub, iN_subl, iN_subr, iN_c, iN_lt, iN_ltl, iN_ltr, iN_le, iN_lel, iN_ler, iN_eq, iN_eql, iN_eqr]; omega)]
  simp (disch := omega) only [bI, bJ, bV, cN, zi_0, zi_z, Bool.cond_true, Bool.cond_false, decide_true, decide_false, decide_eq_true_eq, Bool.cond_decide, if_true, if_false, ofN12, Bool.not_not, zi_t, zi_f, iN_add, iN_addl, iN_addr, iN_mul, iN_mull, iN_mulr, iN_sub, iN_subl, iN_subr, iN_c, iN_lt, iN_ltl, iN_ltr, iN_le, iN_lel, iN_ler, iN_eq, iN_eql, iN_eqr, gR_2, hR_2, gW_2, hW_2, gR_4, hR_4, gW_4, hW_4, gR_5, hR_5, gW_5, hW_5, gR_6, hR_6, gW_6, hW_6, gR_7, hR_7, gW_7, hW_7, gR_9, hR_9, gW_9, hW_9, gR_10, hR_10, gW_10, hW_10, gR_12, hR_12, gW_12, hW_12, gR_13, hR_13, gW_13, hW_13, gR_16, hR_16, gW_16, hW_16, gR_17, hR_17, gW_17, hW_17, gR_18, hR_18, gW_18, hW_18, gR_19, hR_19, gW_19, hW_19, gR_20, hR_20, gW_20, hW_20, gR_21, hR_21, gW_21, hW_21, gR_22, hR_22, gW_22, hW_22, gR_24, hR_24, gW_24, hW_24, gR_25, hR_25, gW_25, hW_25, gR_27, hR_27, gW_27, hW_27, gR_28, hR_28, gW_28, hW_28, gR_30, hR_30, gW_30, hW_30, gR_31, hR_31, gW_31, hW_31, gR_46, hR_46, gW_46, hW_46, gR_47, hR_47, gW_47, hW_47, gR_48, hR_48, gW_48, hW_48, gR_49, hR_49, gW_49, hW_49, gR_50, hR_50, gW_50, hW_50, gR_51, hR_51, gW_51, hW_51, gR_52, hR_52, gW_52, hW_52, gR_53, hR_53, gW_53, hW_53, gR_54, hR_54, gW_54, hW_54, gR_55, hR_55, gW_55, hW_55, gR_56, hR_56, gW_56, hW_56, gR_57, hR_57, gW_57, hW_57, gR_58, hR_58, gW_58, hW_58, gR_59, hR_59, gW_59, hW_59, gR_60, hR_60, gW_60, hW_60, gR_61, hR_61, gW_61, hW_61, gR_62, hR_62, gW_62, hW_62, gR_63, hR_63, gW_63, hW_63, gR_64, hR_64, gW_64, hW_64, gR_65, hR_65, gW_65, hW_65, gR_66, hR_66, gW_66, hW_66, gR_67, hR_67, gW_67, hW_67, gR_68, hR_68, gW_68, hW_68, gR_69, hR_69, gW_69, hW_69, gR_70, hR_70, gW_70, hW_70, gR_71, hR_71, gW_71, hW_71, gR_72, hR_72, gW_72, hW_72, gR_73, hR_73, gW_73, hW_73, gR_74, hR_74, gW_74, hW_74, gR_76, hR_76, gW_76, hW_76, gR_77, hR_77, gW_77, hW_77, gR_78, hR_78, gW_78, hW_78, gR_79, hR_79, gW_79, hW_79, gR_80, hR_80, gW_80, hW_80, gR_81, hR_81, gW_81, hW_81, gR_82, hR_82, gW_82, hW_82, gR_1000, hR_1000, gR_1001, hR_1001, gR_1002, hR_1002, gR_1003, hR_1003, gJ_39, gJ_40, gJ_41, gJ_42, gJ_43, gJ_44, gJ_75, gQ_32, ui_s, ui_k, ui_c, e]
theorem pop_s (d : Nat) {n : Nat} (hn : n < 64) {h : zm_H} (e : h.1 11 3 = iN (n + 1)) : fLa_pop (d + 1) h = some (some (.int (h.1 13 n)), zm_ui h 11 3 (iN n)) := by
  rw [fLa_pop_eq, e, cF (by simp (disch := omega) only [iN_add, iN_addl, iN_addr, iN_mul, iN_mull, iN_mulr, iN_sub, iN_subl, iN_subr, iN_c, iN_lt, iN_ltl, iN_ltr, iN_le, iN_lel, iN_ler, iN_eq, iN_eql, iN_eqr]; omega), cT (by simp (disch := omega) only [iN_add, iN_addl, iN_addr, iN_mul, iN_mull, iN_mulr, iN_sub, iN_subl, iN_subr, iN_c, iN_lt, iN_ltl, iN_ltr, iN_le, iN_lel, iN_ler, iN_eq, iN_eql, iN_eqr]; omega)]
  simp (disch := omega) only [bI, bJ, bV, cN, zi_0, zi_z, Bool.cond_true, Bool.cond_false, decide_true, decide_false, decide_eq_true_eq, Bool.cond_decide, if_true, if_false, ofN12, Bool.not_not, zi_t, zi_f, iN_add, iN_addl, iN_addr, iN_mul, iN_mull, iN_mulr, iN_sub, iN_subl, iN_subr, iN_c, iN_lt, iN_ltl, iN_ltr, iN_le, iN_lel, iN_ler, iN_eq, iN_eql, iN_eqr, gR_2, hR_2, gW_2, hW_2, gR_4, hR_4, gW_4, hW_4, gR_5, hR_5, gW_5, hW_5, gR_6, hR_6, gW_6, hW_6, gR_7, hR_7, gW_7, hW_7, gR_9, hR_9, gW_9, hW_9, gR_10, hR_10, gW_10, hW_10, gR_12, hR_12, gW_12, hW_12, gR_13, hR_13, gW_13, hW_13, gR_16, hR_16, gW_16, hW_16, gR_17, hR_17, gW_17, hW_17, gR_18, hR_18, gW_18, hW_18, gR_19, hR_19, gW_19, hW_19, gR_20, hR_20, gW_20, hW_20, gR_21, hR_21, gW_21, hW_21, gR_22, hR_22, gW_22, hW_22, gR_24, hR_24, gW_24, hW_24, gR_25, hR_25, gW_25, hW_25, gR_27, hR_27, gW_27, hW_27, gR_28, hR_28, gW_28, hW_28, gR_30, hR_30, gW_30, hW_30, gR_31, hR_31, gW_31, hW_31, gR_46, hR_46, gW_46, hW_46, gR_47, hR_47, gW_47, hW_47, gR_48, hR_48, gW_48, hW_48, gR_49, hR_49, gW_49, hW_49, gR_50, hR_50, gW_50, hW_50, gR_51, hR_51, gW_51, hW_51, gR_52, hR_52, gW_52, hW_52, gR_53, hR_53, gW_53, hW_53, gR_54, hR_54, gW_54, hW_54, gR_55, hR_55, gW_55, hW_55, gR_56, hR_56, gW_56, hW_56, gR_57, hR_57, gW_57, hW_57, gR_58, hR_58, gW_58, hW_58, gR_59, hR_59, gW_59, hW_59, gR_60, hR_60, gW_60, hW_60, gR_61, hR_61, gW_61, hW_61, gR_62, hR_62, gW_62, hW_62, gR_63, hR_63, gW_63, hW_63, gR_64, hR_64, gW_64, hW_64, gR_65, hR_65, gW_65, hW_65, gR_66, hR_66, gW_66, hW_66, gR_67, hR_67, gW_67, hW_67, gR_68, hR_68, gW_68, hW_68, gR_69, hR_69, gW_69, hW_69, gR_70, hR_70, gW_70, hW_70, gR_71, hR_71, gW_71, hW_71, gR_72, hR_72, gW_72, hW_72, gR_73, hR_73, gW_73, hW_73, gR_74, hR_74, gW_74, hW_74, gR_76, hR_76, gW_76, hW_76, gR_77, hR_77, gW_77, hW_77, gR_78, hR_78, gW_78, hW_78, gR_79, hR_79, gW_79, hW_79, gR_80, hR_80, gW_80, hW_80, gR_81, hR_81, gW_81, hW_81, gR_82, hR_82, gW_82, hW_82, gR_1000, hR_1000, gR_1001, hR_1001, gR_1002, hR_1002, gR_1003, hR_1003, gJ_39, gJ_40, gJ_41, gJ_42, gJ_43, gJ_44, gJ_75, gQ_32, ui_s, ui_k, ui_c, e, Nat.add_sub_cancel]
/-- the stack's own cells -/
def frC (h K : zm_H) : Prop := (∀ a, a ≠ 11 → a ≠ 13 → K.1 a = h.1 a) ∧ (∀ b, b ≠ 3 → K.1 11 b = h.1 11 b) ∧ K.2 = h.2
def frM (h K : zm_H) : Prop := (∀ a, a ≠ 65 → K.1 a = h.1 a) ∧ K.2 = h.2
theorem frC_r (h : zm_H) : frC h h := ⟨fun _ _ _ => rfl, fun _ _ => rfl, rfl⟩
theorem frM_r (h : zm_H) : frM h h := ⟨fun _ _ => rfl, rfl⟩
theorem frC_t {h K M : zm_H} (e : frC h K) (f : frC K M) : frC h M := ⟨fun a h1 h2 => (f.1 a h1 h2).trans (e.1 a h1 h2), fun b h1 => (f.2.1 b h1).trans (e.2.1 b h1), f.2.2.trans e.2.2⟩
theorem frM_t {h K M : zm_H} (e : frM h K) (f : frM K M) : frM h M := ⟨fun a h1 => (f.1 a h1).trans (e.1 a h1), f.2.trans e.2⟩
theorem frC_13 (h : zm_H) (k : Nat) (v : Int32) : frC h (zm_ui h 13 k v) := ⟨fun a h1 h2 => ui_f h2, fun b h1 => ui_c (by omega), rfl⟩
theorem frC_11 (h : zm_H) (v : Int32) : frC h (zm_ui h 11 3 v) := ⟨fun a h1 h2 => ui_f h1, fun b h1 => ui_k h1, rfl⟩
theorem frM_65 (h : zm_H) (k : Nat) (v : Int32) : frM h (zm_ui h 65 k v) := ⟨fun a h1 => ui_f h1, rfl⟩
def cE (g : Nat → Int32) (h : zm_H) : Prop := ∀ i, 1 ≤ i → i ≤ 9 → h.1 14 i = g i
def mE (g : Nat → Int32) (t k : Nat) (h : zm_H) : Prop := h.1 46 t = g 1 ∧ h.1 47 t = g 2 ∧ h.1 48 t = g 3 ∧ h.1 49 t = g 4 ∧ h.1 50 t = g 5 ∧ h.1 52 k = g 6 ∧ h.1 45 8 = g 7 ∧ h.1 45 9 = g 8 ∧ h.1 45 10 = g 9
theorem cE_f {g : Nat → Int32} {h K : zm_H} (e : frC h K) (r : cE g h) : cE g K := fun i h1 h2 => by rw [e.1 14 (by omega) (by omega)]; exact r i h1 h2
theorem mE_f {g : Nat → Int32} {t k : Nat} {h K : zm_H} (e : frM h K) (r : mE g t k h) : mE g t k K := by
  unfold mE at *
  rw [e.1 46 (by omega), e.1 47 (by omega), e.1 48 (by omega), e.1 49 (by omega), e.1 50 (by omega), e.1 52 (by omega), e.1 45 (by omega)]; exact r
theorem cases18 {c : Nat} (h : c < 18) : c = 0 ∨ c = 1 ∨ c = 2 ∨ c = 3 ∨ c = 4 ∨ c = 5 ∨ c = 6 ∨ c = 7 ∨ c = 8 ∨ c = 9 ∨ c = 10 ∨ c = 11 ∨ c = 12 ∨ c = 13 ∨ c = 14 ∨ c = 15 ∨ c = 16 ∨ c = 17 := by omega
theorem tokC (d : Nat) {g : Nat → Int32} {b : Int32} {c n z p : Nat} {st : List Int32} {h : zm_H} (hn : st.length = n) (hn2 : n ≤ 36) (hc : c < 20000) (hd : if c ≤ 5 ∨ 18 ≤ c then n < 36 else if 16 ≤ c then 1 ≤ n else 2 ≤ n) (e3 : h.1 11 3 = iN n) (e2 : h.1 11 2 = iN z) (hz : z ≤ 128) (hp : p < z) (ec : h.1 12 p = cc c) (rE : cE g h) (rs : stk (h.1 13) st) :
    ∃ K, fLa_valueFor_c10 (d + 2) b 1 (iN p) h = fLa_valueFor_c10 (d + 2) b 1 (iN (p + 1)) K ∧ frC h K ∧ K.1 11 3 = iN (st1 g b st c).length ∧ stk (K.1 13) (st1 g b st c) := by
  have hz1 : ¬ iN z ≤ iN p := by simp (disch := omega) only [iN_add, iN_addl, iN_addr, iN_mul, iN_mull, iN_mulr, iN_sub, iN_subl, iN_subr, iN_c, iN_lt, iN_ltl, iN_ltr, iN_le, iN_lel, iN_ler, iN_eq, iN_eql, iN_eqr]; omega
  have pu : ∀ v : Int32, nmv g b c = v → (c ≤ 5 ∨ 18 ≤ c) → frC h (zm_ui (zm_ui h 13 n v) 11 3 (iN (n + 1))) ∧ (zm_ui (zm_ui h 13 n v) 11 3 (iN (n + 1))).1 11 3 = iN (st1 g b st c).length ∧ stk ((zm_ui (zm_ui h 13 n v) 11 3 (iN (n + 1))).1 13) (st1 g b st c) := by
    intro v hv hcc
    refine ⟨frC_t (frC_13 _ _ _) (frC_11 _ _), ?_, ?_⟩
    · rw [ui_s]; unfold st1; rw [if_pos hcc, List.length_cons, hn]
    · rw [ui_f (by omega)]; unfold st1; rw [if_pos hcc]
      exact ⟨by rw [hn, ui_s, hv], stk_ui st rs (by omega)⟩
  by_cases h18 : 18 ≤ c
  · have hc18 : cc c = iN (c - 18) := by
      unfold cc; split <;> first | omega | rfl
    have hnv : nmv g b c = iN (c - 18) := by
      unfold nmv; split <;> first | omega | rfl
    rw [if_pos (.inr h18)] at hd
    obtain ⟨p1, p2, p3⟩ := pu _ hnv (.inr h18)
    refine ⟨_, ?_, p1, p2, p3⟩
    have l0 : (0 : Int32) ≤ iN (c - 18) := by simp (disch := omega) only [iN_add, iN_addl, iN_addr, iN_mul, iN_mull, iN_mulr, iN_sub, iN_subl, iN_subr, iN_c, iN_lt, iN_ltl, iN_ltr, iN_le, iN_lel, iN_ler, iN_eq, iN_eql, iN_eqr]; omega
    rw [fLa_valueFor_c10_eq, e2, cF hz1, gR_12 (by omega), iN_c (by omega), ec, hc18, Bool.cond_true, cN, cF (by generalize iN (c - 18) = y at l0; grind), cN, cF (by decide), cN, cF (by generalize iN (c - 18) = y at l0; grind), cF (Int32.not_lt.mpr l0), push_s d (by omega) _ e3, bV, iN_addr]
  · have un : 16 ≤ c → c < 18 → ∃ v r, st = v :: r ∧ st1 g b st c = unv c v :: r ∧ n = r.length + 1 := by
      intro h1 h2
      rw [if_neg (by omega), if_pos h1] at hd
      cases st with
      | nil => simp at hn; omega
      | cons v r => exact ⟨v, r, rfl, by rw [st1, if_neg (by omega), if_pos h1], by simpa using hn.symm⟩
    have bi : 6 ≤ c → c < 16 → ∃ y x r, st = y :: x :: r ∧ st1 g b st c = biv c x y :: r ∧ n = r.length + 2 := by
      intro h1 h2
      rw [if_neg (by omega), if_neg (by omega)] at hd
      match st, hn with
      | [], hn => simp at hn; omega
      | [y], hn => simp at hn; omega
      | y :: x :: r, hn => exact ⟨y, x, r, rfl, by rw [st1, if_neg (by omega), if_neg (by omega)], by simp at hn; omega⟩
    rcases cases18 (Nat.lt_of_not_le h18) with rfl | rfl | rfl | rfl | rfl | rfl | rfl | rfl | rfl | rfl | rfl | rfl | rfl | rfl | rfl | rfl | rfl | rfl
    · rw [if_pos (by omega)] at hd
      obtain ⟨p1, p2, p3⟩ := pu (g 2) rfl (by omega)
      refine ⟨_, ?_, p1, p2, p3⟩
      rw [fLa_valueFor_c10_eq, e2, cF hz1, gR_12 (by omega), iN_c (by omega), ec, show cc 0 = -116 from rfl, Bool.cond_true, cN, cF (by decide), cN, cF (by decide), cN, cF (by decide), cT (by decide), fRe_isName_eq, cT (by decide), bI, cF (by decide), fLa_named_eq, cF (by decide), cF (by decide), cF (by decide), cF (by decide), cF (by decide), cF (by decide), cF (by decide), cF (by decide), cF (by decide), cT (by decide), rE 2 (by omega) (by omega), bI, push_s d (by omega) _ e3, bV, iN_addr]
    · rw [if_pos (by omega)] at hd
      obtain ⟨p1, p2, p3⟩ := pu (g 6) rfl (by omega)
      refine ⟨_, ?_, p1, p2, p3⟩
      rw [fLa_valueFor_c10_eq, e2, cF hz1, gR_12 (by omega), iN_c (by omega), ec, show cc 1 = -107 from rfl, Bool.cond_true, cN, cF (by decide), cN, cF (by decide), cN, cF (by decide), cT (by decide), fRe_isName_eq, cF (by decide), cT (by decide), bI, cF (by decide), fLa_named_eq, cT (by decide), rE 6 (by omega) (by omega), bI, push_s d (by omega) _ e3, bV, iN_addr]
    · rw [if_pos (by omega)] at hd
      obtain ⟨p1, p2, p3⟩ := pu (g 3) rfl (by omega)
      refine ⟨_, ?_, p1, p2, p3⟩
      rw [fLa_valueFor_c10_eq, e2, cF hz1, gR_12 (by omega), iN_c (by omega), ec, show cc 2 = -115 from rfl, Bool.cond_true, cN, cF (by decide), cN, cF (by decide), cN, cF (by decide), cT (by decide), fRe_isName_eq, cF (by decide), cF (by decide), cT (by decide), bI, cF (by decide), fLa_named_eq, cF (by decide), cF (by decide), cF (by decide), cF (by decide), cF (by decide), cF (by decide), cF (by decide), cF (by decide), cT (by decide), rE 3 (by omega) (by omega), bI, push_s d (by omega) _ e3, bV, iN_addr]
    · rw [if_pos (by omega)] at hd
      obtain ⟨p1, p2, p3⟩ := pu (g 5) rfl (by omega)
      refine ⟨_, ?_, p1, p2, p3⟩
      rw [fLa_valueFor_c10_eq, e2, cF hz1, gR_12 (by omega), iN_c (by omega), ec, show cc 3 = -119 from rfl, Bool.cond_true, cN, cF (by decide), cN, cF (by decide), cN, cF (by decide), cT (by decide), fRe_isName_eq, cF (by decide), cF (by decide), cF (by decide), cT (by decide), bI, cF (by decide), fLa_named_eq, cF (by decide), cF (by decide), cF (by decide), cF (by decide), cF (by decide), cF (by decide), cF (by decide), cF (by decide), cF (by decide), cF (by decide), cF (by decide), cF (by decide), cT (by decide), rE 5 (by omega) (by omega), bI, push_s d (by omega) _ e3, bV, iN_addr]
    · rw [if_pos (by omega)] at hd
      obtain ⟨p1, p2, p3⟩ := pu (g 7) rfl (by omega)
      refine ⟨_, ?_, p1, p2, p3⟩
      rw [fLa_valueFor_c10_eq, e2, cF hz1, gR_12 (by omega), iN_c (by omega), ec, show cc 4 = -110 from rfl, Bool.cond_true, cN, cF (by decide), cN, cF (by decide), cN, cF (by decide), cT (by decide), fRe_isName_eq, cF (by decide), cF (by decide), cF (by decide), cF (by decide), cT (by decide), bI, cF (by decide), fLa_named_eq, cF (by decide), cF (by decide), cF (by decide), cT (by decide), rE 7 (by omega) (by omega), bI, push_s d (by omega) _ e3, bV, iN_addr]
    · rw [if_pos (by omega)] at hd
      obtain ⟨p1, p2, p3⟩ := pu (b) rfl (by omega)
      refine ⟨_, ?_, p1, p2, p3⟩
      rw [fLa_valueFor_c10_eq, e2, cF hz1, gR_12 (by omega), iN_c (by omega), ec, show cc 5 = -98 from rfl, Bool.cond_true, cN, cF (by decide), cN, cF (by decide), cN, cF (by decide), cT (by decide), fRe_isName_eq, cF (by decide), cF (by decide), cF (by decide), cF (by decide), cF (by decide), cN, cT (by decide), bI, cF (by decide), fLa_named_eq, cF (by decide), cF (by decide), cF (by decide), cF (by decide), cF (by decide), cF (by decide), cF (by decide), cF (by decide), cF (by decide), cF (by decide), cF (by decide), cF (by decide), cF (by decide), bI, push_s d (by omega) _ e3, bV, iN_addr]
    · obtain ⟨y, x, r, rfl, q1, q2⟩ := bi (by omega) (by omega)
      rw [q1]
      have ry : h.1 13 (r.length + 1) = y := rs.1
      have rx : h.1 13 r.length = x := rs.2.1
      refine ⟨zm_ui (zm_ui (zm_ui (zm_ui h 11 3 (iN (r.length + 1))) 11 3 (iN r.length)) 13 r.length (biv 6 x y)) 11 3 (iN (r.length + 1)), ?_, frC_t (frC_t (frC_t (frC_11 _ _) (frC_11 _ _)) (frC_13 _ _ _)) (frC_11 _ _), ?_, ?_⟩
      · rw [fLa_valueFor_c10_eq, e2, cF hz1, gR_12 (by omega), iN_c (by omega), ec, show cc 6 = -124 from rfl, Bool.cond_true, cN, cF (by decide), cN, cF (by decide), cN, cF (by decide), cT (by decide), fRe_isName_eq, cF (by decide), cF (by decide), cF (by decide), cF (by decide), cF (by decide), cN, cF (by decide), bI, cT (by decide), cF (by decide), cN, cF (by decide), pop_s d (n := r.length + 1) (by omega) (by rw [e3, q2]), bI, ry, pop_s d (n := r.length) (by omega) (ui_s _ _ _ _), bI, ui_c (by omega), rx, fLa_joined_eq, cF (by decide), cF (by decide), cF (by decide), cF (by decide), cF (by decide), cF (by decide), cF (by decide), cF (by decide), cF (by decide), cT (by decide)]
        try simp only [cI]
        have jj : ∀ (v : Int32) (k : zm_H), (cond (!(decide (y = 0))) (cond (!(decide (y = 0))) (some (some (.int v), k)) none) (some (some (.int (0 : Int32)), k)) : zm_R) = some (some (.int (cond (!(decide (y = 0))) v 0)), k) := fun v k => by cases decide (y = 0) <;> rfl
        try rw [jj]
        rw [bI, push_s d (n := r.length) (by omega) _ (ui_s _ _ _ _), bV, iN_addr]; rfl
      · rw [ui_s, List.length_cons]
      · rw [ui_f (by omega)]
        exact ⟨ui_s _ _ _ _, stk_ui r (by rw [ui_f (by omega), ui_f (by omega)]; exact rs.2.2) (by omega)⟩
    · obtain ⟨y, x, r, rfl, q1, q2⟩ := bi (by omega) (by omega)
      rw [q1]
      have ry : h.1 13 (r.length + 1) = y := rs.1
      have rx : h.1 13 r.length = x := rs.2.1
      refine ⟨zm_ui (zm_ui (zm_ui (zm_ui h 11 3 (iN (r.length + 1))) 11 3 (iN r.length)) 13 r.length (biv 7 x y)) 11 3 (iN (r.length + 1)), ?_, frC_t (frC_t (frC_t (frC_11 _ _) (frC_11 _ _)) (frC_13 _ _ _)) (frC_11 _ _), ?_, ?_⟩
      · rw [fLa_valueFor_c10_eq, e2, cF hz1, gR_12 (by omega), iN_c (by omega), ec, show cc 7 = -38 from rfl, Bool.cond_true, cN, cF (by decide), cN, cF (by decide), cN, cF (by decide), cT (by decide), fRe_isName_eq, cF (by decide), cF (by decide), cF (by decide), cF (by decide), cF (by decide), cN, cF (by decide), bI, cT (by decide), cF (by decide), cN, cF (by decide), pop_s d (n := r.length + 1) (by omega) (by rw [e3, q2]), bI, ry, pop_s d (n := r.length) (by omega) (ui_s _ _ _ _), bI, ui_c (by omega), rx, fLa_joined_eq, cF (by decide), cT (by decide)]
        try simp only [cI]
        have jj : ∀ (v : Int32) (k : zm_H), (cond (!(decide (y = 0))) (cond (!(decide (y = 0))) (some (some (.int v), k)) none) (some (some (.int (0 : Int32)), k)) : zm_R) = some (some (.int (cond (!(decide (y = 0))) v 0)), k) := fun v k => by cases decide (y = 0) <;> rfl
        try rw [jj]
        rw [bI, push_s d (n := r.length) (by omega) _ (ui_s _ _ _ _), bV, iN_addr]; rfl
      · rw [ui_s, List.length_cons]
      · rw [ui_f (by omega)]
        exact ⟨ui_s _ _ _ _, stk_ui r (by rw [ui_f (by omega), ui_f (by omega)]; exact rs.2.2) (by omega)⟩
    · obtain ⟨y, x, r, rfl, q1, q2⟩ := bi (by omega) (by omega)
      rw [q1]
      have ry : h.1 13 (r.length + 1) = y := rs.1
      have rx : h.1 13 r.length = x := rs.2.1
      refine ⟨zm_ui (zm_ui (zm_ui (zm_ui h 11 3 (iN (r.length + 1))) 11 3 (iN r.length)) 13 r.length (biv 8 x y)) 11 3 (iN (r.length + 1)), ?_, frC_t (frC_t (frC_t (frC_11 _ _) (frC_11 _ _)) (frC_13 _ _ _)) (frC_11 _ _), ?_, ?_⟩
      · rw [fLa_valueFor_c10_eq, e2, cF hz1, gR_12 (by omega), iN_c (by omega), ec, show cc 8 = -60 from rfl, Bool.cond_true, cN, cF (by decide), cN, cF (by decide), cN, cF (by decide), cT (by decide), fRe_isName_eq, cF (by decide), cF (by decide), cF (by decide), cF (by decide), cF (by decide), cN, cF (by decide), bI, cT (by decide), cF (by decide), cN, cF (by decide), pop_s d (n := r.length + 1) (by omega) (by rw [e3, q2]), bI, ry, pop_s d (n := r.length) (by omega) (ui_s _ _ _ _), bI, ui_c (by omega), rx, fLa_joined_eq, cF (by decide), cF (by decide), cF (by decide), cF (by decide), cF (by decide), cF (by decide), cT (by decide)]
        try simp only [cI]
        have jj : ∀ (v : Int32) (k : zm_H), (cond (!(decide (y = 0))) (cond (!(decide (y = 0))) (some (some (.int v), k)) none) (some (some (.int (0 : Int32)), k)) : zm_R) = some (some (.int (cond (!(decide (y = 0))) v 0)), k) := fun v k => by cases decide (y = 0) <;> rfl
        try rw [jj]
        rw [bI, push_s d (n := r.length) (by omega) _ (ui_s _ _ _ _), bV, iN_addr]; rfl
      · rw [ui_s, List.length_cons]
      · rw [ui_f (by omega)]
        exact ⟨ui_s _ _ _ _, stk_ui r (by rw [ui_f (by omega), ui_f (by omega)]; exact rs.2.2) (by omega)⟩
    · obtain ⟨y, x, r, rfl, q1, q2⟩ := bi (by omega) (by omega)
      rw [q1]
      have ry : h.1 13 (r.length + 1) = y := rs.1
      have rx : h.1 13 r.length = x := rs.2.1
      refine ⟨zm_ui (zm_ui (zm_ui (zm_ui h 11 3 (iN (r.length + 1))) 11 3 (iN r.length)) 13 r.length (biv 9 x y)) 11 3 (iN (r.length + 1)), ?_, frC_t (frC_t (frC_t (frC_11 _ _) (frC_11 _ _)) (frC_13 _ _ _)) (frC_11 _ _), ?_, ?_⟩
      · rw [fLa_valueFor_c10_eq, e2, cF hz1, gR_12 (by omega), iN_c (by omega), ec, show cc 9 = -61 from rfl, Bool.cond_true, cN, cF (by decide), cN, cF (by decide), cN, cF (by decide), cT (by decide), fRe_isName_eq, cF (by decide), cF (by decide), cF (by decide), cF (by decide), cF (by decide), cN, cF (by decide), bI, cT (by decide), cF (by decide), cN, cF (by decide), pop_s d (n := r.length + 1) (by omega) (by rw [e3, q2]), bI, ry, pop_s d (n := r.length) (by omega) (ui_s _ _ _ _), bI, ui_c (by omega), rx, fLa_joined_eq, cF (by decide), cF (by decide), cF (by decide), cF (by decide), cF (by decide), cF (by decide), cF (by decide), cT (by decide)]
        try simp only [cI]
        have jj : ∀ (v : Int32) (k : zm_H), (cond (!(decide (y = 0))) (cond (!(decide (y = 0))) (some (some (.int v), k)) none) (some (some (.int (0 : Int32)), k)) : zm_R) = some (some (.int (cond (!(decide (y = 0))) v 0)), k) := fun v k => by cases decide (y = 0) <;> rfl
        try rw [jj]
        rw [bI, push_s d (n := r.length) (by omega) _ (ui_s _ _ _ _), bV, iN_addr]; rfl
      · rw [ui_s, List.length_cons]
      · rw [ui_f (by omega)]
        exact ⟨ui_s _ _ _ _, stk_ui r (by rw [ui_f (by omega), ui_f (by omega)]; exact rs.2.2) (by omega)⟩
    · obtain ⟨y, x, r, rfl, q1, q2⟩ := bi (by omega) (by omega)
      rw [q1]
      have ry : h.1 13 (r.length + 1) = y := rs.1
      have rx : h.1 13 r.length = x := rs.2.1
      refine ⟨zm_ui (zm_ui (zm_ui (zm_ui h 11 3 (iN (r.length + 1))) 11 3 (iN r.length)) 13 r.length (biv 10 x y)) 11 3 (iN (r.length + 1)), ?_, frC_t (frC_t (frC_t (frC_11 _ _) (frC_11 _ _)) (frC_13 _ _ _)) (frC_11 _ _), ?_, ?_⟩
      · rw [fLa_valueFor_c10_eq, e2, cF hz1, gR_12 (by omega), iN_c (by omega), ec, show cc 10 = -62 from rfl, Bool.cond_true, cN, cF (by decide), cN, cF (by decide), cN, cF (by decide), cT (by decide), fRe_isName_eq, cF (by decide), cF (by decide), cF (by decide), cF (by decide), cF (by decide), cN, cF (by decide), bI, cT (by decide), cF (by decide), cN, cF (by decide), pop_s d (n := r.length + 1) (by omega) (by rw [e3, q2]), bI, ry, pop_s d (n := r.length) (by omega) (ui_s _ _ _ _), bI, ui_c (by omega), rx, fLa_joined_eq, cF (by decide), cF (by decide), cF (by decide), cF (by decide), cF (by decide), cF (by decide), cF (by decide), cF (by decide), cT (by decide)]
        try simp only [cI]
        have jj : ∀ (v : Int32) (k : zm_H), (cond (!(decide (y = 0))) (cond (!(decide (y = 0))) (some (some (.int v), k)) none) (some (some (.int (0 : Int32)), k)) : zm_R) = some (some (.int (cond (!(decide (y = 0))) v 0)), k) := fun v k => by cases decide (y = 0) <;> rfl
        try rw [jj]
        rw [bI, push_s d (n := r.length) (by omega) _ (ui_s _ _ _ _), bV, iN_addr]; rfl
      · rw [ui_s, List.length_cons]
      · rw [ui_f (by omega)]
        exact ⟨ui_s _ _ _ _, stk_ui r (by rw [ui_f (by omega), ui_f (by omega)]; exact rs.2.2) (by omega)⟩
    · obtain ⟨y, x, r, rfl, q1, q2⟩ := bi (by omega) (by omega)
      rw [q1]
      have ry : h.1 13 (r.length + 1) = y := rs.1
      have rx : h.1 13 r.length = x := rs.2.1
      refine ⟨zm_ui (zm_ui (zm_ui (zm_ui h 11 3 (iN (r.length + 1))) 11 3 (iN r.length)) 13 r.length (biv 11 x y)) 11 3 (iN (r.length + 1)), ?_, frC_t (frC_t (frC_t (frC_11 _ _) (frC_11 _ _)) (frC_13 _ _ _)) (frC_11 _ _), ?_, ?_⟩
      · rw [fLa_valueFor_c10_eq, e2, cF hz1, gR_12 (by omega), iN_c (by omega), ec, show cc 11 = -43 from rfl, Bool.cond_true, cN, cF (by decide), cN, cF (by decide), cN, cF (by decide), cT (by decide), fRe_isName_eq, cF (by decide), cF (by decide), cF (by decide), cF (by decide), cF (by decide), cN, cF (by decide), bI, cT (by decide), cF (by decide), cN, cF (by decide), pop_s d (n := r.length + 1) (by omega) (by rw [e3, q2]), bI, ry, pop_s d (n := r.length) (by omega) (ui_s _ _ _ _), bI, ui_c (by omega), rx, fLa_joined_eq, cF (by decide), cF (by decide), cF (by decide), cT (by decide)]
        try simp only [cI]
        have jj : ∀ (v : Int32) (k : zm_H), (cond (!(decide (y = 0))) (cond (!(decide (y = 0))) (some (some (.int v), k)) none) (some (some (.int (0 : Int32)), k)) : zm_R) = some (some (.int (cond (!(decide (y = 0))) v 0)), k) := fun v k => by cases decide (y = 0) <;> rfl
        try rw [jj]
        rw [bI, push_s d (n := r.length) (by omega) _ (ui_s _ _ _ _), bV, iN_addr]; rfl
      · rw [ui_s, List.length_cons]
      · rw [ui_f (by omega)]
        exact ⟨ui_s _ _ _ _, stk_ui r (by rw [ui_f (by omega), ui_f (by omega)]; exact rs.2.2) (by omega)⟩
    · obtain ⟨y, x, r, rfl, q1, q2⟩ := bi (by omega) (by omega)
      rw [q1]
      have ry : h.1 13 (r.length + 1) = y := rs.1
      have rx : h.1 13 r.length = x := rs.2.1
      refine ⟨zm_ui (zm_ui (zm_ui (zm_ui h 11 3 (iN (r.length + 1))) 11 3 (iN r.length)) 13 r.length (biv 12 x y)) 11 3 (iN (r.length + 1)), ?_, frC_t (frC_t (frC_t (frC_11 _ _) (frC_11 _ _)) (frC_13 _ _ _)) (frC_11 _ _), ?_, ?_⟩
      · rw [fLa_valueFor_c10_eq, e2, cF hz1, gR_12 (by omega), iN_c (by omega), ec, show cc 12 = -45 from rfl, Bool.cond_true, cN, cF (by decide), cN, cF (by decide), cN, cF (by decide), cT (by decide), fRe_isName_eq, cF (by decide), cF (by decide), cF (by decide), cF (by decide), cF (by decide), cN, cF (by decide), bI, cT (by decide), cF (by decide), cN, cF (by decide), pop_s d (n := r.length + 1) (by omega) (by rw [e3, q2]), bI, ry, pop_s d (n := r.length) (by omega) (ui_s _ _ _ _), bI, ui_c (by omega), rx, fLa_joined_eq, cF (by decide), cF (by decide), cF (by decide), cF (by decide), cT (by decide)]
        try simp only [cI]
        have jj : ∀ (v : Int32) (k : zm_H), (cond (!(decide (y = 0))) (cond (!(decide (y = 0))) (some (some (.int v), k)) none) (some (some (.int (0 : Int32)), k)) : zm_R) = some (some (.int (cond (!(decide (y = 0))) v 0)), k) := fun v k => by cases decide (y = 0) <;> rfl
        try rw [jj]
        rw [bI, push_s d (n := r.length) (by omega) _ (ui_s _ _ _ _), bV, iN_addr]; rfl
      · rw [ui_s, List.length_cons]
      · rw [ui_f (by omega)]
        exact ⟨ui_s _ _ _ _, stk_ui r (by rw [ui_f (by omega), ui_f (by omega)]; exact rs.2.2) (by omega)⟩
    · obtain ⟨y, x, r, rfl, q1, q2⟩ := bi (by omega) (by omega)
      rw [q1]
      have ry : h.1 13 (r.length + 1) = y := rs.1
      have rx : h.1 13 r.length = x := rs.2.1
      refine ⟨zm_ui (zm_ui (zm_ui (zm_ui h 11 3 (iN (r.length + 1))) 11 3 (iN r.length)) 13 r.length (biv 13 x y)) 11 3 (iN (r.length + 1)), ?_, frC_t (frC_t (frC_t (frC_11 _ _) (frC_11 _ _)) (frC_13 _ _ _)) (frC_11 _ _), ?_, ?_⟩
      · rw [fLa_valueFor_c10_eq, e2, cF hz1, gR_12 (by omega), iN_c (by omega), ec, show cc 13 = -42 from rfl, Bool.cond_true, cN, cF (by decide), cN, cF (by decide), cN, cF (by decide), cT (by decide), fRe_isName_eq, cF (by decide), cF (by decide), cF (by decide), cF (by decide), cF (by decide), cN, cF (by decide), bI, cT (by decide), cF (by decide), cN, cF (by decide), pop_s d (n := r.length + 1) (by omega) (by rw [e3, q2]), bI, ry, pop_s d (n := r.length) (by omega) (ui_s _ _ _ _), bI, ui_c (by omega), rx, fLa_joined_eq, cF (by decide), cF (by decide), cT (by decide)]
        try simp only [cI]
        have jj : ∀ (v : Int32) (k : zm_H), (cond (!(decide (y = 0))) (cond (!(decide (y = 0))) (some (some (.int v), k)) none) (some (some (.int (0 : Int32)), k)) : zm_R) = some (some (.int (cond (!(decide (y = 0))) v 0)), k) := fun v k => by cases decide (y = 0) <;> rfl
        try rw [jj]
        rw [bI, push_s d (n := r.length) (by omega) _ (ui_s _ _ _ _), bV, iN_addr]; rfl
      · rw [ui_s, List.length_cons]
      · rw [ui_f (by omega)]
        exact ⟨ui_s _ _ _ _, stk_ui r (by rw [ui_f (by omega), ui_f (by omega)]; exact rs.2.2) (by omega)⟩
    · obtain ⟨y, x, r, rfl, q1, q2⟩ := bi (by omega) (by omega)
      rw [q1]
      have ry : h.1 13 (r.length + 1) = y := rs.1
      have rx : h.1 13 r.length = x := rs.2.1
      refine ⟨zm_ui (zm_ui (zm_ui (zm_ui h 11 3 (iN (r.length + 1))) 11 3 (iN r.length)) 13 r.length (biv 14 x y)) 11 3 (iN (r.length + 1)), ?_, frC_t (frC_t (frC_t (frC_11 _ _) (frC_11 _ _)) (frC_13 _ _ _)) (frC_11 _ _), ?_, ?_⟩
      · rw [fLa_valueFor_c10_eq, e2, cF hz1, gR_12 (by omega), iN_c (by omega), ec, show cc 14 = -47 from rfl, Bool.cond_true, cN, cF (by decide), cN, cF (by decide), cN, cF (by decide), cT (by decide), fRe_isName_eq, cF (by decide), cF (by decide), cF (by decide), cF (by decide), cF (by decide), cN, cF (by decide), bI, cT (by decide), cF (by decide), cN, cF (by decide), pop_s d (n := r.length + 1) (by omega) (by rw [e3, q2]), bI, ry, pop_s d (n := r.length) (by omega) (ui_s _ _ _ _), bI, ui_c (by omega), rx, fLa_joined_eq, cF (by decide), cF (by decide), cF (by decide), cF (by decide), cF (by decide), cT (by decide)]
        try simp only [cI]
        have jj : ∀ (v : Int32) (k : zm_H), (cond (!(decide (y = 0))) (cond (!(decide (y = 0))) (some (some (.int v), k)) none) (some (some (.int (0 : Int32)), k)) : zm_R) = some (some (.int (cond (!(decide (y = 0))) v 0)), k) := fun v k => by cases decide (y = 0) <;> rfl
        try rw [jj]
        rw [bI, push_s d (n := r.length) (by omega) _ (ui_s _ _ _ _), bV, iN_addr]; rfl
      · rw [ui_s, List.length_cons]
      · rw [ui_f (by omega)]
        exact ⟨ui_s _ _ _ _, stk_ui r (by rw [ui_f (by omega), ui_f (by omega)]; exact rs.2.2) (by omega)⟩
    · obtain ⟨y, x, r, rfl, q1, q2⟩ := bi (by omega) (by omega)
      rw [q1]
      have ry : h.1 13 (r.length + 1) = y := rs.1
      have rx : h.1 13 r.length = x := rs.2.1
      refine ⟨zm_ui (zm_ui (zm_ui (zm_ui h 11 3 (iN (r.length + 1))) 11 3 (iN r.length)) 13 r.length (biv 15 x y)) 11 3 (iN (r.length + 1)), ?_, frC_t (frC_t (frC_t (frC_11 _ _) (frC_11 _ _)) (frC_13 _ _ _)) (frC_11 _ _), ?_, ?_⟩
      · rw [fLa_valueFor_c10_eq, e2, cF hz1, gR_12 (by omega), iN_c (by omega), ec, show cc 15 = -37 from rfl, Bool.cond_true, cN, cF (by decide), cN, cF (by decide), cN, cF (by decide), cT (by decide), fRe_isName_eq, cF (by decide), cF (by decide), cF (by decide), cF (by decide), cF (by decide), cN, cF (by decide), bI, cT (by decide), cF (by decide), cN, cF (by decide), pop_s d (n := r.length + 1) (by omega) (by rw [e3, q2]), bI, ry, pop_s d (n := r.length) (by omega) (ui_s _ _ _ _), bI, ui_c (by omega), rx, fLa_joined_eq, cT (by decide)]
        try simp only [cI]
        have jj : ∀ (v : Int32) (k : zm_H), (cond (!(decide (y = 0))) (cond (!(decide (y = 0))) (some (some (.int v), k)) none) (some (some (.int (0 : Int32)), k)) : zm_R) = some (some (.int (cond (!(decide (y = 0))) v 0)), k) := fun v k => by cases decide (y = 0) <;> rfl
        try rw [jj]
        rw [bI, push_s d (n := r.length) (by omega) _ (ui_s _ _ _ _), bV, iN_addr]; rfl
      · rw [ui_s, List.length_cons]
      · rw [ui_f (by omega)]
        exact ⟨ui_s _ _ _ _, stk_ui r (by rw [ui_f (by omega), ui_f (by omega)]; exact rs.2.2) (by omega)⟩
    · obtain ⟨v, r, rfl, q1, q2⟩ := un (by omega) (by omega)
      rw [q1]
      have rv : h.1 13 r.length = v := rs.1
      refine ⟨zm_ui (zm_ui (zm_ui h 11 3 (iN r.length)) 13 r.length (unv 16 v)) 11 3 (iN (r.length + 1)), ?_, frC_t (frC_t (frC_11 _ _) (frC_13 _ _ _)) (frC_11 _ _), ?_, ?_⟩
      · rw [fLa_valueFor_c10_eq, e2, cF hz1, gR_12 (by omega), iN_c (by omega), ec, show cc 16 = -33 from rfl, Bool.cond_true, cN, cF (by decide), cN, cF (by decide), cN, cF (by decide), cT (by decide), fRe_isName_eq, cF (by decide), cF (by decide), cF (by decide), cF (by decide), cF (by decide), cN, cF (by decide), bI, cT (by decide), cT (by decide), pop_s d (n := r.length) (by omega) (by rw [e3, q2]), bI, rv, fLa_turned_eq]
        simp only [cI]
        rw [cN, cF (by decide), bI, push_s d (n := r.length) (by omega) _ (ui_s _ _ _ _), bV, iN_addr]; rfl
      · rw [ui_s, List.length_cons]
      · rw [ui_f (by omega)]
        exact ⟨ui_s _ _ _ _, stk_ui r (by rw [ui_f (by omega)]; exact rs.2) (by omega)⟩
    · obtain ⟨v, r, rfl, q1, q2⟩ := un (by omega) (by omega)
      rw [q1]
      have rv : h.1 13 r.length = v := rs.1
      refine ⟨zm_ui (zm_ui (zm_ui h 11 3 (iN r.length)) 13 r.length (unv 17 v)) 11 3 (iN (r.length + 1)), ?_, frC_t (frC_t (frC_11 _ _) (frC_13 _ _ _)) (frC_11 _ _), ?_, ?_⟩
      · rw [fLa_valueFor_c10_eq, e2, cF hz1, gR_12 (by omega), iN_c (by omega), ec, show cc 17 = -1 from rfl, Bool.cond_true, cN, cF (by decide), cN, cF (by decide), cN, cF (by decide), cT (by decide), fRe_isName_eq, cF (by decide), cF (by decide), cF (by decide), cF (by decide), cF (by decide), cN, cF (by decide), bI, cT (by decide), cF (by decide), cN, cT (by decide), pop_s d (n := r.length) (by omega) (by rw [e3, q2]), bI, rv, fLa_turned_eq]
        skip
        rw [cN, cT (by decide), bI, push_s d (n := r.length) (by omega) _ (ui_s _ _ _ _), bV, iN_addr]; rfl
      · rw [ui_s, List.length_cons]
      · rw [ui_f (by omega)]
        exact ⟨ui_s _ _ _ _, stk_ui r (by rw [ui_f (by omega)]; exact rs.2) (by omega)⟩
