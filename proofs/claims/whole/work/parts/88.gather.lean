/-! the ties of a row: both sides -/
def rowN (f : Nat → Int32) (l : List Nat) : Prop := ∀ j, j < l.length → f j = iN (l.getD j 0)
def inl (l : List Nat) (t : Nat) : Nat → Nat → Bool
  | 0, _ => false
  | k + 1, j => cond (decide (l.getD j 0 = t)) true (inl l t k (j + 1))
def gth (f : Nat → Int64) (n T : Nat) : Nat → List Nat → List Nat
  | 0, l => l
  | k + 1, l => if l.length < n ∧ l.length < 6 ∧ (0 ≤ (f l.length).toInt32 ∧ (f l.length).toInt32 < iN T) ∧ inl l (f l.length).toInt32.toNatClampNeg l.length 0 = false then gth f n T k (l ++ [(f l.length).toInt32.toNatClampNeg]) else l
theorem getD_app (l : List Nat) (x j : Nat) : (l ++ [x]).getD j 0 = if j < l.length then l.getD j 0 else if j = l.length then x else 0 := by
  by_cases q : j < l.length
  · rw [if_pos q]; simp [List.getD, List.getElem?_append_left q]
  · rw [if_neg q]
    by_cases q2 : j = l.length
    · subst q2; simp [List.getD]
    · rw [if_neg q2]
      have : (l ++ [x])[j]? = none := by rw [List.getElem?_eq_none_iff]; simp; omega
      simp [List.getD, this]
theorem gth_ok (f : Nat → Int64) (n : Nat) {T : Nat} (hT : T ≤ 8) : ∀ (k : Nat) (l : List Nat), l.length ≤ 6 → (∀ j, j < l.length → l.getD j 0 < T) → (gth f n T k l).length ≤ 6 ∧ ∀ j, j < (gth f n T k l).length → (gth f n T k l).getD j 0 < T := by
  intro k
  induction k with
  | zero => intro l h1 h2; exact ⟨h1, h2⟩
  | succ k ih =>
    intro l h1 h2
    rw [gth]
    split
    · rename_i q
      refine ih _ (by rw [List.length_append, List.length_singleton]; omega) ?_
      intro j hj
      rw [List.length_append, List.length_singleton] at hj
      rw [getD_app]
      by_cases e : j < l.length
      · rw [if_pos e]; exact h2 j e
      · rw [if_neg e, if_pos (by omega)]
        obtain ⟨t, ht, e2⟩ := iN_ex q.2.2.1.1 q.2.2.1.2 (by omega)
        rw [e2, iN_c (by omega)]; exact ht
    · exact ⟨h1, h2⟩
theorem isG_s (d : Nat) {l : List Nat} {t : Nat} (ht : t < 8) (hl : l.length ≤ 6) (hb : ∀ j, j < l.length → l.getD j 0 < 8) {h : zm_H} (e7 : h.1 15 7 = iN l.length) (er : rowN (h.1 16) l) : ∀ (k j : Nat), j + k = l.length → fDr_isGathered_c2 (d + 1) (iN t) (iN j) h = some (some (.int (zi (inl l t k j))), h) := by
  intro k
  induction k with
  | zero =>
    intro j hj
    rw [fDr_isGathered_c2_eq, e7, cT (by simp (disch := omega) only [iN_add, iN_addl, iN_addr, iN_mul, iN_mull, iN_mulr, iN_sub, iN_subl, iN_subr, iN_c, iN_lt, iN_ltl, iN_ltr, iN_le, iN_lel, iN_ler, iN_eq, iN_eql, iN_eqr]; omega)]; rfl
  | succ k ih =>
    intro j hj
    have := hb j (by omega)
    rw [fDr_isGathered_c2_eq, e7, cF (by simp (disch := omega) only [iN_add, iN_addl, iN_addr, iN_mul, iN_mull, iN_mulr, iN_sub, iN_subl, iN_subr, iN_c, iN_lt, iN_ltl, iN_ltr, iN_le, iN_lel, iN_ler, iN_eq, iN_eql, iN_eqr]; omega), gR_16 (by omega), iN_c (by omega), er j (by omega), Bool.cond_true, cN, inl]
    by_cases q : l.getD j 0 = t
    · rw [q, cT rfl, decide_eq_true rfl]; rfl
    · rw [cF (by rw [iN_eq (by omega) (by omega)]; exact q), decide_eq_false q, iN_addr, ih (j + 1) (by omega)]; rfl
theorem gatherC (d : Nat) {z n T : Nat} (hz : z < 6) (hn : n ≤ 60) (hT : T ≤ 8) {f : Nat → Int64} : ∀ (k : Nat) (l : List Nat) (h : zm_H), l.length + k = 7 → l.length ≤ 6 → (∀ j, j < l.length → l.getD j 0 < T) → h.1 15 7 = iN l.length → rowN (h.1 16) l → h.1 (33 + z) 3 = iN n → (∀ i, i < n → h.2 (39 + z) i = f i) →
    ∃ K, fDr_gather_c5 (d + 3) (33 + z) (iN T) h = some (none, K) ∧ K.1 15 7 = iN (gth f n T k l).length ∧ rowN (K.1 16) (gth f n T k l) ∧ (∀ a, a ≠ 15 → a ≠ 16 → K.1 a = h.1 a) ∧ (∀ b, b ≠ 7 → K.1 15 b = h.1 15 b) ∧ K.2 = h.2 := by
  intro k
  induction k with
  | zero => intro l h hl hl6; omega
  | succ k ih =>
    intro l h hl hl6 hb e7 er e3 ef
    have done : ∀ (X : zm_R), X = some (none, h) → (gth f n T (k + 1) l = l) → ∃ K, X = some (none, K) ∧ K.1 15 7 = iN (gth f n T (k + 1) l).length ∧ rowN (K.1 16) (gth f n T (k + 1) l) ∧ (∀ a, a ≠ 15 → a ≠ 16 → K.1 a = h.1 a) ∧ (∀ b, b ≠ 7 → K.1 15 b = h.1 15 b) ∧ K.2 = h.2 := by
      intro X hX hg
      rw [hg]
      exact ⟨h, hX, e7, er, fun _ _ _ => rfl, fun _ _ => rfl, rfl⟩
    rw [fDr_gather_c5_eq, isO7 hz, e3, e7, Bool.cond_true]
    by_cases q1 : l.length < n
    · rw [cF (by simp (disch := omega) only [iN_add, iN_addl, iN_addr, iN_mul, iN_mull, iN_mulr, iN_sub, iN_subl, iN_subr, iN_c, iN_lt, iN_ltl, iN_ltr, iN_le, iN_lel, iN_ler, iN_eq, iN_eql, iN_eqr]; omega)]
      by_cases q2 : l.length < 6
      · rw [cF (by simp (disch := omega) only [iN_add, iN_addl, iN_addr, iN_mul, iN_mull, iN_mulr, iN_sub, iN_subl, iN_subr, iN_c, iN_lt, iN_ltl, iN_ltr, iN_le, iN_lel, iN_ler, iN_eq, iN_eql, iN_eqr]; omega), Bool.cond_true, readS_s (d + 1) hz hn q1 e3, bJ, ef _ q1]
        by_cases q3 : (f l.length).toInt32 < 0
        · rw [cT q3]
          exact done _ rfl (by rw [gth, if_neg (fun e => absurd e.2.2.1.1 (Int32.not_le.mpr q3))])
        · rw [cF q3]
          by_cases q4 : iN T ≤ (f l.length).toInt32
          · rw [cT q4]
            exact done _ rfl (by rw [gth, if_neg (fun e => absurd e.2.2.1.2 (Int32.not_lt.mpr q4))])
          · rw [cF q4]
            have q5 : 0 ≤ (f l.length).toInt32 ∧ (f l.length).toInt32 < iN T := ⟨Int32.not_lt.mp q3, Int32.not_le.mp q4⟩
            obtain ⟨t, ht, et⟩ := iN_ex q5.1 q5.2 (by omega)
            have hh : (f l.length).toInt32.toNatClampNeg = t := by rw [et, iN_c (by omega)]
            rw [et, fDr_isGathered_eq, show (0 : Int32) = iN 0 from rfl, isG_s (d + 1) (by omega) hl6 (fun j hj => by have := hb j hj; omega) e7 er l.length 0 (by omega), bI]
            have z0 : decide (zi (inl l t l.length 0) = iN 0) = !(inl l t l.length 0) := zi_0 _
            rw [z0]
            cases q6 : inl l t l.length 0
            · have hg : gth f n T (k + 1) l = gth f n T k (l ++ [t]) := by
                rw [gth, if_pos ⟨q1, q2, q5, by rw [hh]; exact q6⟩, hh]
              rw [hg]
              have hll : (l ++ [t]).length = l.length + 1 := by rw [List.length_append, List.length_singleton]
              have HH := ih (l ++ [t]) (zm_ui (zm_ui h 16 l.length (iN t)) 15 7 (iN (l.length + 1))) (by rw [hll]; omega) (by rw [hll]; omega) ?_ (by rw [hll]; exact ui_s _ _ _ _) ?_ (by simp (disch := omega) only [ui_c]; exact e3) ef
              · obtain ⟨M, m1, m2, m3, m4, m5, m6⟩ := HH
                refine ⟨M, ?_, m2, m3, ?_, ?_, m6⟩
                · simp (disch := omega) only [bI, bJ, bV, cN, zi_0, zi_z, Bool.cond_true, Bool.cond_false, decide_true, decide_false, decide_eq_true_eq, Bool.cond_decide, if_true, if_false, ofN12, Bool.not_not, zi_t, zi_f, iN_add, iN_addl, iN_addr, iN_mul, iN_mull, iN_mulr, iN_sub, iN_subl, iN_subr, iN_c, iN_lt, iN_ltl, iN_ltr, iN_le, iN_lel, iN_ler, iN_eq, iN_eql, iN_eqr, gR_2, hR_2, gW_2, hW_2, gR_4, hR_4, gW_4, hW_4, gR_5, hR_5, gW_5, hW_5, gR_6, hR_6, gW_6, hW_6, gR_7, hR_7, gW_7, hW_7, gR_9, hR_9, gW_9, hW_9, gR_10, hR_10, gW_10, hW_10, gR_12, hR_12, gW_12, hW_12, gR_13, hR_13, gW_13, hW_13, gR_16, hR_16, gW_16, hW_16, gR_17, hR_17, gW_17, hW_17, gR_18, hR_18, gW_18, hW_18, gR_19, hR_19, gW_19, hW_19, gR_20, hR_20, gW_20, hW_20, gR_21, hR_21, gW_21, hW_21, gR_22, hR_22, gW_22, hW_22, gR_24, hR_24, gW_24, hW_24, gR_25, hR_25, gW_25, hW_25, gR_27, hR_27, gW_27, hW_27, gR_28, hR_28, gW_28, hW_28, gR_30, hR_30, gW_30, hW_30, gR_31, hR_31, gW_31, hW_31, gR_46, hR_46, gW_46, hW_46, gR_47, hR_47, gW_47, hW_47, gR_48, hR_48, gW_48, hW_48, gR_49, hR_49, gW_49, hW_49, gR_50, hR_50, gW_50, hW_50, gR_51, hR_51, gW_51, hW_51, gR_52, hR_52, gW_52, hW_52, gR_53, hR_53, gW_53, hW_53, gR_54, hR_54, gW_54, hW_54, gR_55, hR_55, gW_55, hW_55, gR_56, hR_56, gW_56, hW_56, gR_57, hR_57, gW_57, hW_57, gR_58, hR_58, gW_58, hW_58, gR_59, hR_59, gW_59, hW_59, gR_60, hR_60, gW_60, hW_60, gR_61, hR_61, gW_61, hW_61, gR_62, hR_62, gW_62, hW_62, gR_63, hR_63, gW_63, hW_63, gR_64, hR_64, gW_64, hW_64, gR_65, hR_65, gW_65, hW_65, gR_66, hR_66, gW_66, hW_66, gR_67, hR_67, gW_67, hW_67, gR_68, hR_68, gW_68, hW_68, gR_69, hR_69, gW_69, hW_69, gR_70, hR_70, gW_70, hW_70, gR_71, hR_71, gW_71, hW_71, gR_72, hR_72, gW_72, hW_72, gR_73, hR_73, gW_73, hW_73, gR_74, hR_74, gW_74, hW_74, gR_76, hR_76, gW_76, hW_76, gR_77, hR_77, gW_77, hW_77, gR_78, hR_78, gW_78, hW_78, gR_79, hR_79, gW_79, hW_79, gR_80, hR_80, gW_80, hW_80, gR_81, hR_81, gW_81, hW_81, gR_82, hR_82, gW_82, hW_82, gR_1000, hR_1000, gR_1001, hR_1001, gR_1002, hR_1002, gR_1003, hR_1003, gJ_39, gJ_40, gJ_41, gJ_42, gJ_43, gJ_44, gJ_75, gQ_32, ui_s, ui_k, ui_c, e7, Bool.not_false]
                  exact m1
                · intro a h1 h2; rw [m4 a h1 h2]; simp (disch := omega) only [ui_f]
                · intro b h1; rw [m5 b h1]; simp (disch := omega) only [ui_k, ui_c]
              · intro j hj
                rw [hll] at hj
                rw [getD_app]
                by_cases e : j < l.length
                · rw [if_pos e]; exact hb j e
                · rw [if_neg e, if_pos (by omega)]; exact ht
              · intro j hj
                rw [hll] at hj
                rw [getD_app, ui_f (by omega)]
                by_cases e : j < l.length
                · rw [if_pos e, ui_k (by omega)]; exact er j e
                · obtain rfl : j = l.length := by omega
                  rw [if_neg e, if_pos rfl, ui_s]
            · exact done _ rfl (by rw [gth, if_neg (fun e => by rw [hh, q6] at e; exact absurd e.2.2.2 (by simp))])
      · rw [cT (by simp (disch := omega) only [iN_add, iN_addl, iN_addr, iN_mul, iN_mull, iN_mulr, iN_sub, iN_subl, iN_subr, iN_c, iN_lt, iN_ltl, iN_ltr, iN_le, iN_lel, iN_ler, iN_eq, iN_eql, iN_eqr]; omega)]
        exact done _ rfl (by rw [gth, if_neg (fun e => q2 e.2.1)])
    · rw [cT (by simp (disch := omega) only [iN_add, iN_addl, iN_addr, iN_mul, iN_mull, iN_mulr, iN_sub, iN_subl, iN_subr, iN_c, iN_lt, iN_ltl, iN_ltr, iN_le, iN_lel, iN_ler, iN_eq, iN_eql, iN_eqr]; omega)]
      exact done _ rfl (by rw [gth, if_neg (fun e => q1 e.1)])
theorem readsM45 (d : Nat) {z i t : Nat} {l : List Nat} (ht : t < 8) (hl : l.length < 6) (hb : ∀ j, j < l.length → l.getD j 0 < 8) {h : zm_H} (e9 : h.1 45 49 = iN l.length) (er : rowN (h.1 76) l) : ∀ (k j : Nat), j + k = l.length →
    fM_reads_c45 (d + 1) (iN z) (iN i) (iN t) (iN j) h = cond (inl l t k j) (some (none, h)) (fM_reads_c7 (d + 1) (iN z) (iN (i + 1)) (zm_ui (zm_ui h 45 49 (iN (l.length + 1))) 76 l.length (iN t))) := by
  intro k
  induction k with
  | zero =>
    intro j hj
    rw [fM_reads_c45_eq, e9, cT (by simp (disch := omega) only [iN_add, iN_addl, iN_addr, iN_mul, iN_mull, iN_mulr, iN_sub, iN_subl, iN_subr, iN_c, iN_lt, iN_ltl, iN_ltr, iN_le, iN_lel, iN_ler, iN_eq, iN_eql, iN_eqr]; omega), gW_76 (by omega), iN_c (by omega), iN_addr, iN_addr]; rfl
  | succ k ih =>
    intro j hj
    have := hb j (by omega)
    rw [fM_reads_c45_eq, e9, cF (by simp (disch := omega) only [iN_add, iN_addl, iN_addr, iN_mul, iN_mull, iN_mulr, iN_sub, iN_subl, iN_subr, iN_c, iN_lt, iN_ltl, iN_ltr, iN_le, iN_lel, iN_ler, iN_eq, iN_eql, iN_eqr]; omega), gR_76 (by omega), iN_c (by omega), er j (by omega), Bool.cond_true, cN, inl]
    by_cases q : l.getD j 0 = t
    · rw [q, cT rfl, decide_eq_true rfl]; rfl
    · rw [cF (by rw [iN_eq (by omega) (by omega)]; exact q), decide_eq_false q, iN_addr, ih (j + 1) (by omega)]; rfl
theorem readsM (d : Nat) {z n T : Nat} (hz : z < 6) (hn : n ≤ 60) (hT : T ≤ 8) {f : Nat → Int64} : ∀ (k : Nat) (l : List Nat) (h : zm_H), l.length + k = 7 → l.length ≤ 6 → (∀ j, j < l.length → l.getD j 0 < T) → h.1 45 49 = iN l.length → rowN (h.1 76) l → h.1 74 z = iN n → h.1 45 0 = iN T → (∀ i, i < n → h.2 75 (60 * z + i) = f i) →
    ∃ K, fM_reads_c7 (d + 3) (iN z) (iN l.length) h = some (none, K) ∧ K.1 45 49 = iN (gth f n T k l).length ∧ rowN (K.1 76) (gth f n T k l) ∧ (∀ a, a ≠ 45 → a ≠ 76 → K.1 a = h.1 a) ∧ (∀ b, b ≠ 49 → K.1 45 b = h.1 45 b) ∧ K.2 = h.2 := by
  intro k
  induction k with
  | zero => intro l h hl hl6; omega
  | succ k ih =>
    intro l h hl hl6 hb e9 er e3 eT ef
    have done : ∀ (X : zm_R), X = some (none, h) → (gth f n T (k + 1) l = l) → ∃ K, X = some (none, K) ∧ K.1 45 49 = iN (gth f n T (k + 1) l).length ∧ rowN (K.1 76) (gth f n T (k + 1) l) ∧ (∀ a, a ≠ 45 → a ≠ 76 → K.1 a = h.1 a) ∧ (∀ b, b ≠ 49 → K.1 45 b = h.1 45 b) ∧ K.2 = h.2 := by
      intro X hX hg
      rw [hg]
      exact ⟨h, hX, e9, er, fun _ _ _ => rfl, fun _ _ => rfl, rfl⟩
    rw [fM_reads_c7_eq, gR_74 hz, iN_c (by omega), e3, e9, Bool.cond_true]
    by_cases q1 : l.length < n
    · rw [cF (by simp (disch := omega) only [iN_add, iN_addl, iN_addr, iN_mul, iN_mull, iN_mulr, iN_sub, iN_subl, iN_subr, iN_c, iN_lt, iN_ltl, iN_ltr, iN_le, iN_lel, iN_ler, iN_eq, iN_eql, iN_eqr]; omega)]
      by_cases q2 : l.length < 6
      · rw [cF (by simp (disch := omega) only [iN_add, iN_addl, iN_addr, iN_mul, iN_mull, iN_mulr, iN_sub, iN_subl, iN_subr, iN_c, iN_lt, iN_ltl, iN_ltr, iN_le, iN_lel, iN_ler, iN_eq, iN_eql, iN_eqr]; omega), fM_told_eq, iN_mull, iN_add, gJ_75 (by omega), iN_c (by omega), ef _ q1, Bool.cond_true, bI, isTie_s d (by omega) _ _ eT, bI, zi_0, Bool.not_not]
        by_cases q5 : 0 ≤ (f l.length).toInt32 ∧ (f l.length).toInt32 < iN T
        · obtain ⟨t, ht, et⟩ := iN_ex q5.1 q5.2 (by omega)
          have hh : (f l.length).toInt32.toNatClampNeg = t := by rw [et, iN_c (by omega)]
          rw [in_t q5, et, Bool.cond_true, show (0 : Int32) = iN 0 from rfl, readsM45 (d + 2) (by omega) q2 (fun j hj => by have := hb j hj; omega) e9 er l.length 0 (by omega)]
          cases q6 : inl l t l.length 0
          · have hg : gth f n T (k + 1) l = gth f n T k (l ++ [t]) := by
              rw [gth, if_pos ⟨q1, q2, q5, by rw [hh]; exact q6⟩, hh]
            rw [hg]
            have hll : (l ++ [t]).length = l.length + 1 := by rw [List.length_append, List.length_singleton]
            have HH := ih (l ++ [t]) (zm_ui (zm_ui h 45 49 (iN (l.length + 1))) 76 l.length (iN t)) (by rw [hll]; omega) (by rw [hll]; omega) ?_ (by rw [hll, ui_c (by omega)]; exact ui_s _ _ _ _) ?_ (by simp (disch := omega) only [ui_c]; exact e3) (by simp (disch := omega) only [ui_c, ui_k]; exact eT) ef
            · obtain ⟨M, m1, m2, m3, m4, m5, m6⟩ := HH
              refine ⟨M, ?_, m2, m3, ?_, ?_, m6⟩
              · rw [hll] at m1; exact m1
              · intro a h1 h2; rw [m4 a h1 h2]; simp (disch := omega) only [ui_f]
              · intro b h1; rw [m5 b h1]; simp (disch := omega) only [ui_k, ui_c]
            · intro j hj
              rw [hll] at hj
              rw [getD_app]
              by_cases e : j < l.length
              · rw [if_pos e]; exact hb j e
              · rw [if_neg e, if_pos (by omega)]; exact ht
            · intro j hj
              rw [hll] at hj
              rw [getD_app]
              by_cases e : j < l.length
              · rw [if_pos e, ui_k (by omega), ui_c (by omega)]; exact er j e
              · obtain rfl : j = l.length := by omega
                rw [if_neg e, if_pos rfl, ui_s]
          · exact done _ rfl (by rw [gth, if_neg (fun e => by rw [hh, q6] at e; exact absurd e.2.2.2 (by simp))])
        · rw [in_f q5]
          exact done _ rfl (by rw [gth, if_neg (fun e => q5 e.2.2.1)])
      · rw [cT (by simp (disch := omega) only [iN_add, iN_addl, iN_addr, iN_mul, iN_mull, iN_mulr, iN_sub, iN_subl, iN_subr, iN_c, iN_lt, iN_ltl, iN_ltr, iN_le, iN_lel, iN_ler, iN_eq, iN_eql, iN_eqr]; omega)]
        exact done _ rfl (by rw [gth, if_neg (fun e => q2 e.2.1)])
    · rw [cT (by simp (disch := omega) only [iN_add, iN_addl, iN_addr, iN_mul, iN_mull, iN_mulr, iN_sub, iN_subl, iN_subr, iN_c, iN_lt, iN_ltl, iN_ltr, iN_le, iN_lel, iN_ler, iN_eq, iN_eql, iN_eqr]; omega)]
      exact done _ rfl (by rw [gth, if_neg (fun e => q1 e.1)])
