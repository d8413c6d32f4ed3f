/-! gather of the class, all done -/
def frL (h K : zm_H) : Prop := (∀ a, a ≠ 11 → a ≠ 13 → a ≠ 14 → a ≠ 21 → K.1 a = h.1 a) ∧ (∀ b, b ≠ 3 → K.1 11 b = h.1 11 b) ∧ K.2 = h.2
theorem frL_r (h : zm_H) : frL h h := ⟨fun _ _ _ _ _ => rfl, fun _ _ => rfl, rfl⟩
theorem frL_t {h K M : zm_H} (e : frL h K) (f : frL K M) : frL h M := ⟨fun a h1 h2 h3 h4 => (f.1 a h1 h2 h3 h4).trans (e.1 a h1 h2 h3 h4), fun b h1 => (f.2.1 b h1).trans (e.2.1 b h1), f.2.2.trans e.2.2⟩
theorem frL_H {h K : zm_H} (e : frH h K) : frL h K := ⟨fun a h1 h2 h3 _ => e.1 a h1 h2 h3, e.2.1, e.2.2⟩
theorem frL_21 (h : zm_H) (k : Nat) (v : Int32) : frL h (zm_ui h 21 k v) := ⟨fun a h1 h2 h3 h4 => ui_f h4, fun b h1 => ui_c (by omega), rfl⟩
theorem frL_lwC {lw : Option (List (List Nat × List Nat))} {h K : zm_H} (e : frL h K) (r : lwC lw h) : lwC lw K := by
  cases lw with
  | none => exact (e.2.1 2 (by omega)).trans r
  | some ls => exact ⟨r.1, r.2.1, (e.2.1 2 (by omega)).trans r.2.2.1, by rw [e.1 12 (by omega) (by omega) (by omega) (by omega)]; exact r.2.2.2.1, r.2.2.2.2⟩
/-- the minutes of a TIER for a tie -/
def fmn (lw : Option (List (List Nat × List Nat))) (H : zm_H) (k w t : Nat) : Nat := mnN lw (gOf H t k) (H.1 2 (11 * 8 + w)) (H.1 2 (10 * 8 + w)) (H.1 2 (9 * 8 + w))
def pOk (H : zm_H) (P : Nat) : Prop := ∀ w, w < P → ¬ H.1 2 (10 * 8 + w) = 0 ∧ 1 ≤ H.1 2 (9 * 8 + w) ∧ H.1 2 (9 * 8 + w) ≤ 9
theorem pOk_of {T P : Nat} {H : zm_H} (N : rN T P H) : pOk H P := by
  intro w hw
  have a := N.2.2.1 10 w (by omega) hw
  have b := N.2.2.1 9 w (by omega) hw
  refine ⟨?_, b.1, b.2⟩
  have := a.1
  rw [show lo 10 = 1 from rfl] at this
  grind
theorem tierC (d : Nat) {lw : Option (List (List Nat × List Nat))} {H : zm_H} {T P j t k : Nat} (hT : T ≤ 8) (hP : P ≤ 6) (hj : j < 6) (ok : pOk H P) (n1 : H.1 1 1 = iN T) (n3 : H.1 1 2 = iN P) : ∀ (n p : Nat) (h : zm_H), p + n = P → h.1 1 = H.1 1 → h.1 2 = H.1 2 → lwC lw h → cE (gOf H t k) h →
    ∃ K, fE_gather_c57 (d + 8) (iN k) (iN j) (iN p) h = fE_gather_c22 (d + 8) (iN k) (iN (j + 1)) K ∧ frL h K ∧ (∀ w, p ≤ w → w < P → K.1 21 (w * 6 + j) = iN (fmn lw H k w t)) ∧ (∀ y, (∀ w, p ≤ w → w < P → y ≠ w * 6 + j) → K.1 21 y = h.1 21 y) := by
  intro n
  induction n with
  | zero =>
    intro p h hp e1 e2 _ _
    obtain rfl : p = P := by omega
    refine ⟨h, ?_, frL_r h, fun w h1 h2 => absurd h1 (by omega), fun _ _ => rfl⟩
    rw [fE_gather_c57_eq, e1, n3, cT (by simp (disch := omega) only [iN_add, iN_addl, iN_addr, iN_mul, iN_mull, iN_mulr, iN_sub, iN_subl, iN_subr, iN_c, iN_lt, iN_ltl, iN_ltr, iN_le, iN_lel, iN_ler, iN_eq, iN_eql, iN_eqr]; omega), iN_addr]
  | succ n ih =>
    intro p h hp e1 e2 rl rE
    obtain ⟨o1, o2, o3⟩ := ok p (by omega)
    obtain ⟨K, k1, k2, k3⟩ := minutesC (d + 1) (lw := lw) hT hP (show p < P by omega) (h := h) (by rw [e1]; exact n1) (by rw [e1]; exact n3) (by rw [e2]; exact o1) (by rw [e2]; exact o2) (by rw [e2]; exact o3) rl rE
    rw [e2] at k1
    have f1 : frL h (zm_ui K 21 (p * 6 + j) (iN (fmn lw H k p t))) := frL_t (frL_H k2) (frL_21 _ _ _)
    obtain ⟨M, m1, m2, m3, m4⟩ := ih (p + 1) (zm_ui K 21 (p * 6 + j) (iN (fmn lw H k p t))) (by omega) (by rw [f1.1 1 (by omega) (by omega) (by omega) (by omega)]; exact e1) (by rw [f1.1 2 (by omega) (by omega) (by omega) (by omega)]; exact e2) (frL_lwC f1 rl) (fun i h1 h2 => by rw [ui_c (by omega)]; exact k3 i h1 h2)
    refine ⟨M, ?_, frL_t f1 m2, ?_, ?_⟩
    · rw [fE_gather_c57_eq, e1, n3, cF (by simp (disch := omega) only [iN_add, iN_addl, iN_addr, iN_mul, iN_mull, iN_mulr, iN_sub, iN_subl, iN_subr, iN_c, iN_lt, iN_ltl, iN_ltr, iN_le, iN_lel, iN_ler, iN_eq, iN_eql, iN_eqr]; omega), k1, bI, fDr_time_eq, cF (iN_lt0 (by omega)), cF (by simp (disch := omega) only [iN_add, iN_addl, iN_addr, iN_mul, iN_mull, iN_mulr, iN_sub, iN_subl, iN_subr, iN_c, iN_lt, iN_ltl, iN_ltr, iN_le, iN_lel, iN_ler, iN_eq, iN_eql, iN_eqr]; omega), cF (iN_lt0 (by omega)), cF (by simp (disch := omega) only [iN_add, iN_addl, iN_addr, iN_mul, iN_mull, iN_mulr, iN_sub, iN_subl, iN_subr, iN_c, iN_lt, iN_ltl, iN_ltr, iN_le, iN_lel, iN_ler, iN_eq, iN_eql, iN_eqr]; omega)]
      simp (disch := omega) only [bI, bJ, bV, cN, zi_0, zi_z, Bool.cond_true, Bool.cond_false, decide_true, decide_false, decide_eq_true_eq, Bool.cond_decide, if_true, if_false, ofN12, Bool.not_not, zi_t, zi_f, iN_add, iN_addl, iN_addr, iN_mul, iN_mull, iN_mulr, iN_sub, iN_subl, iN_subr, iN_c, iN_lt, iN_ltl, iN_ltr, iN_le, iN_lel, iN_ler, iN_eq, iN_eql, iN_eqr, gR_2, hR_2, gW_2, hW_2, gR_4, hR_4, gW_4, hW_4, gR_5, hR_5, gW_5, hW_5, gR_6, hR_6, gW_6, hW_6, gR_7, hR_7, gW_7, hW_7, gR_9, hR_9, gW_9, hW_9, gR_10, hR_10, gW_10, hW_10, gR_12, hR_12, gW_12, hW_12, gR_13, hR_13, gW_13, hW_13, gR_16, hR_16, gW_16, hW_16, gR_17, hR_17, gW_17, hW_17, gR_18, hR_18, gW_18, hW_18, gR_19, hR_19, gW_19, hW_19, gR_20, hR_20, gW_20, hW_20, gR_21, hR_21, gW_21, hW_21, gR_22, hR_22, gW_22, hW_22, gR_24, hR_24, gW_24, hW_24, gR_25, hR_25, gW_25, hW_25, gR_27, hR_27, gW_27, hW_27, gR_28, hR_28, gW_28, hW_28, gR_30, hR_30, gW_30, hW_30, gR_31, hR_31, gW_31, hW_31, gR_46, hR_46, gW_46, hW_46, gR_47, hR_47, gW_47, hW_47, gR_48, hR_48, gW_48, hW_48, gR_49, hR_49, gW_49, hW_49, gR_50, hR_50, gW_50, hW_50, gR_51, hR_51, gW_51, hW_51, gR_52, hR_52, gW_52, hW_52, gR_53, hR_53, gW_53, hW_53, gR_54, hR_54, gW_54, hW_54, gR_55, hR_55, gW_55, hW_55, gR_56, hR_56, gW_56, hW_56, gR_57, hR_57, gW_57, hW_57, gR_58, hR_58, gW_58, hW_58, gR_59, hR_59, gW_59, hW_59, gR_60, hR_60, gW_60, hW_60, gR_61, hR_61, gW_61, hW_61, gR_62, hR_62, gW_62, hW_62, gR_63, hR_63, gW_63, hW_63, gR_64, hR_64, gW_64, hW_64, gR_65, hR_65, gW_65, hW_65, gR_66, hR_66, gW_66, hW_66, gR_67, hR_67, gW_67, hW_67, gR_68, hR_68, gW_68, hW_68, gR_69, hR_69, gW_69, hW_69, gR_70, hR_70, gW_70, hW_70, gR_71, hR_71, gW_71, hW_71, gR_72, hR_72, gW_72, hW_72, gR_73, hR_73, gW_73, hW_73, gR_74, hR_74, gW_74, hW_74, gR_76, hR_76, gW_76, hW_76, gR_77, hR_77, gW_77, hW_77, gR_78, hR_78, gW_78, hW_78, gR_79, hR_79, gW_79, hW_79, gR_80, hR_80, gW_80, hW_80, gR_81, hR_81, gW_81, hW_81, gR_82, hR_82, gW_82, hW_82, gR_1000, hR_1000, gR_1001, hR_1001, gR_1002, hR_1002, gR_1003, hR_1003, gJ_39, gJ_40, gJ_41, gJ_42, gJ_43, gJ_44, gJ_75, gQ_32]
      exact m1
    · intro w h1 h2
      by_cases e : w = p
      · subst e
        rw [m4 _ (fun v v1 v2 => by omega), ui_s]
      · exact m3 w (by omega) h2
    · intro y hy
      rw [m4 y (fun v v1 v2 => hy v (by omega) v2), ui_k (hy p (by omega) (by omega)), k2.1 21 (by omega) (by omega) (by omega)]
theorem placeC (d : Nat) {lw : Option (List (List Nat × List Nat))} {H : zm_H} {T P k : Nat} {l : List Nat} (hT : T ≤ 8) (hP : P ≤ 6) (hk : k < 5) (hl : l.length ≤ 6) (hb : ∀ j, j < l.length → l.getD j 0 < T) (ok : pOk H P) (n1 : H.1 1 1 = iN T) (n3 : H.1 1 2 = iN P) : ∀ (n j : Nat) (h : zm_H), j + n = l.length → h.1 1 = H.1 1 → h.1 2 = H.1 2 → h.1 15 7 = iN l.length → rowN (h.1 16) l → lwC lw h →
    ∃ K, fE_gather_c22 (d + 8) (iN k) (iN j) h = some (none, K) ∧ frL h K ∧ (∀ w y, w < P → j ≤ y → y < l.length → K.1 21 (w * 6 + y) = iN (fmn lw H k w (l.getD y 0))) ∧ (∀ w y, w < 7 → y < j → K.1 21 (w * 6 + y) = h.1 21 (w * 6 + y)) := by
  intro n
  induction n with
  | zero =>
    intro j h hj e1 e2 e7 er rl
    obtain rfl : j = l.length := by omega
    refine ⟨h, ?_, frL_r h, fun w y h1 h2 h3 => absurd h2 (by omega), fun _ _ _ _ => rfl⟩
    rw [fE_gather_c22_eq, e7, cT (by simp (disch := omega) only [iN_add, iN_addl, iN_addr, iN_mul, iN_mull, iN_mulr, iN_sub, iN_subl, iN_subr, iN_c, iN_lt, iN_ltl, iN_ltr, iN_le, iN_lel, iN_ler, iN_eq, iN_eql, iN_eqr]; omega)]
  | succ n ih =>
    intro j h hj e1 e2 e7 er rl
    have hbj := hb j (by omega)
    obtain ⟨K, k1, k2, k3, k4⟩ := lay_s (d + 3) hT hP (by rw [e1]; exact n1) (by rw [e1]; exact n3) hbj hk
    have hg : gOf h (l.getD j 0) k = gOf H (l.getD j 0) k := by unfold gOf; rw [e2]
    rw [hg] at k2
    obtain ⟨M, m1, m2, m3, m4⟩ := tierC d (lw := lw) (H := H) (j := j) (t := l.getD j 0) (k := k) hT hP (by omega) ok n1 n3 P 0 K (by omega) (by rw [k3.1 1 (by omega) (by omega) (by omega)]; exact e1) (by rw [k3.1 2 (by omega) (by omega) (by omega)]; exact e2) (frH_lwC k3 rl) k2
    have f1 : frL h M := frL_t (frL_H k3) m2
    obtain ⟨Z, z1, z2, z3, z4⟩ := ih (j + 1) M (by omega) (by rw [f1.1 1 (by omega) (by omega) (by omega) (by omega)]; exact e1) (by rw [f1.1 2 (by omega) (by omega) (by omega) (by omega)]; exact e2) (by rw [f1.1 15 (by omega) (by omega) (by omega) (by omega)]; exact e7) (by rw [f1.1 16 (by omega) (by omega) (by omega) (by omega)]; exact er) (frL_lwC f1 rl)
    refine ⟨Z, ?_, frL_t f1 z2, ?_, ?_⟩
    · rw [fE_gather_c22_eq, e7, cF (by simp (disch := omega) only [iN_add, iN_addl, iN_addr, iN_mul, iN_mull, iN_mulr, iN_sub, iN_subl, iN_subr, iN_c, iN_lt, iN_ltl, iN_ltr, iN_le, iN_lel, iN_ler, iN_eq, iN_eql, iN_eqr]; omega), gR_16 (by omega), iN_c (by omega), er j (by omega), Bool.cond_true, k1, bV, show (0 : Int32) = iN 0 from rfl, m1]; exact z1
    · intro w y h1 h2 h3
      by_cases e : y = j
      · subst e
        rw [z4 w y (by omega) (by omega)]; exact m3 w (by omega) h1
      · exact z3 w y h1 (by omega) h3
    · intro w y h1 h2
      rw [z4 w y h1 (by omega), m4 _ (fun v v1 v2 => by omega), k3.1 21 (by omega) (by omega) (by omega)]
/-- the class's dressing -/
def frG (h K : zm_H) : Prop := (∀ a, a ≠ 11 → (a < 13 ∨ 22 < a) → K.1 a = h.1 a) ∧ (∀ b, b ≠ 3 → K.1 11 b = h.1 11 b) ∧ K.2 = h.2
theorem frG_t {h K M : zm_H} (e : frG h K) (f : frG K M) : frG h M := ⟨fun a h1 h2 => (f.1 a h1 h2).trans (e.1 a h1 h2), fun b h1 => (f.2.1 b h1).trans (e.2.1 b h1), f.2.2.trans e.2.2⟩
theorem frQ_G {h K : zm_H} (e : frG h K) : frQ h K := ⟨fun a h1 h2 h3 h4 h5 => e.1 a h1 h2, e.2.1, fun b _ _ _ => by rw [e.1 45 (by omega) (by omega)], e.2.2⟩
theorem frG_L {h K : zm_H} (e : frL h K) : frG h K := ⟨fun a h1 h2 => e.1 a h1 (by omega) (by omega) (by omega), e.2.1, e.2.2⟩
theorem frG_lwM {lw : Option (List (List Nat × List Nat))} {h K : zm_H} (e : frG h K) (r : lwM lw h) : lwM lw K := by
  have e45 := e.1 45 (by omega) (by omega)
  cases lw with
  | none => unfold lwM at *; rw [e45]; exact r
  | some ls => exact ⟨by rw [e45]; exact r.1, r.2.1, r.2.2.1, by rw [e45]; exact r.2.2.2.1, lml_d (e.1 57 (by omega) (by omega)) (e.1 58 (by omega) (by omega)) (e.1 59 (by omega) (by omega)) (e.1 60 (by omega) (by omega)) ls _ _ r.2.2.2.2.1, r.2.2.2.2.2⟩
theorem drG (d : Nat) {z n T : Nat} (hz : z < 6) (hn : n ≤ 60) (hT : T ≤ 8) {h : zm_H} (e3 : h.1 (33 + z) 3 = iN n) : ∃ K, fDr_gather (d + 3) (33 + z) (iN T) h = some (none, K) ∧ K.1 15 7 = iN (gth (h.2 (39 + z)) n T 7 []).length ∧ rowN (K.1 16) (gth (h.2 (39 + z)) n T 7 []) ∧ (∀ a, a ≠ 15 → a ≠ 16 → K.1 a = h.1 a) ∧ K.2 = h.2 := by
  obtain ⟨K, k1, k2, k3, k4, k5, k6⟩ := gatherC d hz hn hT (f := h.2 (39 + z)) 7 [] (zm_ui h 15 7 0) (by simp) (by simp) (fun j hj => absurd hj (by simp)) (ui_s _ _ _ _) (fun j hj => absurd hj (by simp)) (by rw [ui_c (by omega)]; exact e3) (fun _ _ => rfl)
  exact ⟨K, by rw [fDr_gather_eq]; exact k1, k2, k3, fun a h1 h2 => by rw [k4 a h1 h2, ui_f h1], k6⟩
theorem gathE (d : Nat) {lw : Option (List (List Nat × List Nat))} {T P k z n : Nat} (hz : z < 6) (hn : n ≤ 60) (hT : T ≤ 8) (hP : P ≤ 6) (hk : k < 5) {h : zm_H} (ok : pOk h P) (n1 : h.1 1 1 = iN T) (n3 : h.1 1 2 = iN P) (rl : lwC lw h) (e3 : h.1 (33 + z) 3 = iN n) :
    ∃ K, fE_gather (d + 8) (iN z) (iN k) h = some (none, K) ∧ frG h K ∧ K.1 15 7 = iN (gth (h.2 (39 + z)) n T 7 []).length ∧ rowN (K.1 16) (gth (h.2 (39 + z)) n T 7 []) ∧ (∀ w y, w < P → y < (gth (h.2 (39 + z)) n T 7 []).length → K.1 21 (w * 6 + y) = iN (fmn lw h k w ((gth (h.2 (39 + z)) n T 7 []).getD y 0))) := by
  obtain ⟨K, k1, k2, k3, k4, k5⟩ := drG (d + 4) hz hn hT e3
  have go := gth_ok (h.2 (39 + z)) n hT 7 [] (by simp) (fun j hj => absurd hj (by simp))
  have f1 : frG h K := ⟨fun a h1 h2 => k4 a (by omega) (by omega), fun b _ => by rw [k4 11 (by omega) (by omega)], k5⟩
  obtain ⟨M, m1, m2, m3, m4⟩ := placeC d (lw := lw) (H := h) (k := k) hT hP hk go.1 go.2 ok n1 n3 _ 0 K (Nat.zero_add _) (k4 1 (by omega) (by omega)) (k4 2 (by omega) (by omega)) k2 k3 (by
    cases lw with
    | none => exact (f1.2.1 2 (by omega)).trans rl
    | some ls => exact ⟨rl.1, rl.2.1, (f1.2.1 2 (by omega)).trans rl.2.2.1, by rw [k4 12 (by omega) (by omega)]; exact rl.2.2.2.1, rl.2.2.2.2⟩)
  refine ⟨M, ?_, frG_t f1 (frG_L m2), ?_, ?_, fun w y h1 h2 => m3 w y h1 (by omega) h2⟩
  · rw [fE_gather_eq, gQ_32 hz, iN_c (by omega), rt32 hz, n1, Bool.cond_true, k1, bV]; exact m1
  · rw [m2.1 15 (by omega) (by omega) (by omega) (by omega)]; exact k2
  · rw [m2.1 16 (by omega) (by omega) (by omega) (by omega)]; exact k3
theorem places_s (d : Nat) : ∀ (k i : Nat) (h : zm_H), i + k = 6 → ∃ K, fDr_layPlaces_c2 (d + 1) (iN i) h = some (none, K) ∧ (∀ a, a ≠ 20 → K.1 a = h.1 a) ∧ K.2 = h.2 ∧ (∀ p, p < 6 → i ≤ p → K.1 20 p = iN p) ∧ (∀ p, p < i → K.1 20 p = h.1 20 p) := by
  intro k
  induction k with
  | zero =>
    intro i h hi
    obtain rfl : i = 6 := by omega
    refine ⟨h, ?_, fun _ _ => rfl, rfl, fun p h1 h2 => absurd h1 (by omega), fun _ _ => rfl⟩
    rw [fDr_layPlaces_c2_eq, cT (by decide)]
  | succ k ih =>
    intro i h hi
    obtain ⟨K, f, k1, k2, k3, k4⟩ := ih (i + 1) (zm_ui h 20 i (iN i)) (by omega)
    refine ⟨K, ?_, ?_, k2, ?_, ?_⟩
    · rw [fDr_layPlaces_c2_eq, cF (by simp (disch := omega) only [iN_add, iN_addl, iN_addr, iN_mul, iN_mull, iN_mulr, iN_sub, iN_subl, iN_subr, iN_c, iN_lt, iN_ltl, iN_ltr, iN_le, iN_lel, iN_ler, iN_eq, iN_eql, iN_eqr]; omega), gW_20 (by omega), iN_c (by omega), iN_addr]; exact f
    · intro a h1; rw [k1 a h1, ui_f h1]
    · intro p h1 h2
      by_cases e : p = i
      · subst e; rw [k4 p (by omega), ui_s]
      · exact k3 p h1 (by omega)
    · intro p h1
      rw [k4 p (by omega), ui_k (by omega)]
theorem getD_range (m j : Nat) (h : j < m) : (List.range m).getD j 0 = j := by simp [List.getD, h]
theorem map_range (l : List Nat) : (List.range l.length).map (fun j => l.getD j 0) = l := by
  apply List.ext_getElem
  · simp
  · intro i h1 h2
    simp [List.getD, h2]
theorem allDoneC (d : Nat) {N : Nat} (hN0 : 1 ≤ N) (hN : N ≤ 7) {mt : Nat → Nat → Nat} (hmt : ∀ w x, mt w x ≤ 600) {l : List Nat} (hl : l.length ≤ 6) {h : zm_H} (e7 : h.1 15 7 = iN l.length) (e21 : ∀ w y, w < N → y < l.length → h.1 21 (w * 6 + y) = iN (mt w (l.getD y 0))) :
    ∃ K, fDr_allDone (d + 4) (iN N) h = some (some (.int (iN (dn mt N l (fun _ => 0) 0).1)), K) ∧ rowN (K.1 17) (dn mt N l (fun _ => 0) 0).2.1 ∧ rowN (K.1 19) (dn mt N l (fun _ => 0) 0).2.2 ∧ (∀ a, a ≠ 17 → a ≠ 19 → a ≠ 20 → a ≠ 22 → K.1 a = h.1 a) ∧ K.2 = h.2 := by
  obtain ⟨K0, f0, f1, f2, f3, f4⟩ := places_s (d + 2) 6 0 h (by omega)
  obtain ⟨K, k1, k2, k3, k4, k5⟩ := doneC d hN0 hN (mt := fun w x => mt w (l.getD x 0)) (fun w x _ => hmt w _) (xs := List.range l.length) (by rw [List.length_range]; exact hl) (fun x hx => by have := List.mem_range.mp hx; omega) (h := K0) (by rw [List.length_range, f1 15 (by omega)]; exact e7) (fun j hj => by rw [List.length_range] at hj; rw [getD_range _ _ hj]; exact f3 j (by omega) (by omega)) (fun w x h1 h2 => by rw [f1 21 (by omega)]; exact e21 w x h1 (List.mem_range.mp h2))
  rw [dn_map mt N (fun j => l.getD j 0), map_range] at k1 k2 k3
  refine ⟨K, ?_, k2, k3, fun a h1 h2 h3 h4 => by rw [k4 a h1 h2 h4, f1 a h3], by rw [k5, f2]⟩
  rw [fDr_allDone_eq, fDr_layPlaces_eq, show fDr_layPlaces_c2 (d + 2 + 1) 0 h = some (none, K0) from f0, bV, k1, bI]
