/-! dresses of the reference; gather of the class -/
def frD (h K : zm_H) : Prop := (∀ a, a ≠ 65 → a ≠ 45 → (a < 77 ∨ 79 < a) → K.1 a = h.1 a) ∧ (∀ b, b ≠ 48 → K.1 45 b = h.1 45 b) ∧ K.2 = h.2
theorem frD_r (h : zm_H) : frD h h := ⟨fun _ _ _ _ => rfl, fun _ _ => rfl, rfl⟩
theorem frD_T {h K M : zm_H} (e : frD h K) (f : frT K M) : frD h M := ⟨fun a h1 h2 h3 => (f.1 a h1 h2).trans (e.1 a h1 h2 h3), fun b h1 => (f.2.1 b h1).trans (e.2.1 b h1), f.2.2.trans e.2.2⟩
theorem frD_u {h K : zm_H} (e : frD h K) {c : Nat} (hc : 77 ≤ c ∧ c ≤ 79) (k : Nat) (v : Int32) : frD h (zm_ui K c k v) := ⟨fun a h1 h2 h3 => by rw [ui_f (by omega)]; exact e.1 a h1 h2 h3, fun b h1 => by rw [ui_c (by omega)]; exact e.2.1 b h1, e.2.2⟩
theorem dress40 (d : Nat) {N : Nat} (hN : N ≤ 7) {F : Nat → Nat} (hF : ∀ p, p < N → F p < 100000) (x1 l i : Int32) {h : zm_H} (er : ∀ p, p < N → h.1 79 p = iN (F p)) : ∀ (n p b : Nat), p + n = N → b < N → fM_dresses_c40 (d + 1) x1 (iN N) l i (iN b) (iN p) h = fM_dresses_c40 (d + 1) x1 (iN N) l i (iN (ffl F n p b)) (iN N) h := by
  intro n
  induction n with
  | zero => intro p b hp hb; obtain rfl : p = N := by omega
            rfl
  | succ n ih =>
    intro p b hp hb
    have f1 := hF p (by omega)
    have f2 := hF b (by omega)
    rw [fM_dresses_c40_eq, cF (by simp (disch := omega) only [iN_add, iN_addl, iN_addr, iN_mul, iN_mull, iN_mulr, iN_sub, iN_subl, iN_subr, iN_c, iN_lt, iN_ltl, iN_ltr, iN_le, iN_lel, iN_ler, iN_eq, iN_eql, iN_eqr]; omega), gR_79 (by omega), gR_79 (by omega), iN_c (by omega), iN_c (by omega), er p (by omega), er b (by omega), Bool.cond_true, Bool.cond_true, iN_addr, ffl]
    by_cases q : F b ≤ F p
    · rw [cT (by rw [iN_le (by omega) (by omega)]; exact q), if_pos q]; exact ih _ _ (by omega) hb
    · rw [cF (by rw [iN_le (by omega) (by omega)]; exact q), if_neg q]; exact ih _ _ (by omega) (by omega)
theorem dressM_l (d : Nat) {N m : Nat} (hN0 : 1 ≤ N) (hN : N ≤ 7) (hm : m ≤ 6) {mt : Nat → Nat → Nat} (hmt : ∀ w x, w < N → mt w x ≤ 600) {kn : Int32} {h0 : zm_H} (tk : ∀ (w t : Nat) (K : zm_H), w < N → t < 8 → (∃ j, j < m ∧ h0.1 76 j = iN t) → frD h0 K → ∃ K', fM_takesFor d (iN w) (iN t) kn K = some (some (.int (iN (mt w t))), K') ∧ frT K K') (e9 : h0.1 45 49 = iN m) :
    ∀ (xs : List Nat) (i : Nat) (F : Nat → Nat) (l : Nat) (h : zm_H), i + xs.length = m → (∀ x ∈ xs, x < 8) → (∀ p, p < N → F p ≤ 600 * i) → l ≤ 600 * i → (∀ j, j < xs.length → h0.1 76 (i + j) = iN (xs.getD j 0)) → (∀ p, p < N → h.1 79 p = iN (F p)) → frD h0 h →
    ∃ K, fM_dresses_c25 (d + 1) kn (iN N) (iN l) (iN i) h = some (some (.int (iN (dn mt N xs F l).1)), K) ∧ (∀ j, j < xs.length → K.1 77 (i + j) = iN ((dn mt N xs F l).2.1.getD j 0) ∧ K.1 78 (i + j) = iN ((dn mt N xs F l).2.2.getD j 0)) ∧ (∀ j, j < i → K.1 77 j = h.1 77 j ∧ K.1 78 j = h.1 78 j) ∧ frD h0 K := by
  intro xs
  induction xs with
  | nil =>
    intro i F l h hi _ _ _ _ _ fr
    obtain rfl : i = m := by simpa using hi
    refine ⟨h, ?_, fun j hj => absurd hj (by simp), fun _ _ => ⟨rfl, rfl⟩, fr⟩
    rw [fM_dresses_c25_eq, fr.2.1 49 (by omega), e9, cT (by simp (disch := omega) only [iN_add, iN_addl, iN_addr, iN_mul, iN_mull, iN_mulr, iN_sub, iN_subl, iN_subr, iN_c, iN_lt, iN_ltl, iN_ltr, iN_le, iN_lel, iN_ler, iN_eq, iN_eql, iN_eqr]; omega)]; rfl
  | cons x xs ih =>
    intro i F l h hi hx hF hl e76 e79 fr
    rw [List.length_cons] at hi
    have hw := ffl_lt F N (N - 1) 1 0 (by omega) (by omega)
    have fw := hF _ hw
    have hx8 := hx x (List.mem_cons_self ..)
    have mb := hmt _ x hw
    have hff := dress40 d hN (F := F) (fun p hp => by have := hF p hp; omega) kn (iN l) (iN i) e79 (N - 1) 1 0 (by omega) (by omega)
    have e76' := e76 0 (by rw [List.length_cons]; omega)
    rw [Nat.add_zero, List.getD_cons_zero] at e76'
    have e79' := e79 _ hw
    obtain ⟨K1, t1, t2⟩ := tk _ x h hw hx8 ⟨i, by omega, e76'⟩ fr
    have hdn : dn mt N (x :: xs) F l = ((dn mt N xs (updN F (ffl F (N - 1) 1 0) (F (ffl F (N - 1) 1 0) + mt (ffl F (N - 1) 1 0) x)) (max l (F (ffl F (N - 1) 1 0) + mt (ffl F (N - 1) 1 0) x))).1,
      ffl F (N - 1) 1 0 :: (dn mt N xs (updN F (ffl F (N - 1) 1 0) (F (ffl F (N - 1) 1 0) + mt (ffl F (N - 1) 1 0) x)) (max l (F (ffl F (N - 1) 1 0) + mt (ffl F (N - 1) 1 0) x))).2.1,
      (F (ffl F (N - 1) 1 0) + mt (ffl F (N - 1) 1 0) x) :: (dn mt N xs (updN F (ffl F (N - 1) 1 0) (F (ffl F (N - 1) 1 0) + mt (ffl F (N - 1) 1 0) x)) (max l (F (ffl F (N - 1) 1 0) + mt (ffl F (N - 1) 1 0) x))).2.2) := rfl
    rw [hdn]
    generalize ffl F (N - 1) 1 0 = w at *
    generalize mt w x = q at *
    have fr1 : frD h0 K1 := frD_T fr t2
    have HH := ih (i + 1) (updN F w (F w + q)) (max l (F w + q)) (zm_ui (zm_ui (zm_ui K1 79 w (iN (F w + q))) 77 i (iN w)) 78 i (iN (F w + q))) (by omega) (fun y hy => hx y (List.mem_cons_of_mem _ hy)) ?_ (by omega) ?_ ?_ (frD_u (frD_u (frD_u fr1 (by omega) _ _) (by omega) _ _) (by omega) _ _)
    · obtain ⟨K, k1, k2, k3, k4⟩ := HH
      refine ⟨K, ?_, ?_, ?_, k4⟩
      · rw [fM_dresses_c25_eq, fr.2.1 49 (by omega), e9, cF (by simp (disch := omega) only [iN_add, iN_addl, iN_addr, iN_mul, iN_mull, iN_mulr, iN_sub, iN_subl, iN_subr, iN_c, iN_lt, iN_ltl, iN_ltr, iN_le, iN_lel, iN_ler, iN_eq, iN_eql, iN_eqr]; omega)]
        rw [show fM_dresses_c40 (d + 1) kn (iN N) (iN l) (iN i) 0 1 h = fM_dresses_c40 (d + 1) kn (iN N) (iN l) (iN i) (iN w) (iN N) h from hff]
        have h76 : h.1 76 i = iN x := by rw [fr.1 76 (by omega) (by omega) (by omega)]; exact e76'
        rw [fM_dresses_c40_eq, cT (by simp (disch := omega) only [iN_add, iN_addl, iN_addr, iN_mul, iN_mull, iN_mulr, iN_sub, iN_subl, iN_subr, iN_c, iN_lt, iN_ltl, iN_ltr, iN_le, iN_lel, iN_ler, iN_eq, iN_eql, iN_eqr]; omega), gR_79 (by omega), gR_76 (by omega), iN_c (by omega), iN_c (by omega), h76, e79', Bool.cond_true, Bool.cond_true, t1, bI, iN_add]
        simp (disch := omega) only [bI, bJ, bV, cN, zi_0, zi_z, Bool.cond_true, Bool.cond_false, decide_true, decide_false, decide_eq_true_eq, Bool.cond_decide, if_true, if_false, ofN12, Bool.not_not, zi_t, zi_f, gR_2, hR_2, gW_2, hW_2, gR_4, hR_4, gW_4, hW_4, gR_5, hR_5, gW_5, hW_5, gR_6, hR_6, gW_6, hW_6, gR_7, hR_7, gW_7, hW_7, gR_9, hR_9, gW_9, hW_9, gR_10, hR_10, gW_10, hW_10, gR_12, hR_12, gW_12, hW_12, gR_13, hR_13, gW_13, hW_13, gR_16, hR_16, gW_16, hW_16, gR_17, hR_17, gW_17, hW_17, gR_18, hR_18, gW_18, hW_18, gR_19, hR_19, gW_19, hW_19, gR_20, hR_20, gW_20, hW_20, gR_21, hR_21, gW_21, hW_21, gR_22, hR_22, gW_22, hW_22, gR_24, hR_24, gW_24, hW_24, gR_25, hR_25, gW_25, hW_25, gR_27, hR_27, gW_27, hW_27, gR_28, hR_28, gW_28, hW_28, gR_30, hR_30, gW_30, hW_30, gR_31, hR_31, gW_31, hW_31, gR_46, hR_46, gW_46, hW_46, gR_47, hR_47, gW_47, hW_47, gR_48, hR_48, gW_48, hW_48, gR_49, hR_49, gW_49, hW_49, gR_50, hR_50, gW_50, hW_50, gR_51, hR_51, gW_51, hW_51, gR_52, hR_52, gW_52, hW_52, gR_53, hR_53, gW_53, hW_53, gR_54, hR_54, gW_54, hW_54, gR_55, hR_55, gW_55, hW_55, gR_56, hR_56, gW_56, hW_56, gR_57, hR_57, gW_57, hW_57, gR_58, hR_58, gW_58, hW_58, gR_59, hR_59, gW_59, hW_59, gR_60, hR_60, gW_60, hW_60, gR_61, hR_61, gW_61, hW_61, gR_62, hR_62, gW_62, hW_62, gR_63, hR_63, gW_63, hW_63, gR_64, hR_64, gW_64, hW_64, gR_65, hR_65, gW_65, hW_65, gR_66, hR_66, gW_66, hW_66, gR_67, hR_67, gW_67, hW_67, gR_68, hR_68, gW_68, hW_68, gR_69, hR_69, gW_69, hW_69, gR_70, hR_70, gW_70, hW_70, gR_71, hR_71, gW_71, hW_71, gR_72, hR_72, gW_72, hW_72, gR_73, hR_73, gW_73, hW_73, gR_74, hR_74, gW_74, hW_74, gR_76, hR_76, gW_76, hW_76, gR_77, hR_77, gW_77, hW_77, gR_78, hR_78, gW_78, hW_78, gR_79, hR_79, gW_79, hW_79, gR_80, hR_80, gW_80, hW_80, gR_81, hR_81, gW_81, hW_81, gR_82, hR_82, gW_82, hW_82, gR_1000, hR_1000, gR_1001, hR_1001, gR_1002, hR_1002, gR_1003, hR_1003, gJ_39, gJ_40, gJ_41, gJ_42, gJ_43, gJ_44, gJ_75, gQ_32, ui_s, ui_k, ui_c, iN_addr, iN_c, zm_max_iN]
        exact k1
      · intro j hj
        rw [List.length_cons] at hj
        cases j with
        | zero =>
          have := k3 i (by omega)
          rw [Nat.add_zero, this.1, this.2, List.getD_cons_zero, List.getD_cons_zero]
          simp (disch := omega) only [ui_s, ui_c, and_self]
        | succ j =>
          rw [List.getD_cons_succ, List.getD_cons_succ, show i + (j + 1) = i + 1 + j by omega]
          exact k2 j (by omega)
      · intro j hj
        have := k3 j (by omega)
        rw [this.1, this.2]
        simp (disch := omega) only [ui_k, ui_c]
        rw [t2.1 77 (by omega) (by omega), t2.1 78 (by omega) (by omega)]; exact ⟨rfl, rfl⟩
    · intro p hp
      have := hF p hp
      unfold updN; split <;> omega
    · intro j hj
      have := e76 (j + 1) (by rw [List.length_cons]; omega)
      rw [List.getD_cons_succ] at this
      rw [show i + 1 + j = i + (j + 1) by omega]; exact this
    · intro p hp
      unfold updN
      by_cases e : p = w
      · subst e; rw [if_pos rfl]; simp (disch := omega) only [ui_s, ui_c]
      · rw [if_neg e]; simp (disch := omega) only [ui_k, ui_c]; rw [t2.1 79 (by omega) (by omega)]; exact e79 p hp
theorem dress2 (d : Nat) {N : Nat} (hN : N ≤ 7) (kn : Int32) : ∀ (k i : Nat) (h : zm_H), i + k = N → ∃ K, fM_dresses_c2 (d + 1) kn (iN N) (iN i) h = fM_dresses_c25 (d + 1) kn (iN N) (iN 0) (iN 0) K ∧ frD h K ∧ (∀ p, p < N → i ≤ p → K.1 79 p = 0) ∧ (∀ p, p < i → K.1 79 p = h.1 79 p) := by
  intro k
  induction k with
  | zero =>
    intro i h hi
    obtain rfl : i = N := by omega
    refine ⟨h, ?_, frD_r h, fun p h1 h2 => absurd h1 (by omega), fun _ _ => rfl⟩
    rw [fM_dresses_c2_eq, cT (by simp (disch := omega) only [iN_add, iN_addl, iN_addr, iN_mul, iN_mull, iN_mulr, iN_sub, iN_subl, iN_subr, iN_c, iN_lt, iN_ltl, iN_ltr, iN_le, iN_lel, iN_ler, iN_eq, iN_eql, iN_eqr]; omega)]; rfl
  | succ k ih =>
    intro i h hi
    obtain ⟨K, f, k1, k3, k4⟩ := ih (i + 1) (zm_ui h 79 i 0) (by omega)
    refine ⟨K, ?_, ?_, ?_, ?_⟩
    · rw [fM_dresses_c2_eq, cF (by simp (disch := omega) only [iN_add, iN_addl, iN_addr, iN_mul, iN_mull, iN_mulr, iN_sub, iN_subl, iN_subr, iN_c, iN_lt, iN_ltl, iN_ltr, iN_le, iN_lel, iN_ler, iN_eq, iN_eql, iN_eqr]; omega), gW_79 (by omega), iN_c (by omega), iN_addr]; exact f
    · exact ⟨fun a h1 h2 h3 => by rw [k1.1 a h1 h2 h3, ui_f (by omega)], fun b h1 => by rw [k1.2.1 b h1, ui_c (by omega)], k1.2.2⟩
    · intro p h1 h2
      by_cases e : p = i
      · subst e; rw [k4 p (by omega), ui_s]
      · exact k3 p h1 (by omega)
    · intro p h1
      rw [k4 p (by omega), ui_k (by omega)]
theorem dressM (d : Nat) {N : Nat} (hN0 : 1 ≤ N) (hN : N ≤ 7) {mt : Nat → Nat → Nat} (hmt : ∀ w x, w < N → mt w x ≤ 600) {kn : Int32} {h0 : zm_H} {xs : List Nat} (hl : xs.length ≤ 6) (hx : ∀ x ∈ xs, x < 8) (tk : ∀ (w t : Nat) (K : zm_H), w < N → t < 8 → (∃ j, j < xs.length ∧ h0.1 76 j = iN t) → frD h0 K → ∃ K', fM_takesFor d (iN w) (iN t) kn K = some (some (.int (iN (mt w t))), K') ∧ frT K K') (e9 : h0.1 45 49 = iN xs.length) (e76 : rowN (h0.1 76) xs) :
    ∃ K, fM_dresses (d + 1) kn (iN N) h0 = some (some (.int (iN (dn mt N xs (fun _ => 0) 0).1)), K) ∧ rowN (K.1 77) (dn mt N xs (fun _ => 0) 0).2.1 ∧ rowN (K.1 78) (dn mt N xs (fun _ => 0) 0).2.2 ∧ frD h0 K := by
  obtain ⟨K0, f0, f1, f3, f4⟩ := dress2 d hN kn N 0 h0 (by omega)
  obtain ⟨K, k1, k2, k3, k4⟩ := dressM_l d hN0 hN hl hmt tk e9 xs 0 (fun _ => 0) 0 K0 (by omega) hx (fun _ _ => Nat.zero_le _) (by omega) (fun j hj => by rw [Nat.zero_add]; exact e76 j hj) (fun p hp => by rw [f3 p hp (by omega)]; rfl) f1
  have dl := dn_len mt N xs (fun _ => 0) 0
  refine ⟨K, ?_, ?_, ?_, k4⟩
  · rw [fM_dresses_eq, show (0 : Int32) = iN 0 from rfl, f0]; exact k1
  · intro j hj
    rw [dl.1] at hj
    have := (k2 j hj).1
    rw [Nat.zero_add] at this; exact this
  · intro j hj
    rw [dl.2] at hj
    have := (k2 j hj).2
    rw [Nat.zero_add] at this; exact this
/-! how long a TIER takes -/
def mvI (lw : Option (List (List Nat × List Nat))) (g : Nat → Int32) (b s p : Int32) : Int32 := cond (!(decide ((trs lw g s 60 1 b).1 = -2))) (p * (trs lw g s 60 1 b).1) (p * 60)
theorem mvI_n (lw : Option (List (List Nat × List Nat))) (g : Nat → Int32) (b s : Int32) {p : Int32} (h1 : 1 ≤ p) (h2 : p ≤ 9) : ∃ m, m ≤ 600 ∧ mvI lw g b s p = iN m := by
  obtain ⟨a, ha, rfl⟩ := iN_exn (x := p) (c := 10) 10 rfl (by decide) (by grind)
  unfold mvI
  rcases trs_r lw g s 60 1 b with e | ⟨j, j1, j2, j3⟩
  · rw [decide_eq_true e]
    exact ⟨a * 60, by omega, iN_mulr 60 a⟩
  · rw [j3, decide_eq_false (iN_ne2 (by omega))]
    refine ⟨a * j, ?_, iN_mul a j⟩
    have := Nat.mul_le_mul (show a ≤ 9 by omega) (show j ≤ 60 by omega)
    omega
def mnN (lw : Option (List (List Nat × List Nat))) (g : Nat → Int32) (b s p : Int32) : Nat := min 600 (mvI lw g b s p).toNatClampNeg
theorem mnN_e (lw : Option (List (List Nat × List Nat))) (g : Nat → Int32) (b s : Int32) {p : Int32} (h1 : 1 ≤ p) (h2 : p ≤ 9) : mvI lw g b s p = iN (mnN lw g b s p) := by
  obtain ⟨m, m1, m2⟩ := mvI_n lw g b s h1 h2
  unfold mnN
  rw [m2, iN_c (by omega), Nat.min_eq_right m1]
theorem mnN_le (lw : Option (List (List Nat × List Nat))) (g : Nat → Int32) (b s p : Int32) : mnN lw g b s p ≤ 600 := Nat.min_le_left _ _
theorem takesM (d : Nat) {lw : Option (List (List Nat × List Nat))} {g : Nat → Int32} {t k w : Nat} (ht : t < 8) (hk : k < 5) (hw : w < 7) {b s p : Int32} (hs : ¬ s = 0) (h1 : 1 ≤ p) (h2 : p ≤ 9) {h : zm_H} (rl : lwM lw h) (rE : mE g t k h) (e53 : h.1 53 w = p) (e54 : h.1 54 w = s) (e55 : h.1 55 w = b) :
    ∃ K, fM_takesFor (d + 7) (iN w) (iN t) (iN k) h = some (some (.int (iN (mnN lw g b s p))), K) ∧ frT h K := by
  obtain ⟨K, k1, k2, k3⟩ := triesM d ht hk hs b rl rE
  refine ⟨K, ?_, k2⟩
  rw [fM_takesFor_eq, gR_55 hw, gR_54 hw, iN_c (by omega), e55, e54, Bool.cond_true, Bool.cond_true, k1, bI, gR_53 hw, k2.1 53 (by omega) (by omega), e53, Bool.cond_true, cI, ← mnN_e lw g b s h1 h2]; rfl
theorem minutesC (d : Nat) {lw : Option (List (List Nat × List Nat))} {g : Nat → Int32} {T P w : Nat} (hT : T ≤ 8) (hP : P ≤ 6) (hw : w < P) {h : zm_H} (n1 : h.1 1 1 = iN T) (n3 : h.1 1 2 = iN P) (hs : ¬ h.1 2 (10 * 8 + w) = 0) (h1 : 1 ≤ h.1 2 (9 * 8 + w)) (h2 : h.1 2 (9 * 8 + w) ≤ 9) (rl : lwC lw h) (rE : cE g h) :
    ∃ K, fE_minutesOf (d + 6) (iN w) h = some (some (.int (iN (mnN lw g (h.1 2 (11 * 8 + w)) (h.1 2 (10 * 8 + w)) (h.1 2 (9 * 8 + w))))), K) ∧ frH h K ∧ cE g K := by
  obtain ⟨K, k1, k2, k3, k4⟩ := triesC d hs (h.1 2 (11 * 8 + w)) rl rE
  have K1 := k2.1 1 (by omega) (by omega) (by omega)
  have K2 := k2.1 2 (by omega) (by omega) (by omega)
  refine ⟨K, ?_, k2, k3⟩
  rw [fE_minutesOf_eq, read_s (d + 2) hT (by omega) n1 n3 (x := 11) (w := 11) rfl (by omega) hw, bI, read_s (d + 2) hT (by omega) n1 n3 (x := 10) (w := 10) rfl (by omega) hw, bI, k1, bI]
  rw [read_s (d + 2) hT (by omega) (by rw [K1]; exact n1) (by rw [K1]; exact n3) (x := 9) (w := 9) rfl (by omega) hw, bI, K2, cI, ← mnN_e lw g _ _ h1 h2]; rfl
