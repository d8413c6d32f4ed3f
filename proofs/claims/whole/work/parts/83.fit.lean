/-! fit, wear -/
def gs7 (g : Nat → Int32) (n : Nat) : Nat → Int32 := fun i => if i = 7 then iN n else g i
def gs5 (g : Nat → Int32) (n : Nat) : Nat → Int32 := fun i => if i = 5 then iN n else g i
def gs2v (g : Nat → Int32) (n : Nat) : Nat → Int32 := fun i => if i = 2 then iN n else g i
theorem gN_7 {g : Nat → Int32} (r : gR g) {n : Nat} (h1 : 20 ≤ n) (h2 : n ≤ 60) : gR (gs7 g n) := by
  obtain ⟨r1, r2, r3, r4, r5, r6, r7, r8⟩ := r
  exact ⟨r1, r2, r3, r4, r5, ⟨by show 20 ≤ iN n; simp (disch := omega) only [iN_add, iN_addl, iN_addr, iN_mul, iN_mull, iN_mulr, iN_sub, iN_subl, iN_subr, iN_c, iN_lt, iN_ltl, iN_ltr, iN_le, iN_lel, iN_ler, iN_eq, iN_eql, iN_eqr]; exact h1, by show iN n ≤ 60; simp (disch := omega) only [iN_add, iN_addl, iN_addr, iN_mul, iN_mull, iN_mulr, iN_sub, iN_subl, iN_subr, iN_c, iN_lt, iN_ltl, iN_ltr, iN_le, iN_lel, iN_ler, iN_eq, iN_eql, iN_eqr]; exact h2⟩, r7, r8⟩
theorem gN_5 {g : Nat → Int32} (r : gR g) {n : Nat} (h2 : n ≤ 99) : gR (gs5 g n) := by
  obtain ⟨r1, r2, r3, r4, r5, r6, r7, r8⟩ := r
  exact ⟨r1, r2, r3, ⟨by show 0 ≤ iN n; rw [show (0 : Int32) = iN 0 from rfl, iN_le (by omega) (by omega)]; omega, by show iN n ≤ 99; simp (disch := omega) only [iN_add, iN_addl, iN_addr, iN_mul, iN_mull, iN_mulr, iN_sub, iN_subl, iN_subr, iN_c, iN_lt, iN_ltl, iN_ltr, iN_le, iN_lel, iN_ler, iN_eq, iN_eql, iN_eqr]; exact h2⟩, r5, r6, r7, r8⟩
theorem gN_2 {g : Nat → Int32} (r : gR g) {n : Nat} (h1 : 1 ≤ n) (h2 : n ≤ 9) : gR (gs2v g n) := by
  obtain ⟨r1, r2, r3, r4, r5, r6, r7, r8⟩ := r
  exact ⟨r1, ⟨by show 1 ≤ iN n; simp (disch := omega) only [iN_add, iN_addl, iN_addr, iN_mul, iN_mull, iN_mulr, iN_sub, iN_subl, iN_subr, iN_c, iN_lt, iN_ltl, iN_ltr, iN_le, iN_lel, iN_ler, iN_eq, iN_eql, iN_eqr]; exact h1, by show iN n ≤ 9; simp (disch := omega) only [iN_add, iN_addl, iN_addr, iN_mul, iN_mull, iN_mulr, iN_sub, iN_subl, iN_subr, iN_c, iN_lt, iN_ltl, iN_ltr, iN_le, iN_lel, iN_ler, iN_eq, iN_eql, iN_eqr]; exact h2⟩, r3, r4, r5, r6, r7, r8⟩
/-- but for one number -/
def cEx (j : Nat) (g : Nat → Int32) (h : zm_H) : Prop := ∀ i, 1 ≤ i → i ≤ 9 → i ≠ j → h.1 14 i = g i
theorem cEx_set {g : Nat → Int32} {h : zm_H} {j : Nat} (r : cEx j g h) (n : Nat) : cE (fun i => if i = j then iN n else g i) (zm_ui h 14 j (iN n)) := by
  intro i h1 h2
  by_cases q : i = j
  · subst q
    rw [ui_s]; exact (if_pos rfl).symm
  · rw [ui_k q]; exact (r i h1 h2 q).trans (if_neg q).symm
def fitq (lw : Option (List (List Nat × List Nat))) (g : Nat → Int32) (n : Nat) : Bool := !decide (lst (prt lw (gs7 g n)) 201 0 = -2)
theorem lst_s (p : Nat → Bool) (k b : Nat) : lst p (k + 1) b = if p b = true then iN b else lst p k (b + 1) := rfl
theorem fitC0 (d : Nat) {lw : Option (List (List Nat × List Nat))} {g : Nat → Int32} (r : gR g) : ∀ (k i : Nat) (h : zm_H), i + k = 41 → lwC lw h → cEx 7 g h → ∃ K, fE_fit_c28 (d + 7) 0 (iN i) h = some (some (.int (lst (fitq lw g) k (20 + i))), K) ∧ frH h K := by
  intro k
  induction k with
  | zero =>
    intro i h hi _ _
    obtain rfl : i = 41 := by omega
    refine ⟨h, ?_, frH_r h⟩
    rw [fE_fit_c28_eq, cT (by decide)]; rfl
  | succ k ih =>
    intro i h hi rl rE
    obtain ⟨K, k1, k2⟩ := leastC d (lw := lw) (gN_7 r (by omega : 20 ≤ 20 + i) (by omega)) (h := zm_ui h 14 7 (iN (20 + i))) (frH_lwC (frH_14 _ _ _) rl) (cEx_set rE (20 + i))
    have f1 : frH h K := frH_t (frH_14 _ _ _) (frH_C k2)
    have e14 := k2.1 14 (by omega) (by omega)
    rw [fE_fit_c28_eq, cF (by simp (disch := omega) only [iN_add, iN_addl, iN_addr, iN_mul, iN_mull, iN_mulr, iN_sub, iN_subl, iN_subr, iN_c, iN_lt, iN_ltl, iN_ltr, iN_le, iN_lel, iN_ler, iN_eq, iN_eql, iN_eqr]; omega), cN, cT rfl, iN_addl, k1, bI, lst_s (fitq lw g)]
    by_cases q : lst (prt lw (gs7 g (20 + i))) 201 0 = -2
    · rw [cT q, if_neg (by unfold fitq; rw [decide_eq_true q]; simp), iN_addr]
      obtain ⟨M, m1, m2⟩ := ih (i + 1) K (by omega) (frH_lwC f1 rl) (fun j h1 h2 h3 => by rw [e14, ui_k h3]; exact rE j h1 h2 h3)
      exact ⟨M, m1, frH_t f1 m2⟩
    · rw [cF q, if_pos (by unfold fitq; rw [decide_eq_false q]; rfl), e14, ui_s]
      exact ⟨K, rfl, f1⟩
theorem fitC1 (d : Nat) {lw : Option (List (List Nat × List Nat))} {g : Nat → Int32} (r : gR g) {w : Int32} (hw : ¬ w = 0) : ∀ (k i : Nat) (h : zm_H), i + k = 41 → lwC lw h → cEx 7 g h → ∃ K, fE_fit_c28 (d + 7) w (iN i) h = some (some (.int (gst (fitq lw g) 20 k)), K) ∧ frH h K := by
  intro k
  induction k with
  | zero =>
    intro i h hi _ _
    obtain rfl : i = 41 := by omega
    refine ⟨h, ?_, frH_r h⟩
    rw [fE_fit_c28_eq, cT (by decide)]; rfl
  | succ k ih =>
    intro i h hi rl rE
    have ei : 60 - i = 20 + k := by omega
    obtain ⟨K, k1, k2⟩ := leastC d (lw := lw) (gN_7 r (by omega : 20 ≤ 20 + k) (by omega)) (h := zm_ui h 14 7 (iN (20 + k))) (frH_lwC (frH_14 _ _ _) rl) (cEx_set rE (20 + k))
    have f1 : frH h K := frH_t (frH_14 _ _ _) (frH_C k2)
    have e14 := k2.1 14 (by omega) (by omega)
    rw [fE_fit_c28_eq, cF (by simp (disch := omega) only [iN_add, iN_addl, iN_addr, iN_mul, iN_mull, iN_mulr, iN_sub, iN_subl, iN_subr, iN_c, iN_lt, iN_ltl, iN_ltr, iN_le, iN_lel, iN_ler, iN_eq, iN_eql, iN_eqr]; omega), cN, cF hw, iN_subl (by omega), ei, k1, bI, gst]
    by_cases q : lst (prt lw (gs7 g (20 + k))) 201 0 = -2
    · rw [cT q, if_neg (by unfold fitq; rw [decide_eq_true q]; simp), iN_addr]
      obtain ⟨M, m1, m2⟩ := ih (i + 1) K (by omega) (frH_lwC f1 rl) (fun j h1 h2 h3 => by rw [e14, ui_k h3]; exact rE j h1 h2 h3)
      exact ⟨M, m1, frH_t f1 m2⟩
    · rw [cF q, if_pos (by unfold fitq; rw [decide_eq_false q]; rfl), e14, ui_s]
      exact ⟨K, rfl, f1⟩
/-- but for one of the reference's numbers -/
theorem mE_7 {g : Nat → Int32} {t k : Nat} {h : zm_H} (r : mE g t k h) {K : zm_H} {n : Nat} (e1 : ∀ a, a ≠ 65 → a ≠ 45 → K.1 a = h.1 a) (e2 : ∀ b, b ≠ 8 → K.1 45 b = h.1 45 b) (e3 : K.1 45 8 = iN n) : mE (gs7 g n) t k K := by
  obtain ⟨g1, g2, g3, g4, g5, g6, g7, g8, g9⟩ := r
  exact ⟨by rw [e1 46 (by omega) (by omega)]; exact g1, by rw [e1 47 (by omega) (by omega)]; exact g2, by rw [e1 48 (by omega) (by omega)]; exact g3, by rw [e1 49 (by omega) (by omega)]; exact g4, by rw [e1 50 (by omega) (by omega)]; exact g5, by rw [e1 52 (by omega) (by omega)]; exact g6, e3, by rw [e2 9 (by omega)]; exact g8, by rw [e2 10 (by omega)]; exact g9⟩
theorem lwM_8 {lw : Option (List (List Nat × List Nat))} {h K : zm_H} (e1 : ∀ a, a ≠ 65 → a ≠ 45 → K.1 a = h.1 a) (e2 : ∀ b, b ≠ 8 → K.1 45 b = h.1 45 b) (r : lwM lw h) : lwM lw K := by
  cases lw with
  | none => exact (e2 17 (by omega)).trans r
  | some ls => exact ⟨(e2 17 (by omega)).trans r.1, r.2.1, r.2.2.1, (e2 18 (by omega)).trans r.2.2.2.1, lml_d (e1 57 (by omega) (by omega)) (e1 58 (by omega) (by omega)) (e1 59 (by omega) (by omega)) (e1 60 (by omega) (by omega)) ls _ _ r.2.2.2.2.1, r.2.2.2.2.2⟩
theorem fitM (d : Nat) {lw : Option (List (List Nat × List Nat))} {g : Nat → Int32} {t k : Nat} {a : Int32} (e1 : a / 10 = iN t) (e2 : a - a / 10 * 10 = iN k) (ht : t < 8) (hk : k < 5) (w x3 : Int32) {h0 : zm_H} (rl : lwM lw h0) (rE : mE g t k h0) : ∀ (m n : Nat) (l s : Int32) (h : zm_H), n + m = 61 → (∀ a, a ≠ 65 → a ≠ 45 → h.1 a = h0.1 a) → (∀ b, b ≠ 8 → h.1 45 b = h0.1 45 b) → h.2 = h0.2 → h.1 45 8 = iN n →
    ∃ K, fM_fit_c38 (d + 8) a w x3 l s h = some (some (.int (cond (!(decide (w = 0))) (gs2 (fitq lw g) m n s) (ls2 (fitq lw g) m n l))), K) ∧ (∀ a, a ≠ 65 → a ≠ 45 → K.1 a = h0.1 a) ∧ (∀ b, b ≠ 8 → K.1 45 b = h0.1 45 b) ∧ K.2 = h0.2 ∧ K.1 45 8 = x3 := by
  intro m
  induction m with
  | zero =>
    intro n l s h hn f1 f2 f3 f4
    obtain rfl : n = 61 := by omega
    refine ⟨zm_ui h 45 8 x3, ?_, fun a h1 h2 => by rw [ui_f h2]; exact f1 a h1 h2, fun b h1 => by rw [ui_k h1]; exact f2 b h1, f3, ui_s _ _ _ _⟩
    rw [fM_fit_c38_eq, f4, cT (by decide), cI]; rfl
  | succ m ih =>
    intro n l s h hn f1 f2 f3 f4
    obtain ⟨K, k1, k2⟩ := rightsM d ht hk 1 (lwM_8 f1 f2 rl) (mE_7 rE f1 f2 f4)
    have K45 : K.1 45 = h.1 45 := k2.1 45 (by omega)
    have hb := (cp2_ge (prt lw (gs7 g n)) 201 0 0).2
    have hlc := lst_cp (prt lw (gs7 g n)) 201 0 (by omega)
    have nx : ∀ (l s : Int32), ∃ M, fM_fit_c38 (d + 8) a w x3 l s (zm_ui K 45 8 (iN (n + 1))) = some (some (.int (cond (!(decide (w = 0))) (gs2 (fitq lw g) m (n + 1) s) (ls2 (fitq lw g) m (n + 1) l))), M) ∧ (∀ a, a ≠ 65 → a ≠ 45 → M.1 a = h0.1 a) ∧ (∀ b, b ≠ 8 → M.1 45 b = h0.1 45 b) ∧ M.2 = h0.2 ∧ M.1 45 8 = x3 := by
      intro l s
      refine ih (n + 1) l s _ (by omega) ?_ ?_ ?_ (ui_s _ _ _ _)
      · intro a h1 h2; rw [ui_f h2, k2.1 a h1]; exact f1 a h1 h2
      · intro b h1; rw [ui_k h1, K45]; exact f2 b h1
      · exact k2.2.trans f3
    rw [fM_fit_c38_eq, f4, cF (by simp (disch := omega) only [iN_add, iN_addl, iN_addr, iN_mul, iN_mull, iN_mulr, iN_sub, iN_subl, iN_subr, iN_c, iN_lt, iN_ltl, iN_ltr, iN_le, iN_lel, iN_ler, iN_eq, iN_eql, iN_eqr]; omega), e2, e1, k1, bI, rts_1, K45, f4, iN_addr, gs2, ls2]
    by_cases q : fitq lw g n = true
    · have q0 : ¬ lst (prt lw (gs7 g n)) 201 0 = -2 := by
        unfold fitq at q
        intro e; rw [decide_eq_true e] at q; simp at q
      have q1 : ¬ iN (cp2 (prt lw (gs7 g n)) 201 0 0) = 0 := by simp (disch := omega) only [iN_add, iN_addl, iN_addr, iN_mul, iN_mull, iN_mulr, iN_sub, iN_subl, iN_subr, iN_c, iN_lt, iN_ltl, iN_ltr, iN_le, iN_lel, iN_ler, iN_eq, iN_eql, iN_eqr]; exact fun e => q0 (hlc.mpr e)
      rw [cN, cF q1, if_pos q]
      by_cases ql : l = -2
      · rw [if_pos ⟨q, ql⟩, cN, cT ql]; exact nx _ _
      · rw [if_neg (fun e => ql e.2), cN, cF ql]; exact nx _ _
    · have q0 : lst (prt lw (gs7 g n)) 201 0 = -2 := by
        unfold fitq at q
        simpa using q
      have q1 : iN (cp2 (prt lw (gs7 g n)) 201 0 0) = 0 := by rw [hlc.mp q0]; rfl
      rw [cN, cT q1, if_neg q, if_neg (fun e => q e.1)]; exact nx _ _
theorem K_fit (d : Nat) {L : Nat} {xs : Nat → Int32} {h : zm_H} (r : RR L xs h) (a w : Int32) : okC L xs (fE_fit (d + 20) a w) (fM_fit (d + 20) a w) h := by
  have r0 := r
  obtain ⟨T, P, D, A, S, B, Q, W, N, C, T', Lw, G, I, Bd, Sh⟩ := r
  have N0 := N
  obtain ⟨⟨hT, hP, n1, n2, n3, n4⟩, N1, N2, N3⟩ := N
  obtain ⟨lw, l1, l2⟩ := rL_lw Lw
  cases q : tkB T a
  · refine okC_same r0 (-1) ?_ ?_
    · rw [fE_fit_eq, tkE (d + 16) a n1 n3, q, bI, cT (by decide)]
    · rw [fM_fit_eq, tkM (d + 16) hT a n2, q, bI, cT (by decide)]
  · obtain ⟨t, k, ht, hk, e1, e2⟩ := tk_ex hT q
    by_cases q3 : w < 0 ∨ 1 < w
    · refine okC_same r0 (-1) ?_ ?_
      · rw [fE_fit_eq, tkE (d + 16) a n1 n3, q, bI, cF (by decide)]
        by_cases q4 : w < 0
        · rw [cT q4]
        · rw [cF q4, cF (by grind)]
      · rw [fM_fit_eq, tkM (d + 16) hT a n2, q, bI, cF (by decide), within_s, show (decide (0 ≤ w) && decide (w ≤ 1)) = false by grind]; rfl
    · have gr := gR_of N0 ht hk
      obtain ⟨K, k1, k2, k3⟩ := hung_s (d + 14) e1 e2 hT hP n1 n3 ht hk
      have hM : ∀ K2, frH h K2 → ∃ M, fM_fit (d + 20) a w K2 = some (some (.int (cond (!(decide (w = 0))) (gs2 (fitq lw (gOf h t k)) 41 20 (-2)) (ls2 (fitq lw (gOf h t k)) 41 20 (-2)))), M) ∧ RR L xs M := by
        intro K2 f2
        obtain ⟨M, m1, m2, m3, m4, m5⟩ := fitM (d + 12) (t := t) (k := k) e1 e2 (by omega) hk w (K2.1 45 8) (frH_lwM f2 l2) (frH_mE f2 (mE_of N0 ht hk)) 41 20 (-2) (-2) (zm_ui K2 45 8 20) (by omega) (fun a h1 h2 => ui_f h2) (fun b h1 => ui_k h1) rfl (ui_s _ _ _ _)
        refine ⟨M, ?_, RR_q r0 (frQ_t (frQ_H f2) ⟨fun a h1 h2 h3 h4 h5 => m2 a (by omega) h3, fun b _ => by rw [m2 11 (by omega) (by omega)], fun b _ _ _ => ?_, m4⟩)⟩
        · rw [fM_fit_eq, tkM (d + 16) hT a (by rw [f2.1 45 (by omega) (by omega) (by omega)]; exact n2), q, bI, cF (by decide), within_s, show (decide (0 ≤ w) && decide (w ≤ 1)) = true by grind, bI, cN, cF (by decide)]; exact m1
        · by_cases e : b = 8
          · subst e; exact m5
          · exact m3 b e
      have hE : fE_fit (d + 20) a w h = fE_fit_c28 (d + 20) w (iN 0) K := by
        rw [fE_fit_eq, tkE (d + 16) a n1 n3, q, bI, cF (by decide), cF (by grind), cT (by grind), k1, bQ]; rfl
      by_cases hw : w = 0
      · subst hw
        obtain ⟨K2, c1, c2⟩ := fitC0 (d + 13) gr 41 0 K (by omega) (frH_lwC k3 l1) (fun i h1 h2 _ => k2 i h1 h2)
        obtain ⟨M, m1, m2⟩ := hM K2 (frH_t k3 c2)
        refine ⟨lst (fitq lw (gOf h t k)) 41 20, K2, M, by rw [hE]; exact c1, ?_, m2⟩
        rw [m1, decide_eq_true rfl, Bool.not_true, Bool.cond_false, ls2_lst _ _ _ (by omega)]
      · obtain ⟨K2, c1, c2⟩ := fitC1 (d + 13) gr hw 41 0 K (by omega) (frH_lwC k3 l1) (fun i h1 h2 _ => k2 i h1 h2)
        obtain ⟨M, m1, m2⟩ := hM K2 (frH_t k3 c2)
        refine ⟨gst (fitq lw (gOf h t k)) 20 41, K2, M, by rw [hE]; exact c1, ?_, m2⟩
        have e := gs2_gst (fitq lw (gOf h t k)) 20 41 0
        rw [Nat.add_zero, Nat.zero_add] at e
        rw [m1, decide_eq_false hw, Bool.not_false, Bool.cond_true, ← e]; rfl
def wrp (lw : Option (List (List Nat × List Nat))) (g : Nat → Int32) (b : Int32) (v : Nat) : Bool := rgt (gs5 g v) b (b - clo lw (gs5 g v) b)
def wrf (p : Nat → Bool) : Nat → Nat → Int32 → Int32
  | 0, _, x => x
  | n + 1, v, x => if p v = true then wrf p n (v + 1) (iN v) else x
theorem wearC (d : Nat) {lw : Option (List (List Nat × List Nat))} {g : Nat → Int32} (r : gR g) {b : Int32} (hb : 0 ≤ b) (hb2 : b ≤ 200) : ∀ (n v : Nat) (x : Int32) (h : zm_H), v + n = 100 → lwC lw h → cEx 5 g h → ∃ K, fE_wear_c30 (d + 6) b x (iN v) h = some (some (.int (wrf (wrp lw g b) n v x)), K) ∧ frH h K := by
  intro n
  induction n with
  | zero =>
    intro v x h hv _ _
    obtain rfl : v = 100 := by omega
    refine ⟨h, ?_, frH_r h⟩
    rw [fE_wear_c30_eq, cT (by decide)]; rfl
  | succ n ih =>
    intro v x h hv rl rE
    obtain ⟨K, k1, k2⟩ := rightAtC d (lw := lw) (gN_5 r (by omega : v ≤ 99)) (h := zm_ui h 14 5 (iN v)) (frH_lwC (frH_14 _ _ _) rl) (cEx_set rE v) hb hb2
    have f1 : frH h K := frH_t (frH_14 _ _ _) (frH_C k2)
    have e14 := k2.1 14 (by omega) (by omega)
    rw [fE_wear_c30_eq, cF (by simp (disch := omega) only [iN_add, iN_addl, iN_addr, iN_mul, iN_mull, iN_mulr, iN_sub, iN_subl, iN_subr, iN_c, iN_lt, iN_ltl, iN_ltr, iN_le, iN_lel, iN_ler, iN_eq, iN_eql, iN_eqr]; omega), k1, bI, zi_0, wrf, Bool.not_not]
    by_cases q : wrp lw g b v = true
    · rw [show rgt (gs5 g v) b (b - clo lw (gs5 g v) b) = true from q, if_pos q, Bool.cond_true, iN_addr]
      obtain ⟨M, m1, m2⟩ := ih (v + 1) (iN v) K (by omega) (frH_lwC f1 rl) (fun j h1 h2 h3 => by rw [e14, ui_k h3]; exact rE j h1 h2 h3)
      exact ⟨M, m1, frH_t f1 m2⟩
    · rw [show rgt (gs5 g v) b (b - clo lw (gs5 g v) b) = false by simpa [wrp] using q, if_neg q]
      exact ⟨K, rfl, f1⟩
theorem mE_5 {g : Nat → Int32} {t k : Nat} {h : zm_H} (r : mE g t k h) {K : zm_H} {n : Nat} (e1 : ∀ a, a ≠ 65 → a ≠ 50 → K.1 a = h.1 a) (e3 : K.1 50 t = iN n) : mE (gs5 g n) t k K := by
  obtain ⟨g1, g2, g3, g4, g5, g6, g7, g8, g9⟩ := r
  have e45 := e1 45 (by omega) (by omega)
  exact ⟨by rw [e1 46 (by omega) (by omega)]; exact g1, by rw [e1 47 (by omega) (by omega)]; exact g2, by rw [e1 48 (by omega) (by omega)]; exact g3, by rw [e1 49 (by omega) (by omega)]; exact g4, e3, by rw [e1 52 (by omega) (by omega)]; exact g6, by rw [e45]; exact g7, by rw [e45]; exact g8, by rw [e45]; exact g9⟩
theorem lwM_x {c : Nat} (hc : c = 47 ∨ c = 50) {lw : Option (List (List Nat × List Nat))} {h K : zm_H} (e1 : ∀ a, a ≠ 65 → a ≠ c → K.1 a = h.1 a) (r : lwM lw h) : lwM lw K := by
  have e45 := e1 45 (by omega) (by omega)
  cases lw with
  | none => unfold lwM at *; rw [e45]; exact r
  | some ls => exact ⟨by rw [e45]; exact r.1, r.2.1, r.2.2.1, by rw [e45]; exact r.2.2.2.1, lml_d (e1 57 (by omega) (by omega)) (e1 58 (by omega) (by omega)) (e1 59 (by omega) (by omega)) (e1 60 (by omega) (by omega)) ls _ _ r.2.2.2.2.1, r.2.2.2.2.2⟩
theorem wearM (d : Nat) {lw : Option (List (List Nat × List Nat))} {g : Nat → Int32} {t k : Nat} {a : Int32} (e2 : a - a / 10 * 10 = iN k) (ht : t < 8) (hk : k < 5) (b x4 : Int32) {h0 : zm_H} (rl : lwM lw h0) (rE : mE g t k h0) : ∀ (n v : Nat) (x : Int32) (h : zm_H), v + n = 100 → (∀ a, a ≠ 65 → a ≠ 50 → h.1 a = h0.1 a) → (∀ b, b ≠ t → h.1 50 b = h0.1 50 b) → h.2 = h0.2 →
    ∃ K, fM_wear_c37 (d + 7) a b (iN t) x4 x (iN v) h = some (some (.int (wrf (wrp lw g b) n v x)), K) ∧ (∀ a, a ≠ 65 → a ≠ 50 → K.1 a = h0.1 a) ∧ (∀ b, b ≠ t → K.1 50 b = h0.1 50 b) ∧ K.2 = h0.2 ∧ K.1 50 t = x4 := by
  intro n
  induction n with
  | zero =>
    intro v x h hv f1 f2 f3
    obtain rfl : v = 100 := by omega
    refine ⟨zm_ui h 50 t x4, ?_, fun a h1 h2 => by rw [ui_f h2]; exact f1 a h1 h2, fun b h1 => by rw [ui_k h1]; exact f2 b h1, f3, ui_s _ _ _ _⟩
    rw [fM_wear_c37_eq, cT (by decide), gW_50 ht, iN_c (by omega)]; rfl
  | succ n ih =>
    intro v x h hv f1 f2 f3
    have u1 : ∀ a, a ≠ 65 → a ≠ 50 → (zm_ui h 50 t (iN v)).1 a = h0.1 a := fun a h1 h2 => by rw [ui_f h2]; exact f1 a h1 h2
    obtain ⟨K, k1, k2⟩ := hangsM d ht hk (lwM_x (.inr rfl) u1 rl) (mE_5 rE u1 (ui_s _ _ _ _)) b
    rw [fM_wear_c37_eq, cF (by simp (disch := omega) only [iN_add, iN_addl, iN_addr, iN_mul, iN_mull, iN_mulr, iN_sub, iN_subl, iN_subr, iN_c, iN_lt, iN_ltl, iN_ltr, iN_le, iN_lel, iN_ler, iN_eq, iN_eql, iN_eqr]; omega), gW_50 ht, iN_c (by omega), e2, Bool.cond_true, k1, bI, zi_0, wrf, Bool.not_not]
    have v1 : ∀ a, a ≠ 65 → a ≠ 50 → K.1 a = h0.1 a := fun a h1 h2 => by rw [k2.1 a h1]; exact u1 a h1 h2
    have v2 : ∀ b, b ≠ t → K.1 50 b = h0.1 50 b := fun b h1 => by rw [k2.1 50 (by omega), ui_k h1]; exact f2 b h1
    have v3 : K.2 = h0.2 := k2.2.trans f3
    by_cases q : wrp lw g b v = true
    · rw [show rgt (gs5 g v) b (b - clo lw (gs5 g v) b) = true from q, if_pos q, Bool.cond_true, iN_addr]
      exact ih (v + 1) (iN v) K (by omega) v1 v2 v3
    · rw [show rgt (gs5 g v) b (b - clo lw (gs5 g v) b) = false by simpa [wrp] using q, if_neg q]
      exact ⟨zm_ui K 50 t x4, rfl, fun a h1 h2 => by rw [ui_f h2]; exact v1 a h1 h2, fun b h1 => by rw [ui_k h1]; exact v2 b h1, v3, ui_s _ _ _ _⟩
theorem K_wear (d : Nat) {L : Nat} {xs : Nat → Int32} {h : zm_H} (r : RR L xs h) (a b : Int32) : okC L xs (fE_wear (d + 20) a b) (fM_wear (d + 20) a b) h := by
  have r0 := r
  obtain ⟨T, P, D, A, S, B, Q, W, N, C, T', Lw, G, I, Bd, Sh⟩ := r
  have N0 := N
  obtain ⟨⟨hT, hP, n1, n2, n3, n4⟩, N1, N2, N3⟩ := N
  obtain ⟨lw, l1, l2⟩ := rL_lw Lw
  cases q : tkB T a
  · refine okC_same r0 (-1) ?_ ?_
    · rw [fE_wear_eq, tkE (d + 16) a n1 n3, q, bI, cT (by decide)]
    · rw [fM_wear_eq, tkM (d + 16) hT a n2, q, bI, cT (by decide)]
  · obtain ⟨t, k, ht, hk, e1, e2⟩ := tk_ex hT q
    cases q2 : (decide (0 ≤ b) && decide (b ≤ 200))
    · refine okC_same r0 (-1) ?_ ?_
      · rw [fE_wear_eq, tkE (d + 16) a n1 n3, q, bI, cF (by decide), isBeginning_s, q2, bI, cN, cT (by decide)]
      · rw [fM_wear_eq, tkM (d + 16) hT a n2, q, bI, cF (by decide), isPlace_s, q2, bI, cN, cT (by decide)]
    · have gr := gR_of N0 ht hk
      obtain ⟨K, k1, k2, k3⟩ := hung_s (d + 14) e1 e2 hT hP n1 n3 ht hk
      obtain ⟨K2, c1, c2⟩ := wearC (d + 14) gr (b := b) (by grind) (by grind) 100 0 (-2) K (by omega) (frH_lwC k3 l1) (fun i h1 h2 _ => k2 i h1 h2)
      have f2 := frH_t k3 c2
      obtain ⟨M, m1, m2, m3, m4, m5⟩ := wearM (d + 13) (t := t) (k := k) e2 (by omega) hk b (K2.1 50 t) (frH_lwM f2 l2) (frH_mE f2 (mE_of N0 ht hk)) 100 0 (-2) K2 (by omega) (fun _ _ _ => rfl) (fun _ _ => rfl) rfl
      have M50 : M.1 50 = K2.1 50 := by
        funext y
        by_cases e : y = t
        · subst e; exact m5
        · exact m3 y e
      refine ⟨wrf (wrp lw (gOf h t k) b) 100 0 (-2), K2, M, ?_, ?_, RR_q r0 (frQ_t (frQ_H f2) ⟨fun a h1 h2 h3 h4 h5 => ?_, fun b _ => by rw [m2 11 (by omega) (by omega)], fun b _ _ _ => by rw [m2 45 (by omega) (by omega)], m4⟩)⟩
      · rw [fE_wear_eq, tkE (d + 16) a n1 n3, q, bI, cF (by decide), isBeginning_s, q2, bI, cN, cF (by decide), k1, bQ]; exact c1
      · rw [fM_wear_eq, tkM (d + 16) hT a (by rw [f2.1 45 (by omega) (by omega) (by omega)]; exact n2), q, bI, cF (by decide), isPlace_s, q2, bI, cN, cF (by decide), e1, gR_50 (by omega), iN_c (by omega)]; exact m1
      · by_cases e : a = 50
        · subst e; exact M50
        · exact m2 a (by omega) e
