/-! share, stain, hide, bow -/
def shf (lw : Option (List (List Nat × List Nat))) (g : Nat → Int32) (b : Int32) : Nat → Nat → Int32 → Int32 → Int32
  | 0, _, x, _ => x
  | n + 1, s, x, m => cond (decide ((trs lw g (iN s) 60 1 b).1 = -2)) (shf lw g b n (s + 1) x m) (cond (decide (m ≤ (trs lw g (iN s) 60 1 b).1)) (shf lw g b n (s + 1) x m) (shf lw g b n (s + 1) (iN s) (trs lw g (iN s) 60 1 b).1))
theorem shareC (d : Nat) {lw : Option (List (List Nat × List Nat))} {g : Nat → Int32} (b : Int32) : ∀ (n s : Nat) (x m : Int32) (h : zm_H), s + n = 5 → 1 ≤ s → lwC lw h → cE g h →
    ∃ K, fE_share_c34 (d + 6) b x m (iN s) h = some (some (.int (shf lw g b n s x m)), K) ∧ frH h K := by
  intro n
  induction n with
  | zero =>
    intro s x m h hs _ _ _
    obtain rfl : s = 5 := by omega
    refine ⟨h, ?_, frH_r h⟩
    rw [fE_share_c34_eq, cT (by decide)]; rfl
  | succ n ih =>
    intro s x m h hs h1 rl rE
    obtain ⟨K, k1, k2, k3, k4⟩ := triesC d (iN_n0 h1 (by omega)) b rl rE
    rw [fE_share_c34_eq, cF (by simp (disch := omega) only [iN_add, iN_addl, iN_addr, iN_mul, iN_mull, iN_mulr, iN_sub, iN_subl, iN_subr, iN_c, iN_lt, iN_ltl, iN_ltr, iN_le, iN_lel, iN_ler, iN_eq, iN_eql, iN_eqr]; omega), k1, bI, shf, iN_addr]
    obtain ⟨M, m1, m2⟩ := ih (s + 1) x m K (by omega) (by omega) (frH_lwC k2 rl) k3
    obtain ⟨M', m1', m2'⟩ := ih (s + 1) (iN s) (trs lw g (iN s) 60 1 b).1 K (by omega) (by omega) (frH_lwC k2 rl) k3
    generalize trs lw g (iN s) 60 1 b = R at *
    cases decide (R.1 = -2)
    · cases decide (m ≤ R.1)
      · exact ⟨M', m1', frH_t k2 m2'⟩
      · exact ⟨M, m1, frH_t k2 m2⟩
    · exact ⟨M, m1, frH_t k2 m2⟩
theorem shareM (d : Nat) {lw : Option (List (List Nat × List Nat))} {g : Nat → Int32} {t k : Nat} {a : Int32} (e1 : a / 10 = iN t) (e2 : a - a / 10 * 10 = iN k) (ht : t < 8) (hk : k < 5) (b : Int32) : ∀ (n s : Nat) (x m m' : Int32) (h : zm_H), s + n = 5 → 1 ≤ s → (m' = m ∨ (m' = 99 ∧ m = 61)) → lwM lw h → mE g t k h →
    ∃ K, fM_share_c27 (d + 7) a b x m' (iN s) h = some (some (.int (shf lw g b n s x m)), K) ∧ frT h K := by
  intro n
  induction n with
  | zero =>
    intro s x m m' h hs _ _ _ _
    obtain rfl : s = 5 := by omega
    refine ⟨h, ?_, frT_r h⟩
    rw [fM_share_c27_eq, cT (by decide)]; rfl
  | succ n ih =>
    intro s x m m' h hs h1 hm rl rE
    obtain ⟨K, k1, k2, k3⟩ := triesM d ht hk (iN_n0 h1 (by omega)) b rl rE
    have tr := trs_r lw g (iN s) 60 1 b
    rw [fM_share_c27_eq, cF (by simp (disch := omega) only [iN_add, iN_addl, iN_addr, iN_mul, iN_mull, iN_mulr, iN_sub, iN_subl, iN_subr, iN_c, iN_lt, iN_ltl, iN_ltr, iN_le, iN_lel, iN_ler, iN_eq, iN_eql, iN_eqr]; omega), e2, e1, k1, bI, shf, iN_addr]
    obtain ⟨M, m1, m2⟩ := ih (s + 1) x m m' K (by omega) (by omega) hm (frT_lwM k2 rl) (frT_mE k2 rE)
    obtain ⟨M', m1', m2'⟩ := ih (s + 1) (iN s) (trs lw g (iN s) 60 1 b).1 (trs lw g (iN s) 60 1 b).1 K (by omega) (by omega) (.inl rfl) (frT_lwM k2 rl) (frT_mE k2 rE)
    generalize trs lw g (iN s) 60 1 b = R at *
    by_cases q : R.1 = -2
    · rw [decide_eq_true q]; exact ⟨M, m1, frT_t k2 m2⟩
    · rw [decide_eq_false q]
      obtain ⟨j, j1, j2, j3⟩ := tr.resolve_left q
      have l1 : R.1 < 61 := by rw [j3]; simp (disch := omega) only [iN_add, iN_addl, iN_addr, iN_mul, iN_mull, iN_mulr, iN_sub, iN_subl, iN_subr, iN_c, iN_lt, iN_ltl, iN_ltr, iN_le, iN_lel, iN_ler, iN_eq, iN_eql, iN_eqr]; omega
      by_cases q2 : m ≤ R.1
      · have : ¬ R.1 < m' := by rcases hm with rfl | ⟨rfl, rfl⟩ <;> grind
        rw [decide_eq_true q2, decide_eq_false this]; exact ⟨M, m1, frT_t k2 m2⟩
      · have : R.1 < m' := by rcases hm with rfl | ⟨rfl, rfl⟩ <;> grind
        rw [decide_eq_false q2, decide_eq_true this]; exact ⟨M', m1', frT_t k2 m2'⟩
theorem K_share (d : Nat) {L : Nat} {xs : Nat → Int32} {h : zm_H} (r : RR L xs h) (a b : Int32) : okC L xs (fE_share (d + 20) a b) (fM_share (d + 20) a b) h := by
  have r0 := r
  obtain ⟨T, P, D, A, S, B, Q, W, N, C, T', Lw, G, I, Bd, Sh⟩ := r
  have N0 := N
  obtain ⟨⟨hT, hP, n1, n2, n3, n4⟩, N1, N2, N3⟩ := N
  obtain ⟨lw, l1, l2⟩ := rL_lw Lw
  cases q : tkB T a
  · refine okC_same r0 (-1) ?_ ?_
    · rw [fE_share_eq, tkE (d + 16) a n1 n3, q, bI, cT (by decide)]
    · rw [fM_share_eq, tkM (d + 16) hT a n2, q, bI, cT (by decide)]
  · obtain ⟨t, k, ht, hk, e1, e2⟩ := tk_ex hT q
    cases q2 : (decide (0 ≤ b) && decide (b ≤ 200))
    · refine okC_same r0 (-1) ?_ ?_
      · rw [fE_share_eq, tkE (d + 16) a n1 n3, q, bI, cF (by decide), isBeginning_s, q2, bI, cN, cT (by decide)]
      · rw [fM_share_eq, tkM (d + 16) hT a n2, q, bI, cF (by decide), isPlace_s, q2, bI, cN, cT (by decide)]
    · obtain ⟨K, k1, k2, k3⟩ := hung_s (d + 14) e1 e2 hT hP n1 n3 ht hk
      obtain ⟨K2, c1, c2⟩ := shareC (d + 14) b 4 1 (-2) 61 K (by omega) (by omega) (frH_lwC k3 l1) k2
      have f2 := frH_t k3 c2
      obtain ⟨M, m1, m2⟩ := shareM (d + 13) e1 e2 (by omega) hk b 4 1 (-2) 61 99 K2 (by omega) (by omega) (.inr ⟨rfl, rfl⟩) (frH_lwM f2 l2) (frH_mE f2 (mE_of N0 ht hk))
      refine ⟨shf lw (gOf h t k) b 4 1 (-2) 61, K2, M, ?_, ?_, RR_q r0 (frQ_t (frQ_H f2) (frQ_T m2))⟩
      · rw [fE_share_eq, tkE (d + 16) a n1 n3, q, bI, cF (by decide), isBeginning_s, q2, bI, cN, cF (by decide), k1, bQ]; exact c1
      · rw [fM_share_eq, tkM (d + 16) hT a (by rw [f2.1 45 (by omega) (by omega) (by omega)]; exact n2), q, bI, cF (by decide), isPlace_s, q2, bI, cN, cF (by decide)]; exact m1
def stv (g4 b broad : Int32) : Int32 := cond (decide (broad < g4)) (cond (decide (b < g4)) 0 2) 1
theorem stainM (d : Nat) {lw : Option (List (List Nat × List Nat))} {g : Nat → Int32} {t k : Nat} (ht : t < 8) (hk : k < 5) {h : zm_H} (rl : lwM lw h) (rE : mE g t k h) (b : Int32) : ∃ K, fM_stained (d + 6) (iN t) (iN k) b h = some (some (.int (stv (g 4) b (b - clo lw g b))), K) ∧ frM h K := by
  obtain ⟨K, k1, k2⟩ := clothM d ht hk rl rE b
  refine ⟨K, ?_, k2⟩
  rw [fM_stained_eq, k1, bI, gR_49 ht, iN_c (by omega), (mE_f k2 rE).2.2.2.1, Bool.cond_true, Bool.cond_true, cI, cI]; rfl
theorem K_stain (d : Nat) {L : Nat} {xs : Nat → Int32} {h : zm_H} (r : RR L xs h) (a b : Int32) : okC L xs (fE_stain (d + 20) a b) (fM_stain (d + 20) a b) h := by
  have r0 := r
  obtain ⟨T, P, D, A, S, B, Q, W, N, C, T', Lw, G, I, Bd, Sh⟩ := r
  have N0 := N
  obtain ⟨⟨hT, hP, n1, n2, n3, n4⟩, N1, N2, N3⟩ := N
  obtain ⟨lw, l1, l2⟩ := rL_lw Lw
  cases q : tkB T a
  · refine okC_same r0 (-1) ?_ ?_
    · rw [fE_stain_eq, tkE (d + 16) a n1 n3, q, bI, cT (by decide)]
    · rw [fM_stain_eq, tkM (d + 16) hT a n2, q, bI, cT (by decide)]
  · obtain ⟨t, k, ht, hk, e1, e2⟩ := tk_ex hT q
    cases q2 : (decide (0 ≤ b) && decide (b ≤ 200))
    · refine okC_same r0 (-1) ?_ ?_
      · rw [fE_stain_eq, tkE (d + 16) a n1 n3, q, bI, cF (by decide), isBeginning_s, q2, bI, cN, cT (by decide)]
      · rw [fM_stain_eq, tkM (d + 16) hT a n2, q, bI, cF (by decide), isPlace_s, q2, bI, cT (by decide)]
    · obtain ⟨K, k1, k2, k3⟩ := hung_s (d + 14) e1 e2 hT hP n1 n3 ht hk
      obtain ⟨K2, c1, c2⟩ := clothC (d + 15) (frH_lwC k3 l1) k2 b
      have f2 := frH_t k3 (frH_C c2)
      obtain ⟨M, m1, m2⟩ := stainM (d + 13) (t := t) (k := k) (by omega) hk (frH_lwM f2 l2) (frH_mE f2 (mE_of N0 ht hk)) b
      refine ⟨stv (gOf h t k 4) b (b - clo lw (gOf h t k) b), K2, M, ?_, ?_, RR_q r0 (frQ_t (frQ_H f2) (frQ_M m2))⟩
      · rw [fE_stain_eq, tkE (d + 16) a n1 n3, q, bI, cF (by decide), isBeginning_s, q2, bI, cN, cF (by decide), k1, bQ, c1, bI, cE_f c2 k2 4 (by omega) (by omega), cI, cI]; rfl
      · rw [fM_stain_eq, tkM (d + 16) hT a (by rw [f2.1 45 (by omega) (by omega) (by omega)]; exact n2), q, bI, cF (by decide), isPlace_s, q2, bI, cF (by decide), e2, e1, m1, bI]
def hdv (lw : Option (List (List Nat × List Nat))) (g : Nat → Int32) : Nat → Nat → Int32
  | 0, _ => -2
  | n + 1, b => cond (prt lw g b) (cond (decide (g 4 ≤ iN b - clo lw g (iN b))) (hdv lw g n (b + 1)) (iN b)) (hdv lw g n (b + 1))
theorem hideC (d : Nat) {lw : Option (List (List Nat × List Nat))} {g : Nat → Int32} (r : gR g) : ∀ (n b : Nat) (h : zm_H), b + n = 201 → lwC lw h → cE g h → ∃ K, fE_hide_c18 (d + 6) (iN b) h = some (some (.int (hdv lw g n b)), K) ∧ frC h K := by
  intro n
  induction n with
  | zero =>
    intro b h hb _ _
    refine ⟨h, ?_, frC_r h⟩
    rw [fE_hide_c18_eq, cT (by simp (disch := omega) only [iN_add, iN_addl, iN_addr, iN_mul, iN_mull, iN_mulr, iN_sub, iN_subl, iN_subr, iN_c, iN_lt, iN_ltl, iN_ltr, iN_le, iN_lel, iN_ler, iN_eq, iN_eql, iN_eqr]; omega)]; rfl
  | succ n ih =>
    intro b h hb rl rE
    obtain ⟨K, k1, k2⟩ := rightAtC d r rl rE (b := iN b) (by rw [show (0 : Int32) = iN 0 from rfl, iN_le (by omega) (by omega)]; omega) (by simp (disch := omega) only [iN_add, iN_addl, iN_addr, iN_mul, iN_mull, iN_mulr, iN_sub, iN_subl, iN_subr, iN_c, iN_lt, iN_ltl, iN_ltr, iN_le, iN_lel, iN_ler, iN_eq, iN_eql, iN_eqr]; omega)
    rw [fE_hide_c18_eq, cF (by simp (disch := omega) only [iN_add, iN_addl, iN_addr, iN_mul, iN_mull, iN_mulr, iN_sub, iN_subl, iN_subr, iN_c, iN_lt, iN_ltl, iN_ltr, iN_le, iN_lel, iN_ler, iN_eq, iN_eql, iN_eqr]; omega), k1, bI, zi_0, hdv, show rgt g (iN b) (iN b - clo lw g (iN b)) = prt lw g b from rfl]
    cases prt lw g b
    · obtain ⟨M, m1, m2⟩ := ih (b + 1) K (by omega) (lwC_f k2 rl) (cE_f k2 rE)
      refine ⟨M, ?_, frC_t k2 m2⟩
      simp only [Bool.not_false, Bool.cond_true, Bool.cond_false, iN_addr]; exact m1
    · obtain ⟨K2, c1, c2⟩ := clothC (d + 1) (lwC_f k2 rl) (cE_f k2 rE) (iN b)
      simp only [Bool.not_true, Bool.cond_true, Bool.cond_false]
      rw [c1, bI, cE_f k2 rE 4 (by omega) (by omega)]
      obtain ⟨M, m1, m2⟩ := ih (b + 1) K2 (by omega) (lwC_f c2 (lwC_f k2 rl)) (cE_f c2 (cE_f k2 rE))
      cases decide (g 4 ≤ iN b - clo lw g (iN b))
      · exact ⟨K2, rfl, frC_t k2 c2⟩
      · refine ⟨M, ?_, frC_t (frC_t k2 c2) m2⟩
        simp only [Bool.cond_true, iN_addr]; exact m1
theorem hideM (d : Nat) {lw : Option (List (List Nat × List Nat))} {g : Nat → Int32} {t k : Nat} {a : Int32} (e1 : a / 10 = iN t) (e2 : a - a / 10 * 10 = iN k) (ht : t < 8) (hk : k < 5) : ∀ (n b : Nat) (h : zm_H), b + n = 201 → lwM lw h → mE g t k h → ∃ K, fM_hide_c12 (d + 7) a (iN b) h = some (some (.int (hdv lw g n b)), K) ∧ frM h K := by
  intro n
  induction n with
  | zero =>
    intro b h hb _ _
    refine ⟨h, ?_, frM_r h⟩
    rw [fM_hide_c12_eq, cT (by simp (disch := omega) only [iN_add, iN_addl, iN_addr, iN_mul, iN_mull, iN_mulr, iN_sub, iN_subl, iN_subr, iN_c, iN_lt, iN_ltl, iN_ltr, iN_le, iN_lel, iN_ler, iN_eq, iN_eql, iN_eqr]; omega)]; rfl
  | succ n ih =>
    intro b h hb rl rE
    obtain ⟨K, k1, k2⟩ := hangsM d ht hk rl rE (iN b)
    rw [fM_hide_c12_eq, cF (by simp (disch := omega) only [iN_add, iN_addl, iN_addr, iN_mul, iN_mull, iN_mulr, iN_sub, iN_subl, iN_subr, iN_c, iN_lt, iN_ltl, iN_ltr, iN_le, iN_lel, iN_ler, iN_eq, iN_eql, iN_eqr]; omega), e2, e1, k1, bI, zi_0, hdv, show rgt g (iN b) (iN b - clo lw g (iN b)) = prt lw g b from rfl]
    cases prt lw g b
    · obtain ⟨M, m1, m2⟩ := ih (b + 1) K (by omega) (lwM_f k2 rl) (mE_f k2 rE)
      refine ⟨M, ?_, frM_t k2 m2⟩
      simp only [Bool.not_false, Bool.cond_true, Bool.cond_false, iN_addr]; exact m1
    · obtain ⟨K2, c1, c2⟩ := stainM d ht hk (lwM_f k2 rl) (mE_f k2 rE) (iN b)
      simp only [Bool.not_true, Bool.cond_true, Bool.cond_false]
      rw [c1, bI]
      obtain ⟨M, m1, m2⟩ := ih (b + 1) K2 (by omega) (lwM_f c2 (lwM_f k2 rl)) (mE_f c2 (mE_f k2 rE))
      by_cases u : g 4 ≤ iN b - clo lw g (iN b)
      · rw [decide_eq_true u, show stv (g 4) (iN b) (iN b - clo lw g (iN b)) = 1 by unfold stv; rw [cF (Int32.not_lt.mpr u)]]
        refine ⟨M, ?_, frM_t (frM_t k2 c2) m2⟩
        rw [cT rfl, iN_addr, m1]; rfl
      · rw [decide_eq_false u]
        refine ⟨K2, ?_, frM_t k2 c2⟩
        rw [cF]
        · rfl
        · unfold stv; rw [cT (Int32.not_le.mp u)]
          cases decide (iN b < g 4) <;> decide
theorem K_hide (d : Nat) {L : Nat} {xs : Nat → Int32} {h : zm_H} (r : RR L xs h) (a : Int32) : okC L xs (fE_hide (d + 20) a) (fM_hide (d + 20) a) h := by
  have r0 := r
  obtain ⟨T, P, D, A, S, B, Q, W, N, C, T', Lw, G, I, Bd, Sh⟩ := r
  have N0 := N
  obtain ⟨⟨hT, hP, n1, n2, n3, n4⟩, N1, N2, N3⟩ := N
  obtain ⟨lw, l1, l2⟩ := rL_lw Lw
  cases q : tkB T a
  · refine okC_same r0 (-1) ?_ ?_
    · rw [fE_hide_eq, tkE (d + 16) a n1 n3, q, bI, cN, cT (by decide)]
    · rw [fM_hide_eq, tkM (d + 16) hT a n2, q, bI, cN, cT (by decide)]
  · obtain ⟨t, k, ht, hk, e1, e2⟩ := tk_ex hT q
    obtain ⟨K, k1, k2, k3⟩ := hung_s (d + 14) e1 e2 hT hP n1 n3 ht hk
    obtain ⟨K2, c1, c2⟩ := hideC (d + 14) (gR_of N0 ht hk) 201 0 K (by omega) (frH_lwC k3 l1) k2
    have f2 := frH_t k3 (frH_C c2)
    obtain ⟨M, m1, m2⟩ := hideM (d + 13) e1 e2 (by omega) hk 201 0 K2 (by omega) (frH_lwM f2 l2) (frH_mE f2 (mE_of N0 ht hk))
    refine ⟨hdv lw (gOf h t k) 201 0, K2, M, ?_, ?_, RR_q r0 (frQ_t (frQ_H f2) (frQ_M m2))⟩
    · rw [fE_hide_eq, tkE (d + 16) a n1 n3, q, bI, cN, cF (by decide), k1, bQ]; exact c1
    · rw [fM_hide_eq, tkM (d + 16) hT a (by rw [f2.1 45 (by omega) (by omega) (by omega)]; exact n2), q, bI, cN, cF (by decide)]; exact m1
/-! bow -/
def apt (lw : Option (List (List Nat × List Nat))) (g : Nat → Int32) (b : Nat) : Int32 := zm_abs (iN b - clo lw g (iN b) - thn g (iN b))
def bwf (ap : Nat → Int32) : Nat → Nat → Int32 → Int32 → Int32 × Int32
  | 0, _, x, m => (x, m)
  | n + 1, b, x, m => cond (decide (m ≤ ap b)) (bwf ap n (b + 1) x m) (bwf ap n (b + 1) (iN b) (ap b))
theorem apartC (d : Nat) {lw : Option (List (List Nat × List Nat))} {g : Nat → Int32} {h : zm_H} (rl : lwC lw h) (rE : cE g h) (b : Nat) : ∃ K, fHa_apart (d + 5) (iN b) h = some (some (.int (apt lw g b)), K) ∧ frC h K := by
  obtain ⟨K, k1, k2⟩ := clothC d rl rE (iN b)
  refine ⟨K, ?_, k2⟩
  rw [fHa_apart_eq, k1, bI, thinC (d + 3) (cE_f k2 rE), bI]; rfl
theorem bowC (d : Nat) {lw : Option (List (List Nat × List Nat))} {g : Nat → Int32} (w : Int32) : ∀ (n b : Nat) (x m : Int32) (h : zm_H), b + n = 201 → lwC lw h → cE g h → ∃ K, fE_bow_c38 (d + 6) w x m (iN b) h = some (some (.int (cond (!(decide (w = 0))) (bwf (apt lw g) n b x m).2 (bwf (apt lw g) n b x m).1)), K) ∧ frC h K := by
  intro n
  induction n with
  | zero =>
    intro b x m h hb _ _
    refine ⟨h, ?_, frC_r h⟩
    rw [fE_bow_c38_eq, cT (by simp (disch := omega) only [iN_add, iN_addl, iN_addr, iN_mul, iN_mull, iN_mulr, iN_sub, iN_subl, iN_subr, iN_c, iN_lt, iN_ltl, iN_ltr, iN_le, iN_lel, iN_ler, iN_eq, iN_eql, iN_eqr]; omega), cI]; rfl
  | succ n ih =>
    intro b x m h hb rl rE
    obtain ⟨K, k1, k2⟩ := apartC d rl rE b
    rw [fE_bow_c38_eq, cF (by simp (disch := omega) only [iN_add, iN_addl, iN_addr, iN_mul, iN_mull, iN_mulr, iN_sub, iN_subl, iN_subr, iN_c, iN_lt, iN_ltl, iN_ltr, iN_le, iN_lel, iN_ler, iN_eq, iN_eql, iN_eqr]; omega), k1, bI, bwf, iN_addr]
    cases decide (m ≤ apt lw g b)
    · obtain ⟨M, m1, m2⟩ := ih (b + 1) (iN b) (apt lw g b) K (by omega) (lwC_f k2 rl) (cE_f k2 rE)
      exact ⟨M, m1, frC_t k2 m2⟩
    · obtain ⟨M, m1, m2⟩ := ih (b + 1) x m K (by omega) (lwC_f k2 rl) (cE_f k2 rE)
      exact ⟨M, m1, frC_t k2 m2⟩
theorem lval_le (g : Nat → Int32) (b : Int32) (ls : List (List Nat × List Nat)) : lval g b ls ≤ 60 := by
  induction ls with
  | nil => exact (by decide : (0 : Int32) ≤ 60)
  | cons x ls ih =>
    obtain ⟨a, s⟩ := x
    rw [lval]; split
    · exact ih
    · unfold zm_max zm_min; grind
theorem iN_div {a : Nat} (h : a < 2147483648) : iN a / 10 = iN (a / 10) := (Int32.ofNat_div (b := 10) h (by decide)).symm
theorem clo_le (lw : Option (List (List Nat × List Nat))) {g : Nat → Int32} (r : gR g) (b : Int32) : clo lw g b ≤ 90 := by
  cases lw with
  | some ls =>
    have := lval_le g b ls
    show lval g b ls ≤ 90
    grind
  | none =>
    obtain ⟨-, ⟨a1, a2⟩, ⟨a3, a4⟩, ⟨a5, a6⟩, ⟨a7, a8⟩, -⟩ := r
    show zm_max 0 (g 2 * g 6 + g 2 - g 3 - g 5 / 10) ≤ 90
    obtain ⟨x, hx, e1⟩ := iN_exn (x := g 2) (c := 10) 10 rfl (by decide) (by grind)
    obtain ⟨y, hy, e2⟩ := iN_exn (x := g 6) (c := 10) 10 rfl (by decide) (by grind)
    obtain ⟨z, hz, e3⟩ := iN_exn (x := g 3) (c := 10) 10 rfl (by decide) (by grind)
    obtain ⟨v, hv, e4⟩ := iN_exn (x := g 5) (c := 100) 100 rfl (by decide) (by grind)
    rw [e1, e2, e3, e4, iN_mul, iN_add, iN_div (by omega)]
    have m1 : x * y ≤ 9 * 9 := Nat.mul_le_mul (by omega) (by omega)
    have m2 : v / 10 ≤ 9 := by omega
    have l1 : iN (x * y + x) ≤ 90 := by simp (disch := omega) only [iN_add, iN_addl, iN_addr, iN_mul, iN_mull, iN_mulr, iN_sub, iN_subl, iN_subr, iN_c, iN_lt, iN_ltl, iN_ltr, iN_le, iN_lel, iN_ler, iN_eq, iN_eql, iN_eqr]; omega
    have l2 : (0 : Int32) ≤ iN (x * y + x) := by rw [show (0 : Int32) = iN 0 from rfl, iN_le (by omega) (by omega)]; omega
    have l3 : (0 : Int32) ≤ iN z := by rw [show (0 : Int32) = iN 0 from rfl, iN_le (by omega) (by omega)]; omega
    have l4 : (0 : Int32) ≤ iN (v / 10) := by rw [show (0 : Int32) = iN 0 from rfl, iN_le (by omega) (by omega)]; omega
    have l5 : iN z ≤ 9 := by simp (disch := omega) only [iN_add, iN_addl, iN_addr, iN_mul, iN_mull, iN_mulr, iN_sub, iN_subl, iN_subr, iN_c, iN_lt, iN_ltl, iN_ltr, iN_le, iN_lel, iN_ler, iN_eq, iN_eql, iN_eqr]; omega
    have l6 : iN (v / 10) ≤ 9 := by simp (disch := omega) only [iN_add, iN_addl, iN_addr, iN_mul, iN_mull, iN_mulr, iN_sub, iN_subl, iN_subr, iN_c, iN_lt, iN_ltl, iN_ltr, iN_le, iN_lel, iN_ler, iN_eq, iN_eql, iN_eqr]; omega
    generalize iN (x * y + x) = p at *
    generalize iN z = q at *
    generalize iN (v / 10) = s at *
    unfold zm_max
    grind
theorem apt_ge (lw : Option (List (List Nat × List Nat))) {g : Nat → Int32} (r : gR g) {b : Nat} (hb : b ≤ 200) : 0 ≤ apt lw g b := by
  have c1 := clo_ge lw g (iN b)
  have c2 := clo_le lw r (iN b)
  have l1 : (0 : Int32) ≤ iN b := by rw [show (0 : Int32) = iN 0 from rfl, iN_le (by omega) (by omega)]; omega
  have l2 : iN b ≤ 200 := by simp (disch := omega) only [iN_add, iN_addl, iN_addr, iN_mul, iN_mull, iN_mulr, iN_sub, iN_subl, iN_subr, iN_c, iN_lt, iN_ltl, iN_ltr, iN_le, iN_lel, iN_ler, iN_eq, iN_eql, iN_eqr]; omega
  obtain ⟨⟨a1, a2⟩, -, -, -, -, ⟨a3, a4⟩, -⟩ := r
  unfold apt thn zm_abs
  generalize clo lw g (iN b) = c at *
  generalize iN b = x at *
  grind
theorem bowM (d : Nat) {lw : Option (List (List Nat × List Nat))} {g : Nat → Int32} (r : gR g) {t k : Nat} {a : Int32} (e1 : a / 10 = iN t) (e2 : a - a / 10 * 10 = iN k) (ht : t < 8) (hk : k < 5) (w : Int32) : ∀ (n b : Nat) (x m : Int32) (h : zm_H), b + n = 201 → 0 ≤ m → lwM lw h → mE g t k h → ∃ K, fM_bow_c27 (d + 6) a w x m (iN b) h = some (some (.int (cond (!(decide (w = 0))) (bwf (apt lw g) n b x m).2 (bwf (apt lw g) n b x m).1)), K) ∧ frM h K := by
  intro n
  induction n with
  | zero =>
    intro b x m h hb _ _ _
    refine ⟨h, ?_, frM_r h⟩
    rw [fM_bow_c27_eq, cT (by simp (disch := omega) only [iN_add, iN_addl, iN_addr, iN_mul, iN_mull, iN_mulr, iN_sub, iN_subl, iN_subr, iN_c, iN_lt, iN_ltl, iN_ltr, iN_le, iN_lel, iN_ler, iN_eq, iN_eql, iN_eqr]; omega), cI]; rfl
  | succ n ih =>
    intro b x m h hb hm rl rE
    obtain ⟨K, k1, k2⟩ := clothM d ht hk rl rE (iN b)
    have ap := apt_ge lw r (b := b) (by omega)
    rw [fM_bow_c27_eq, cF (by simp (disch := omega) only [iN_add, iN_addl, iN_addr, iN_mul, iN_mull, iN_mulr, iN_sub, iN_subl, iN_subr, iN_c, iN_lt, iN_ltl, iN_ltr, iN_le, iN_lel, iN_ler, iN_eq, iN_eql, iN_eqr]; omega), e2, e1, k1, bI, thinM (d + 4) ht (mE_f k2 rE), bI, cF (Int32.not_lt.mpr hm), bwf, iN_addr]
    rw [show zm_abs (iN b - clo lw g (iN b) - thn g (iN b)) = apt lw g b from rfl]
    by_cases u : m ≤ apt lw g b
    · rw [cT u, cF (Int32.not_lt.mpr u)]
      obtain ⟨M, m1, m2⟩ := ih (b + 1) x m K (by omega) hm (lwM_f k2 rl) (mE_f k2 rE)
      exact ⟨M, m1, frM_t k2 m2⟩
    · rw [cF u, cT (Int32.not_le.mp u)]
      obtain ⟨M, m1, m2⟩ := ih (b + 1) (iN b) (apt lw g b) K (by omega) ap (lwM_f k2 rl) (mE_f k2 rE)
      exact ⟨M, m1, frM_t k2 m2⟩
theorem K_bow (d : Nat) {L : Nat} {xs : Nat → Int32} {h : zm_H} (r : RR L xs h) (a w : Int32) : okC L xs (fE_bow (d + 20) a w) (fM_bow (d + 20) a w) h := by
  have r0 := r
  obtain ⟨T, P, D, A, S, B, Q, W, N, C, T', Lw, G, I, Bd, Sh⟩ := r
  have N0 := N
  obtain ⟨⟨hT, hP, n1, n2, n3, n4⟩, N1, N2, N3⟩ := N
  obtain ⟨lw, l1, l2⟩ := rL_lw Lw
  cases q : tkB T a
  · refine okC_same r0 (-1) ?_ ?_
    · rw [fE_bow_eq, tkE (d + 16) a n1 n3, q, bI, cT (by decide)]
    · rw [fM_bow_eq, tkM (d + 16) hT a n2, q, bI, cT (by decide)]
  · obtain ⟨t, k, ht, hk, e1, e2⟩ := tk_ex hT q
    by_cases q3 : w < 0 ∨ 1 < w
    · refine okC_same r0 (-1) ?_ ?_
      · rw [fE_bow_eq, tkE (d + 16) a n1 n3, q, bI, cF (by decide)]
        by_cases q4 : w < 0
        · rw [cT q4]
        · rw [cF q4, cF (by grind)]
      · rw [fM_bow_eq, tkM (d + 16) hT a n2, q, bI, cF (by decide), within_s, show (decide (0 ≤ w) && decide (w ≤ 1)) = false by grind]; rfl
    · have gr := gR_of N0 ht hk
      obtain ⟨K, k1, k2, k3⟩ := hung_s (d + 14) e1 e2 hT hP n1 n3 ht hk
      obtain ⟨K1, b1, b2⟩ := apartC (d + 14) (frH_lwC k3 l1) k2 0
      obtain ⟨K2, c1, c2⟩ := bowC (d + 14) w 200 1 0 (apt lw (gOf h t k) 0) K1 (by omega) (lwC_f b2 (frH_lwC k3 l1)) (cE_f b2 k2)
      have f2 := frH_t k3 (frH_C (frC_t b2 c2))
      have E2 := frH_mE f2 (mE_of N0 ht hk)
      obtain ⟨M1, d1, d2⟩ := clothM (d + 14) (t := t) (k := k) (by omega) hk (frH_lwM f2 l2) E2 0
      obtain ⟨M, m1, m2⟩ := bowM (d + 14) gr e1 e2 (by omega) hk w 200 1 0 (apt lw (gOf h t k) 0) M1 (by omega) (apt_ge lw gr (by omega)) (lwM_f d2 (frH_lwM f2 l2)) (mE_f d2 E2)
      refine ⟨cond (!(decide (w = 0))) (bwf (apt lw (gOf h t k)) 200 1 0 (apt lw (gOf h t k) 0)).2 (bwf (apt lw (gOf h t k)) 200 1 0 (apt lw (gOf h t k) 0)).1, K2, M, ?_, ?_, RR_q r0 (frQ_t (frQ_H f2) (frQ_M (frM_t d2 m2)))⟩
      · rw [fE_bow_eq, tkE (d + 16) a n1 n3, q, bI, cF (by decide), cF (by grind), cT (by grind), k1, bQ]
        rw [show (0 : Int32) = iN 0 from rfl] at *
        rw [b1, bI]; exact c1
      · rw [fM_bow_eq, tkM (d + 16) hT a (by rw [f2.1 45 (by omega) (by omega) (by omega)]; exact n2), q, bI, cF (by decide), within_s, show (decide (0 ≤ w) && decide (w ≤ 1)) = true by grind, bI, cN, cF (by decide)]
        rw [fM_bow_c27_eq, cF (by decide), e2, e1, d1, bI, thinM (d + 18) (by omega) (mE_f d2 E2), bI, cT (by decide)]; exact m1
