/-! tries; correct, share, takes -/
def nxt (g : Nat → Int32) (b broad s : Int32) : Int32 := cond (!(decide (((g 8 - broad) / s) = 0))) (zm_max 0 (zm_min 200 (b + (g 8 - broad) / s))) (cond (decide (broad ≤ g 8)) (zm_max 0 (zm_min 200 (b + 1))) (zm_max 0 (zm_min 200 (b + -1))))
theorem corrC (d : Nat) {g : Nat → Int32} {h : zm_H} (rE : cE g h) (b broad : Int32) {s : Int32} (hs : ¬ s = 0) : fHa_corrected (d + 1) b broad s h = some (some (.int (nxt g b broad s)), h) := by
  rw [fHa_corrected_eq, rE 8 (by omega) (by omega), cN, cF hs, cN, cF hs, cI, cI]; rfl
theorem nextM (d : Nat) {g : Nat → Int32} {t k : Nat} {h : zm_H} (rE : mE g t k h) (b broad : Int32) {s : Int32} (hs : ¬ s = 0) : fM_next (d + 1) b broad s h = some (some (.int (nxt g b broad s)), h) := by
  obtain ⟨g1, g2, g3, g4, g5, g6, g7, g8, g9⟩ := rE
  rw [fM_next_eq, g8, cN, cF hs, cI, cI]; rfl
def trs (lw : Option (List (List Nat × List Nat))) (g : Nat → Int32) (s : Int32) : Nat → Nat → Int32 → Int32 × Int32
  | 0, _, b => (-2, b)
  | n + 1, i, b => cond (rgt g b (b - clo lw g b)) (iN i, b) (trs lw g s n (i + 1) (nxt g b (b - clo lw g b) s))
theorem trs_r (lw : Option (List (List Nat × List Nat))) (g : Nat → Int32) (s : Int32) : ∀ (n i : Nat) (b : Int32), (trs lw g s n i b).1 = -2 ∨ ∃ j, i ≤ j ∧ j < i + n ∧ (trs lw g s n i b).1 = iN j := by
  intro n
  induction n with
  | zero => intro i b; exact .inl rfl
  | succ n ih =>
    intro i b
    rw [trs]
    cases rgt g b (b - clo lw g b)
    · rcases ih (i + 1) (nxt g b (b - clo lw g b) s) with h | ⟨j, h1, h2, h3⟩
      · exact .inl h
      · exact .inr ⟨j, by omega, by omega, h3⟩
    · exact .inr ⟨i, by omega, by omega, rfl⟩
theorem triesC_l (d : Nat) {lw : Option (List (List Nat × List Nat))} {g : Nat → Int32} {s : Int32} (hs : ¬ s = 0) : ∀ (n i : Nat) (b : Int32) (h : zm_H), i + n = 61 → lwC lw h → cE g h →
    ∃ K, fHa_tries_c5 (d + 5) s b (iN i) h = some (some (.int (trs lw g s n i b).1), K) ∧ frH h K ∧ cE g K ∧ ((trs lw g s n i b).1 = -2 ∨ K.1 14 10 = (trs lw g s n i b).2) := by
  intro n
  induction n with
  | zero =>
    intro i b h hi _ rE
    refine ⟨h, ?_, frH_r h, rE, .inl rfl⟩
    rw [fHa_tries_c5_eq, cT (by simp (disch := omega) only [iN_add, iN_addl, iN_addr, iN_mul, iN_mull, iN_mulr, iN_sub, iN_subl, iN_subr, iN_c, iN_lt, iN_ltl, iN_ltr, iN_le, iN_lel, iN_ler, iN_eq, iN_eql, iN_eqr]; omega)]; rfl
  | succ n ih =>
    intro i b h hi rl rE
    obtain ⟨K, k1, k2⟩ := clothC d rl rE b
    rw [fHa_tries_c5_eq, cF (by simp (disch := omega) only [iN_add, iN_addl, iN_addr, iN_mul, iN_mull, iN_mulr, iN_sub, iN_subl, iN_subr, iN_c, iN_lt, iN_ltl, iN_ltr, iN_le, iN_lel, iN_ler, iN_eq, iN_eql, iN_eqr]; omega), k1, bI, rightC (d + 2) (cE_f k2 rE), bI, zi_0, trs]
    cases rgt g b (b - clo lw g b)
    · obtain ⟨M, m1, m2, m3, m4⟩ := ih (i + 1) (nxt g b (b - clo lw g b) s) K (by omega) (lwC_f k2 rl) (cE_f k2 rE)
      refine ⟨M, ?_, frH_t (frH_C k2) m2, m3, m4⟩
      rw [Bool.not_false, Bool.cond_true, corrC (d + 3) (cE_f k2 rE) b _ hs, bI, iN_addr]; exact m1
    · refine ⟨zm_ui K 14 10 b, rfl, frH_t (frH_C k2) (frH_14 _ _ _), ?_, .inr (ui_s _ _ _ _)⟩
      intro j h1 h2
      rw [ui_k (by omega)]; exact cE_f k2 rE j h1 h2
theorem triesC (d : Nat) {lw : Option (List (List Nat × List Nat))} {g : Nat → Int32} {s : Int32} (hs : ¬ s = 0) (b : Int32) {h : zm_H} (rl : lwC lw h) (rE : cE g h) :
    ∃ K, fHa_tries (d + 5) b s h = some (some (.int (trs lw g s 60 1 b).1), K) ∧ frH h K ∧ cE g K ∧ ((trs lw g s 60 1 b).1 = -2 ∨ K.1 14 10 = (trs lw g s 60 1 b).2) := by
  obtain ⟨K, k1, k2⟩ := triesC_l d hs 60 1 b h (by omega) rl rE
  exact ⟨K, by rw [fHa_tries_eq]; exact k1, k2⟩
/-- the reference's tries: its stack and here -/
def frT (h K : zm_H) : Prop := (∀ a, a ≠ 65 → a ≠ 45 → K.1 a = h.1 a) ∧ (∀ b, b ≠ 48 → K.1 45 b = h.1 45 b) ∧ K.2 = h.2
theorem frT_r (h : zm_H) : frT h h := ⟨fun _ _ _ => rfl, fun _ _ => rfl, rfl⟩
theorem frT_t {h K M : zm_H} (e : frT h K) (f : frT K M) : frT h M := ⟨fun a h1 h2 => (f.1 a h1 h2).trans (e.1 a h1 h2), fun b h1 => (f.2.1 b h1).trans (e.2.1 b h1), f.2.2.trans e.2.2⟩
theorem frT_M {h K : zm_H} (e : frM h K) : frT h K := ⟨fun a h1 _ => e.1 a h1, fun b _ => by rw [e.1 45 (by omega)], e.2⟩
theorem frT_48 (h : zm_H) (v : Int32) : frT h (zm_ui h 45 48 v) := ⟨fun a h1 h2 => ui_f h2, fun b h1 => ui_k h1, rfl⟩
theorem frQ_T {h K : zm_H} (e : frT h K) : frQ h K := ⟨fun a h1 h2 h3 h4 h5 => e.1 a (by omega) h3, fun b _ => by rw [e.1 11 (by omega) (by omega)], fun b _ h2 _ => e.2.1 b h2, e.2.2⟩
theorem frT_mE {g : Nat → Int32} {t k : Nat} {h K : zm_H} (e : frT h K) (r : mE g t k h) : mE g t k K := by
  unfold mE at *
  rw [e.1 46 (by omega) (by omega), e.1 47 (by omega) (by omega), e.1 48 (by omega) (by omega), e.1 49 (by omega) (by omega), e.1 50 (by omega) (by omega), e.1 52 (by omega) (by omega), e.2.1 8 (by omega), e.2.1 9 (by omega), e.2.1 10 (by omega)]; exact r
theorem frT_lwM {lw : Option (List (List Nat × List Nat))} {h K : zm_H} (e : frT h K) (r : lwM lw h) : lwM lw K := by
  cases lw with
  | none => exact (e.2.1 17 (by omega)).trans r
  | some ls => exact ⟨(e.2.1 17 (by omega)).trans r.1, r.2.1, r.2.2.1, (e.2.1 18 (by omega)).trans r.2.2.2.1, lml_d (e.1 57 (by omega) (by omega)) (e.1 58 (by omega) (by omega)) (e.1 59 (by omega) (by omega)) (e.1 60 (by omega) (by omega)) ls _ _ r.2.2.2.2.1, r.2.2.2.2.2⟩
theorem triesM_l (d : Nat) {lw : Option (List (List Nat × List Nat))} {g : Nat → Int32} {t k : Nat} (ht : t < 8) (hk : k < 5) {s : Int32} (hs : ¬ s = 0) : ∀ (n i : Nat) (b : Int32) (h : zm_H), i + n = 61 → h.1 45 48 = b → lwM lw h → mE g t k h →
    ∃ K, fM_tries_c8 (d + 6) (iN t) (iN k) s (iN i) h = some (some (.int (trs lw g s n i b).1), K) ∧ frT h K ∧ ((trs lw g s n i b).1 = -2 ∨ K.1 45 48 = (trs lw g s n i b).2) := by
  intro n
  induction n with
  | zero =>
    intro i b h hi _ _ _
    refine ⟨h, ?_, frT_r h, .inl rfl⟩
    rw [fM_tries_c8_eq, cT (by simp (disch := omega) only [iN_add, iN_addl, iN_addr, iN_mul, iN_mull, iN_mulr, iN_sub, iN_subl, iN_subr, iN_c, iN_lt, iN_ltl, iN_ltr, iN_le, iN_lel, iN_ler, iN_eq, iN_eql, iN_eqr]; omega)]; rfl
  | succ n ih =>
    intro i b h hi eb rl rE
    obtain ⟨K, k1, k2⟩ := clothM d ht hk rl rE b
    have e45 : K.1 45 48 = b := by rw [k2.1 45 (by omega)]; exact eb
    rw [fM_tries_c8_eq, cF (by simp (disch := omega) only [iN_add, iN_addl, iN_addr, iN_mul, iN_mull, iN_mulr, iN_sub, iN_subl, iN_subr, iN_c, iN_lt, iN_ltl, iN_ltr, iN_le, iN_lel, iN_ler, iN_eq, iN_eql, iN_eqr]; omega), eb, k1, bI, e45, rightM (d + 3) ht (mE_f k2 rE), bI, zi_0, trs]
    cases rgt g b (b - clo lw g b)
    · obtain ⟨M, m1, m2, m3⟩ := ih (i + 1) (nxt g b (b - clo lw g b) s) (zm_ui K 45 48 (nxt g b (b - clo lw g b) s)) (by omega) (ui_s _ _ _ _) (frT_lwM (frT_48 _ _) (lwM_f k2 rl)) (frT_mE (frT_48 _ _) (mE_f k2 rE))
      refine ⟨M, ?_, frT_t (frT_t (frT_M k2) (frT_48 _ _)) m2, m3⟩
      rw [Bool.not_false, Bool.cond_true, e45, nextM (d + 4) (mE_f k2 rE) b _ hs, bI, iN_addr]; exact m1
    · exact ⟨K, rfl, frT_M k2, .inr e45⟩
theorem triesM (d : Nat) {lw : Option (List (List Nat × List Nat))} {g : Nat → Int32} {t k : Nat} (ht : t < 8) (hk : k < 5) {s : Int32} (hs : ¬ s = 0) (b : Int32) {h : zm_H} (rl : lwM lw h) (rE : mE g t k h) :
    ∃ K, fM_tries (d + 6) (iN t) (iN k) b s h = some (some (.int (trs lw g s 60 1 b).1), K) ∧ frT h K ∧ ((trs lw g s 60 1 b).1 = -2 ∨ K.1 45 48 = (trs lw g s 60 1 b).2) := by
  obtain ⟨K, k1, k2, k3⟩ := triesM_l d ht hk hs 60 1 b (zm_ui h 45 48 b) (by omega) (ui_s _ _ _ _) (frT_lwM (frT_48 _ _) rl) (frT_mE (frT_48 _ _) rE)
  exact ⟨K, by rw [fM_tries_eq]; exact k1, frT_t (frT_48 _ _) k2, k3⟩
theorem iN_n0 {s : Nat} (h1 : 1 ≤ s) (h2 : s ≤ 4) : ¬ iN s = 0 := by simp (disch := omega) only [iN_add, iN_addl, iN_addr, iN_mul, iN_mull, iN_mulr, iN_sub, iN_subl, iN_subr, iN_c, iN_lt, iN_ltl, iN_ltr, iN_le, iN_lel, iN_ler, iN_eq, iN_eql, iN_eqr]; omega
theorem K_correct (d : Nat) {L : Nat} {xs : Nat → Int32} {h : zm_H} (r : RR L xs h) (a bs w : Int32) : okC L xs (fE_correct (d + 20) a bs w) (fM_correct (d + 20) a bs w) h := by
  have r0 := r
  obtain ⟨T, P, D, A, S, B, Q, W, N, C, T', Lw, G, I, Bd, Sh⟩ := r
  have N0 := N
  obtain ⟨⟨hT, hP, n1, n2, n3, n4⟩, N1, N2, N3⟩ := N
  obtain ⟨lw, l1, l2⟩ := rL_lw Lw
  cases q : tkB T a
  · refine okC_same r0 (-1) ?_ ?_
    · rw [fE_correct_eq, tkE (d + 16) a n1 n3, q, bI, cT (by decide)]
    · rw [fM_correct_eq, tkM (d + 16) hT a n2, q, bI, cT (by decide)]
  · obtain ⟨t, k, ht, hk, e1, e2⟩ := tk_ex hT q
    cases q2 : trB bs
    · refine okC_same r0 (-1) ?_ ?_
      · rw [fE_correct_eq, tkE (d + 16) a n1 n3, q, bI, cF (by decide), trE (d + 17) W, q2, bI, cT (by decide)]
      · rw [fM_correct_eq, tkM (d + 16) hT a n2, q, bI, cF (by decide), trM (d + 16), q2, bI, cT (by decide)]
    · obtain ⟨b, s, hb, hs1, hs2, e3, e4⟩ := tr_ex q2
      by_cases q3 : w < 0 ∨ 1 < w
      · refine okC_same r0 (-1) ?_ ?_
        · rw [fE_correct_eq, tkE (d + 16) a n1 n3, q, bI, cF (by decide), trE (d + 17) W, q2, bI, cF (by decide)]
          by_cases q4 : w < 0
          · rw [cT q4]
          · rw [cF q4, cF (by grind)]
        · rw [fM_correct_eq, tkM (d + 16) hT a n2, q, bI, cF (by decide), trM (d + 16), q2, bI, cF (by decide), within_s, show (decide (0 ≤ w) && decide (w ≤ 1)) = false by grind]; rfl
      · obtain ⟨K, k1, k2, k3⟩ := hung_s (d + 14) e1 e2 hT hP n1 n3 ht hk
        obtain ⟨K2, c1, c2, c3, c4⟩ := triesC (d + 14) (iN_n0 hs1 hs2) (iN b) (frH_lwC k3 l1) k2
        have f2 := frH_t k3 c2
        obtain ⟨M, m1, m2, m3⟩ := triesM (d + 13) (t := t) (k := k) (by omega) hk (iN_n0 hs1 hs2) (iN b) (frH_lwM f2 l2) (frH_mE f2 (mE_of N0 ht hk))
        have hE : fE_correct (d + 20) a bs w h = cond (decide ((trs lw (gOf h t k) (iN s) 60 1 (iN b)).1 = -2)) (some (some (.int (trs lw (gOf h t k) (iN s) 60 1 (iN b)).1), K2)) (cond (!(decide (w = 0))) (some (some (.int (K2.1 14 10)), K2)) (some (some (.int (trs lw (gOf h t k) (iN s) 60 1 (iN b)).1), K2))) := by
          rw [fE_correct_eq, tkE (d + 16) a n1 n3, q, bI, cF (by decide), trE (d + 17) W, q2, bI, cF (by decide), cF (by grind), cT (by grind), k1, bQ, e4, e3, c1, bI]
        have hM : fM_correct (d + 20) a bs w K2 = cond (decide ((trs lw (gOf h t k) (iN s) 60 1 (iN b)).1 = -2)) (some (some (.int (trs lw (gOf h t k) (iN s) 60 1 (iN b)).1), M)) (cond (!(decide (w = 0))) (some (some (.int (M.1 45 48)), M)) (some (some (.int (trs lw (gOf h t k) (iN s) 60 1 (iN b)).1), M))) := by
          rw [fM_correct_eq, tkM (d + 16) hT a (by rw [f2.1 45 (by omega) (by omega) (by omega)]; exact n2), q, bI, cF (by decide), trM (d + 16), q2, bI, cF (by decide), within_s, show (decide (0 ≤ w) && decide (w ≤ 1)) = true by grind, bI, cN, cF (by decide), e2, e1, e4, e3, m1, bI]
        generalize trs lw (gOf h t k) (iN s) 60 1 (iN b) = R at *
        refine ⟨cond (decide (R.1 = -2)) R.1 (cond (!(decide (w = 0))) R.2 R.1), K2, M, ?_, ?_, RR_q r0 (frQ_t (frQ_H f2) (frQ_T m2))⟩
        · rw [hE]
          by_cases u : R.1 = -2
          · rw [decide_eq_true u]; rfl
          · rw [c4.resolve_left u, cI, cI]
        · rw [hM]
          by_cases u : R.1 = -2
          · rw [decide_eq_true u]; rfl
          · rw [m3.resolve_left u, cI, cI]
theorem K_takes (d : Nat) {L : Nat} {xs : Nat → Int32} {h : zm_H} (r : RR L xs h) (p a : Int32) : okC L xs (fE_takes (d + 20) p a) (fM_takes (d + 20) p a) h := by
  have r0 := r
  obtain ⟨T, P, D, A, S, B, Q, W, N, C, T', Lw, G, I, Bd, Sh⟩ := r
  have N0 := N
  obtain ⟨⟨hT, hP, n1, n2, n3, n4⟩, N1, N2, N3⟩ := N
  obtain ⟨lw, l1, l2⟩ := rL_lw Lw
  by_cases qp : 0 ≤ p ∧ p < iN P
  · obtain ⟨p, hp, rfl⟩ := iN_ex qp.1 qp.2 (by omega)
    cases q : tkB T a
    · refine okC_same r0 (-1) ?_ ?_
      · rw [fE_takes_eq, has_s (d + 17) n1 n3 (x := 9) (w := 9) rfl (by omega), in_t (c := iN (cnt T P 9)) qp, bI, cF (by decide), tkE (d + 16) a n1 n3, q, bI, cN, cT (by decide)]
      · rw [fM_takes_eq, isTier_s (d + 17) (by omega) _ _ n4, in_t qp, bI, cF (by decide), tkM (d + 16) hT a n2, q, bI, cT (by decide)]
    · obtain ⟨t, k, ht, hk, e1, e2⟩ := tk_ex hT q
      have f10 := N2 10 p (by omega) hp
      have hs : ¬ h.1 2 (10 * 8 + p) = 0 := by
        have := f10.1
        rw [show lo 10 = 1 from rfl] at this
        grind
      obtain ⟨K, k1, k2, k3⟩ := hung_s (d + 14) e1 e2 hT hP n1 n3 ht hk
      have K1 := k3.1 1 (by omega) (by omega) (by omega)
      have K2' := k3.1 2 (by omega) (by omega) (by omega)
      obtain ⟨K2, c1, c2, c3, c4⟩ := triesC (d + 13) hs (h.1 2 (11 * 8 + p)) (frH_lwC k3 l1) k2
      have f2 := frH_t k3 c2
      have L1 := f2.1 1 (by omega) (by omega) (by omega)
      have L2 := f2.1 2 (by omega) (by omega) (by omega)
      obtain ⟨M, m1, m2, m3⟩ := triesM (d + 12) (t := t) (k := k) (by omega) hk hs (h.1 2 (11 * 8 + p)) (frH_lwM f2 l2) (frH_mE f2 (mE_of N0 ht hk))
      have p9 : h.1 53 p = h.1 2 (9 * 8 + p) := N1 9 p (by omega) hp
      have p10 : h.1 54 p = h.1 2 (10 * 8 + p) := N1 10 p (by omega) hp
      have p11 : h.1 55 p = h.1 2 (11 * 8 + p) := N1 11 p (by omega) hp
      refine ⟨cond (!(decide ((trs lw (gOf h t k) (h.1 2 (10 * 8 + p)) 60 1 (h.1 2 (11 * 8 + p))).1 = -2))) (h.1 2 (9 * 8 + p) * (trs lw (gOf h t k) (h.1 2 (10 * 8 + p)) 60 1 (h.1 2 (11 * 8 + p))).1) (h.1 2 (9 * 8 + p) * 60), K2, M, ?_, ?_, RR_q r0 (frQ_t (frQ_H f2) (frQ_T m2))⟩
      · rw [fE_takes_eq, has_s (d + 17) n1 n3 (x := 9) (w := 9) rfl (by omega), in_t (c := iN (cnt T P 9)) qp, bI, cF (by decide), tkE (d + 16) a n1 n3, q, bI, cN, cF (by decide), k1, bQ]
        rw [fE_minutesOf_eq, read_s (d + 15) hT (by omega) (by rw [K1]; exact n1) (by rw [K1]; exact n3) (x := 11) (w := 11) rfl (by omega) hp, bI, read_s (d + 15) hT (by omega) (by rw [K1]; exact n1) (by rw [K1]; exact n3) (x := 10) (w := 10) rfl (by omega) hp, bI, K2', c1, bI]
        rw [read_s (d + 15) hT (by omega) (by rw [L1]; exact n1) (by rw [L1]; exact n3) (x := 9) (w := 9) rfl (by omega) hp, bI, L2, cI, bI]
      · rw [fM_takes_eq, isTier_s (d + 17) (T := P) (by omega) _ _ (by rw [f2.1 45 (by omega) (by omega) (by omega)]; exact n4), in_t qp, bI, cF (by decide), tkM (d + 16) hT a (by rw [f2.1 45 (by omega) (by omega) (by omega)]; exact n2), q, bI, cF (by decide), e2, e1]
        rw [fM_takesFor_eq, gR_55 (by omega), gR_54 (by omega), iN_c (by omega), f2.1 55 (by omega) (by omega) (by omega), f2.1 54 (by omega) (by omega) (by omega), p11, p10, Bool.cond_true, Bool.cond_true, m1, bI, gR_53 (by omega), m2.1 53 (by omega) (by omega), f2.1 53 (by omega) (by omega) (by omega), p9, cI, Bool.cond_true, bI]
  · refine okC_same r0 (-1) ?_ ?_
    · rw [fE_takes_eq, has_s (d + 17) n1 n3 (x := 9) (w := 9) rfl (by omega), in_f (c := iN (cnt T P 9)) qp, bI, cT (by decide)]
    · rw [fM_takes_eq, isTier_s (d + 17) (by omega) _ _ n4, in_f qp, bI, cT (by decide)]
