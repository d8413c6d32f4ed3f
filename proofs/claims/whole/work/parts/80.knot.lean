/-! where, knot -/
theorem rts_0 (p : Nat → Bool) (k b : Nat) (l : Int32) (m : Nat) (t : Int32) : rts p 0 k b l m t = ls2 p k b l := rfl
theorem rts_1 (p : Nat → Bool) (k b : Nat) (l : Int32) (m : Nat) (t : Int32) : rts p 1 k b l m t = iN (cp2 p k b m) := rfl
theorem rts_2 (p : Nat → Bool) (k b : Nat) (l : Int32) (m : Nat) (t : Int32) : rts p 2 k b l m t = gs2 p k b t := rfl
theorem gs2_0 (p : Nat → Bool) (k : Nat) : gs2 p k 0 (-2) = gst p 0 k := by
  have e := gs2_gst p 0 k 0
  rw [Nat.zero_add, Nat.zero_add] at e; exact e
theorem K_where (d : Nat) {L : Nat} {xs : Nat → Int32} {h : zm_H} (r : RR L xs h) (a w : Int32) : okC L xs (fE_where (d + 20) a w) (fM_where (d + 20) a w) h := by
  have r0 := r
  obtain ⟨T, P, D, A, S, B, Q, W, N, C, T', Lw, G, I, Bd, Sh⟩ := r
  have N0 := N
  obtain ⟨⟨hT, hP, n1, n2, n3, n4⟩, N1, N2, N3⟩ := N
  obtain ⟨lw, l1, l2⟩ := rL_lw Lw
  cases q : tkB T a
  · refine okC_same r0 (-1) ?_ ?_
    · rw [fE_where_eq, tkE (d + 16) a n1 n3, q, bI, cT (by decide)]
    · rw [fM_where_eq, tkM (d + 16) hT a n2, q, bI, cT (by decide)]
  · obtain ⟨t, k, ht, hk, e1, e2⟩ := tk_ex hT q
    by_cases q3 : w < 0 ∨ 2 < w
    · refine okC_same r0 (-1) ?_ ?_
      · rw [fE_where_eq, tkE (d + 16) a n1 n3, q, bI, cF (by decide)]
        by_cases q4 : w < 0
        · rw [cT q4]
        · rw [cF q4, cF (by grind)]
      · rw [fM_where_eq, tkM (d + 16) hT a n2, q, bI, cF (by decide), within_s, show (decide (0 ≤ w) && decide (w ≤ 2)) = false by grind]; rfl
    · obtain ⟨K, k1, k2, k3⟩ := hung_s (d + 14) e1 e2 hT hP n1 n3 ht hk
      have gr := gR_of N0 ht hk
      have hM : ∀ K2, frH h K2 → ∃ M, fM_where (d + 20) a w K2 = some (some (.int (rts (prt lw (gOf h t k)) w 201 0 (-2) 0 (-2))), M) ∧ RR L xs M := by
        intro K2 f2
        obtain ⟨M, m1, m2⟩ := rightsM (d + 12) (t := t) (k := k) (by omega) hk w (frH_lwM f2 l2) (frH_mE f2 (mE_of N0 ht hk))
        refine ⟨M, ?_, RR_q r0 (frQ_t (frQ_H f2) (frQ_M m2))⟩
        rw [fM_where_eq, tkM (d + 16) hT a (by rw [f2.1 45 (by omega) (by omega) (by omega)]; exact n2), q, bI, cF (by decide), within_s, show (decide (0 ≤ w) && decide (w ≤ 2)) = true by grind, bI, cF (by decide), e2, e1, m1]; rfl
      have hE : fE_where (d + 20) a w h = cond (!(decide (w = (1 : Int32)))) (cond (!(decide (w = 0))) (zb_I (fHa_greatestRight (d + 19) K) (fun v5 h4 => some (some (.int v5), h4))) (zb_I (fHa_leastRight (d + 19) K) (fun v7 h6 => some (some (.int v7), h6)))) (zb_I (fHa_rightOnes (d + 19) K) (fun v9 h8 => some (some (.int v9), h8))) := by
        rw [fE_where_eq, tkE (d + 16) a n1 n3, q, bI, cF (by decide), cF (by grind), cT (by grind), k1, bQ]
      have : w = 0 ∨ w = 1 ∨ w = 2 := by grind
      rcases this with rfl | rfl | rfl
      · obtain ⟨K2, c1, c2⟩ := leastC (d + 13) gr (frH_lwC k3 l1) k2
        obtain ⟨M, m1, m2⟩ := hM K2 (frH_t k3 (frH_C c2))
        refine ⟨_, K2, M, ?_, m1, m2⟩
        rw [hE, cN, cF (by decide), cN, cT rfl, c1, bI, rts_0, ls2_lst _ _ _ (by omega)]
      · obtain ⟨K2, c1, c2⟩ := onesC (d + 13) gr (frH_lwC k3 l1) k2
        obtain ⟨M, m1, m2⟩ := hM K2 (frH_t k3 (frH_C c2))
        refine ⟨_, K2, M, ?_, m1, m2⟩
        rw [hE, cN, cT rfl, c1, bI, rts_1]
      · obtain ⟨K2, c1, c2⟩ := greatestC (d + 13) gr (frH_lwC k3 l1) k2
        obtain ⟨M, m1, m2⟩ := hM K2 (frH_t k3 (frH_C c2))
        refine ⟨_, K2, M, ?_, m1, m2⟩
        rw [hE, cN, cF (by decide), cN, cF (by decide), c1, bI, rts_2, gs2_0]
/-- the worth of a KNOT -/
def wrt (w : Int32) (p : Nat → Bool) (g6 : Int32) : Int32 := cond (decide (w = 0)) (iN (cp2 p 201 0 0)) (cond (decide (cp2 p 201 0 0 = 0)) 0 g6)
def knf (W : Nat → Int32) : Nat → Nat → Int32 → Int32 → Int32
  | 0, _, x, _ => x
  | n + 1, k, x, m => cond (decide (W k ≤ m)) (knf W n (k + 1) x m) (knf W n (k + 1) (iN k) (W k))
theorem turnsC (d : Nat) {lw : Option (List (List Nat × List Nat))} {g : Nat → Int32} (r : gR g) {h : zm_H} (rl : lwC lw h) (rE : cE g h) : ∃ K, fHa_turnsIfRight (d + 7) h = some (some (.int (cond (decide (cp2 (prt lw g) 201 0 0 = 0)) 0 (g 6))), K) ∧ frC h K := by
  obtain ⟨K, k1, k2⟩ := leastC d r rl rE
  refine ⟨K, ?_, k2⟩
  rw [fHa_turnsIfRight_eq, k1, bI, cN]
  have e := lst_cp (prt lw g) 201 0 (by omega)
  by_cases q : lst (prt lw g) 201 0 = -2
  · rw [cT q, decide_eq_true (e.mp q), Bool.cond_true]
  · rw [cF q, decide_eq_false (fun x => q (e.mpr x)), cE_f k2 rE 6 (by omega) (by omega), Bool.cond_false]
theorem gOf_H {h K : zm_H} (e : frH h K) (t k : Nat) : gOf K t k = gOf h t k := by
  unfold gOf
  rw [e.1 2 (by omega) (by omega) (by omega)]
theorem knotC (d : Nat) {T P t : Nat} (hT : T ≤ 8) (hP : P ≤ 6) (ht : t < T) (w : Int32) (lw : Option (List (List Nat × List Nat))) (g : Nat → Nat → Int32) (gr : ∀ k, k < 5 → gR (g k)) : ∀ (n k : Nat) (x m : Int32) (h : zm_H), k + n = 5 → h.1 1 1 = iN T → h.1 1 2 = iN P → lwC lw h → (∀ k, k < 5 → gOf h t k = g k) →
    ∃ K, fE_knot_c32 (d + 8) (iN t) w x m (iN k) h = some (some (.int (knf (fun k => wrt w (prt lw (g k)) (g k 6)) n k x m)), K) ∧ frH h K := by
  intro n
  induction n with
  | zero =>
    intro k x m h hk _ _ _ _
    obtain rfl : k = 5 := by omega
    refine ⟨h, ?_, frH_r h⟩
    rw [fE_knot_c32_eq, cT (by decide)]; rfl
  | succ n ih =>
    intro k x m h hk n1 n3 rl hg
    obtain ⟨K, k1, k2, k3, k4⟩ := lay_s (d + 3) hT hP n1 n3 ht (by omega : k < 5)
    rw [hg k (by omega)] at k2
    have fin : ∀ (K2 : zm_H), frC K K2 → ∃ M, (cond (decide (wrt w (prt lw (g k)) (g k 6) ≤ m)) (fE_knot_c32 (d + 8) (iN t) w x m (iN (k + 1)) K2) (fE_knot_c32 (d + 8) (iN t) w (iN k) (wrt w (prt lw (g k)) (g k 6)) (iN (k + 1)) K2)) = some (some (.int (knf (fun k => wrt w (prt lw (g k)) (g k 6)) (n + 1) k x m)), M) ∧ frH h M := by
      intro K2 c2
      have f2 := frH_t k3 (frH_C c2)
      have e1 := f2.1 1 (by omega) (by omega) (by omega)
      rw [knf]
      cases decide (wrt w (prt lw (g k)) (g k 6) ≤ m)
      · obtain ⟨M, m1, m2⟩ := ih (k + 1) (iN k) (wrt w (prt lw (g k)) (g k 6)) K2 (by omega) (by rw [e1]; exact n1) (by rw [e1]; exact n3) (frH_lwC f2 rl) (fun k hk => by rw [gOf_H f2]; exact hg k hk)
        exact ⟨M, m1, frH_t f2 m2⟩
      · obtain ⟨M, m1, m2⟩ := ih (k + 1) x m K2 (by omega) (by rw [e1]; exact n1) (by rw [e1]; exact n3) (frH_lwC f2 rl) (fun k hk => by rw [gOf_H f2]; exact hg k hk)
        exact ⟨M, m1, frH_t f2 m2⟩
    rw [fE_knot_c32_eq, cF (by simp (disch := omega) only [iN_add, iN_addl, iN_addr, iN_mul, iN_mull, iN_mulr, iN_sub, iN_subl, iN_subr, iN_c, iN_lt, iN_ltl, iN_ltr, iN_le, iN_lel, iN_ler, iN_eq, iN_eql, iN_eqr]; omega), k1, bV]
    by_cases q : w = 0
    · obtain ⟨K2, c1, c2⟩ := onesC (d + 1) (gr k (by omega)) (frH_lwC k3 rl) k2
      obtain ⟨M, m1, m2⟩ := fin K2 c2
      refine ⟨M, ?_, m2⟩
      rw [cN, cT q, c1, bI, iN_addr, ← m1]
      rw [show wrt w (prt lw (g k)) (g k 6) = iN (cp2 (prt lw (g k)) 201 0 0) by unfold wrt; rw [decide_eq_true q, Bool.cond_true]]
    · obtain ⟨K2, c1, c2⟩ := turnsC d (gr k (by omega)) (frH_lwC k3 rl) k2
      obtain ⟨M, m1, m2⟩ := fin K2 c2
      refine ⟨M, ?_, m2⟩
      rw [cN, cF q, c1, bI, iN_addr, ← m1]
      rw [show wrt w (prt lw (g k)) (g k 6) = cond (decide (cp2 (prt lw (g k)) 201 0 0 = 0)) 0 (g k 6) by unfold wrt; rw [decide_eq_false q, Bool.cond_false]]
theorem knotM (d : Nat) {t : Nat} (ht : t < 8) (w : Int32) (lw : Option (List (List Nat × List Nat))) (g : Nat → Nat → Int32) : ∀ (n k : Nat) (x m : Int32) (h : zm_H), k + n = 5 → lwM lw h → (∀ k, k < 5 → mE (g k) t k h) →
    ∃ K, fM_knot_c28 (d + 8) (iN t) w x m (iN k) h = some (some (.int (knf (fun k => wrt w (prt lw (g k)) (g k 6)) n k x m)), K) ∧ frM h K := by
  intro n
  induction n with
  | zero =>
    intro k x m h hk _ _
    obtain rfl : k = 5 := by omega
    refine ⟨h, ?_, frM_r h⟩
    rw [fM_knot_c28_eq, cT (by decide)]; rfl
  | succ n ih =>
    intro k x m h hk rl hg
    have gk := hg k (by omega)
    obtain ⟨K, k1, k2⟩ := rightsM d ht (by omega : k < 5) 1 rl gk
    have fin : ∃ M, (cond (decide (wrt w (prt lw (g k)) (g k 6) ≤ m)) (fM_knot_c28 (d + 8) (iN t) w x m (iN (k + 1)) K) (fM_knot_c28 (d + 8) (iN t) w (iN k) (wrt w (prt lw (g k)) (g k 6)) (iN (k + 1)) K)) = some (some (.int (knf (fun k => wrt w (prt lw (g k)) (g k 6)) (n + 1) k x m)), M) ∧ frM h M := by
      rw [knf]
      cases decide (wrt w (prt lw (g k)) (g k 6) ≤ m)
      · obtain ⟨M, m1, m2⟩ := ih (k + 1) (iN k) (wrt w (prt lw (g k)) (g k 6)) K (by omega) (lwM_f k2 rl) (fun k hk => mE_f k2 (hg k hk))
        exact ⟨M, m1, frM_t k2 m2⟩
      · obtain ⟨M, m1, m2⟩ := ih (k + 1) x m K (by omega) (lwM_f k2 rl) (fun k hk => mE_f k2 (hg k hk))
        exact ⟨M, m1, frM_t k2 m2⟩
    obtain ⟨M, m1, m2⟩ := fin
    refine ⟨M, ?_, m2⟩
    have sw : ∀ (v : Int32) (X Y : zm_R), cond (decide (m < v)) X Y = cond (decide (v ≤ m)) Y X := by
      intro v X Y
      by_cases e : m < v
      · rw [cT e, cF (Int32.not_le.mpr e)]
      · rw [cF e, cT (Int32.not_lt.mp e)]
    have hb := (cp2_ge (prt lw (g k)) 201 0 0).2
    rw [fM_knot_c28_eq, cF (by simp (disch := omega) only [iN_add, iN_addl, iN_addr, iN_mul, iN_mull, iN_mulr, iN_sub, iN_subl, iN_subr, iN_c, iN_lt, iN_ltl, iN_ltr, iN_le, iN_lel, iN_ler, iN_eq, iN_eql, iN_eqr]; omega), k1, bI, rts_1, iN_addr, ← m1]
    by_cases q : w = 0
    · rw [cT q, sw]
      rw [show wrt w (prt lw (g k)) (g k 6) = iN (cp2 (prt lw (g k)) 201 0 0) by unfold wrt; rw [decide_eq_true q, Bool.cond_true]]
    · rw [cF q, cN]
      by_cases q2 : cp2 (prt lw (g k)) 201 0 0 = 0
      · rw [q2, cT (show iN 0 = 0 from rfl), sw]
        rw [show wrt w (prt lw (g k)) (g k 6) = iN 0 by unfold wrt; rw [decide_eq_false q, decide_eq_true q2]; rfl]
      · rw [cF (by simp (disch := omega) only [iN_add, iN_addl, iN_addr, iN_mul, iN_mull, iN_mulr, iN_sub, iN_subl, iN_subr, iN_c, iN_lt, iN_ltl, iN_ltr, iN_le, iN_lel, iN_ler, iN_eq, iN_eql, iN_eqr]; exact q2), gR_52 (by omega), iN_c (by omega), k2.1 52 (by omega), gk.2.2.2.2.2.1, Bool.cond_true, sw]
        rw [show wrt w (prt lw (g k)) (g k 6) = g k 6 by unfold wrt; rw [decide_eq_false q, decide_eq_false q2]; rfl]
theorem K_knot (d : Nat) {L : Nat} {xs : Nat → Int32} {h : zm_H} (r : RR L xs h) (a w : Int32) : okC L xs (fE_knot (d + 20) a w) (fM_knot (d + 20) a w) h := by
  have r0 := r
  obtain ⟨T, P, D, A, S, B, Q, W, N, C, T', Lw, G, I, Bd, Sh⟩ := r
  have N0 := N
  obtain ⟨⟨hT, hP, n1, n2, n3, n4⟩, N1, N2, N3⟩ := N
  obtain ⟨lw, l1, l2⟩ := rL_lw Lw
  by_cases q : 0 ≤ a ∧ a < iN T
  · obtain ⟨t, ht, rfl⟩ := iN_ex q.1 q.2 (by omega)
    by_cases q3 : w < 0 ∨ 1 < w
    · refine okC_same r0 (-1) ?_ ?_
      · rw [fE_knot_eq, has_s (d + 17) n1 n3 (x := 0) (w := 0) rfl (by omega), in_t (c := iN (cnt T P 0)) q, bI, cF (by decide)]
        by_cases q4 : w < 0
        · rw [cT q4]
        · rw [cF q4, cF (by grind)]
      · rw [fM_knot_eq, isTie_s (d + 17) (by omega) _ _ n2, in_t q, bI, cF (by decide), within_s, show (decide (0 ≤ w) && decide (w ≤ 1)) = false by grind]; rfl
    · obtain ⟨K, k1, k2⟩ := knotC (d + 12) hT hP ht w lw (gOf h t) (fun k hk => gR_of N0 ht hk) 5 0 (-2) 0 h (by omega) n1 n3 l1 (fun _ _ => rfl)
      obtain ⟨M, m1, m2⟩ := knotM (d + 12) (t := t) (by omega) w lw (gOf h t) 5 0 (-2) 0 K (by omega) (frH_lwM k2 l2) (fun k hk => frH_mE k2 (mE_of N0 ht hk))
      refine ⟨knf (fun k => wrt w (prt lw (gOf h t k)) (gOf h t k 6)) 5 0 (-2) 0, K, M, ?_, ?_, RR_q r0 (frQ_t (frQ_H k2) (frQ_M m2))⟩
      · rw [fE_knot_eq, has_s (d + 17) n1 n3 (x := 0) (w := 0) rfl (by omega), in_t (c := iN (cnt T P 0)) q, bI, cF (by decide), cF (by grind), cT (by grind)]; exact k1
      · rw [fM_knot_eq, isTie_s (d + 17) (T := T) (by omega) _ _ (by rw [k2.1 45 (by omega) (by omega) (by omega)]; exact n2), in_t q, bI, cF (by decide), within_s, show (decide (0 ≤ w) && decide (w ≤ 1)) = true by grind, bI, cN, cF (by decide)]; exact m1
  · refine okC_same r0 (-1) ?_ ?_
    · rw [fE_knot_eq, has_s (d + 17) n1 n3 (x := 0) (w := 0) rfl (by omega), in_f (c := iN (cnt T P 0)) q, bI, cT (by decide)]
    · rw [fM_knot_eq, isTie_s (d + 17) (by omega) _ _ n2, in_f q, bI, cT (by decide)]
