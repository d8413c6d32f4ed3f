/-! which, began, thickness -/
def whf (R : Nat → Int32) : Nat → Nat → Int32 → Int32
  | 0, _, x => x
  | n + 1, k, x => cond (decide (R k = -2)) (whf R n (k + 1) (x ||| ((1 : Int32) <<< (iN k &&& 31)))) (whf R n (k + 1) x)
theorem whichC (d : Nat) {T P t : Nat} (hT : T ≤ 8) (hP : P ≤ 6) (ht : t < T) {lw : Option (List (List Nat × List Nat))} {g : Nat → Nat → Int32} {bs b s : Int32} (e3 : bs / 10 = b) (e4 : bs - bs / 10 * 10 = s) (hs : ¬ s = 0) {z n : Nat} (hz : z < 6) (hn : n ≤ 60) {f : Nat → Int64} (hf : ∀ i, i < n → (f i).toInt32.toInt64 = f i) : ∀ (m k : Nat) (x : Int32) (h : zm_H), k + m = 5 → h.1 1 1 = iN T → h.1 1 2 = iN P → lwC lw h → (∀ k, k < 5 → gOf h t k = g k) → h.1 (33 + z) 3 = iN n → (∀ i, i < n → h.2 (39 + z) i = f i) →
    ∃ K, fE_which_c45 (d + 6) (iN z) (iN t) bs x (iN k) h = some (some (.int (whf (fun k => fwr lw (g k) s f n 0 b false) m k x)), K) ∧ frH h K := by
  intro m
  induction m with
  | zero =>
    intro k x h hk _ _ _ _ _ _
    obtain rfl : k = 5 := by omega
    refine ⟨h, ?_, frH_r h⟩
    rw [fE_which_c45_eq, cT (by decide)]; rfl
  | succ m ih =>
    intro k x h hk n1 n3 rl hg e5 ef
    obtain ⟨K, k1, k2, k3, k4⟩ := lay_s (d + 1) hT hP n1 n3 ht (by omega : k < 5)
    rw [hg k (by omega)] at k2
    obtain ⟨K2, c1, c2⟩ := wrongC d hs hz hn hf b (frH_lwC k3 rl) k2 (by rw [k3.1 _ (by omega) (by omega) (by omega)]; exact e5) (fun i hi => by rw [k3.2.2]; exact ef i hi)
    have f2 := frH_t k3 (frH_C c2)
    have E1 := f2.1 1 (by omega) (by omega) (by omega)
    have nx : ∀ x, ∃ M, fE_which_c45 (d + 6) (iN z) (iN t) bs x (iN (k + 1)) K2 = some (some (.int (whf (fun k => fwr lw (g k) s f n 0 b false) m (k + 1) x)), M) ∧ frH K2 M := fun x =>
      ih (k + 1) x K2 (by omega) (by rw [E1]; exact n1) (by rw [E1]; exact n3) (frH_lwC f2 rl) (fun k hk => by rw [gOf_H f2]; exact hg k hk) (by rw [f2.1 _ (by omega) (by omega) (by omega)]; exact e5) (fun i hi => by rw [f2.2.2]; exact ef i hi)
    rw [fE_which_c45_eq, cF (by simp (disch := omega) only [iN_add, iN_addl, iN_addr, iN_mul, iN_mull, iN_mulr, iN_sub, iN_subl, iN_subr, iN_c, iN_lt, iN_ltl, iN_ltr, iN_le, iN_lel, iN_ler, iN_eq, iN_eql, iN_eqr]; omega), k1, bV, gQ_32 hz, iN_c (by omega), rt32 hz, e4, e3, Bool.cond_true, c1, bI, iN_addr, cN, whf]
    cases decide (fwr lw (g k) s f n 0 b false = -2)
    · obtain ⟨M, m1, m2⟩ := nx x
      exact ⟨M, m1, frH_t f2 m2⟩
    · obtain ⟨M, m1, m2⟩ := nx (x ||| ((1 : Int32) <<< (iN k &&& 31)))
      exact ⟨M, m1, frH_t f2 m2⟩
theorem whichM (d : Nat) {t : Nat} (ht : t < 8) {lw : Option (List (List Nat × List Nat))} {g : Nat → Nat → Int32} {bs b s : Int32} (e3 : bs / 10 = b) (e4 : bs - bs / 10 * 10 = s) (hs : ¬ s = 0) {z n : Nat} (hz : z < 6) (hn : n ≤ 60) {f : Nat → Int64} : ∀ (m k : Nat) (x : Int32) (h : zm_H), k + m = 5 → lwM lw h → (∀ k, k < 5 → mE (g k) t k h) → h.1 74 z = iN n → (∀ i, i < n → h.2 75 (60 * z + i) = f i) →
    ∃ K, fM_which_c46 (d + 7) (iN z) (iN t) bs x (iN k) h = some (some (.int (whf (fun k => fwr lw (g k) s f n 0 b false) m k x)), K) ∧ frM h K := by
  intro m
  induction m with
  | zero =>
    intro k x h hk _ _ _ _
    obtain rfl : k = 5 := by omega
    refine ⟨h, ?_, frM_r h⟩
    rw [fM_which_c46_eq, cT (by decide)]; rfl
  | succ m ih =>
    intro k x h hk rl hg e5 ef
    obtain ⟨K, k1, k2⟩ := wrongM d hs ht (by omega : k < 5) hz hn b rl (hg k (by omega)) e5 ef
    have nx : ∀ x, ∃ M, fM_which_c46 (d + 7) (iN z) (iN t) bs x (iN (k + 1)) K = some (some (.int (whf (fun k => fwr lw (g k) s f n 0 b false) m (k + 1) x)), M) ∧ frM K M := fun x =>
      ih (k + 1) x K (by omega) (lwM_f k2 rl) (fun k hk => mE_f k2 (hg k hk)) (by rw [k2.1 74 (by omega)]; exact e5) (fun i hi => by rw [k2.2]; exact ef i hi)
    rw [fM_which_c46_eq, cF (by simp (disch := omega) only [iN_add, iN_addl, iN_addr, iN_mul, iN_mull, iN_mulr, iN_sub, iN_subl, iN_subr, iN_c, iN_lt, iN_ltl, iN_ltr, iN_le, iN_lel, iN_ler, iN_eq, iN_eql, iN_eqr]; omega), e4, e3, k1, bI, iN_addr, cN, whf]
    cases decide (fwr lw (g k) s f n 0 b false = -2)
    · obtain ⟨M, m1, m2⟩ := nx x
      exact ⟨M, m1, frM_t k2 m2⟩
    · obtain ⟨M, m1, m2⟩ := nx (x ||| ((1 : Int32) <<< (iN k &&& 31)))
      exact ⟨M, m1, frM_t k2 m2⟩
theorem K_which (d : Nat) {L : Nat} {xs : Nat → Int32} {h : zm_H} (r : RR L xs h) (z a bs : Int32) : okC L xs (fE_which (d + 20) z a bs) (fM_which (d + 20) z a bs) h := by
  have r0 := r
  obtain ⟨T, P, D, A, S, B, Q, W, N, C, T', Lw, G, I, Bd, Sh⟩ := r
  have hB := Bd.1
  have N0 := N
  obtain ⟨⟨hT, hP, n1, n2, n3, n4⟩, N1, N2, N3⟩ := N
  obtain ⟨lw, l1, l2⟩ := rL_lw Lw
  have bad : ∀ (x : Int32), fE_refusalOfTries (d + 19) z x h = some (some (.int (-1)), h) → ∀ (X : zm_H → zm_R), zb_I (fE_refusalOfTries (d + 19) z x h) (fun v h3 => cond (decide (v = 0)) (X h3) (some (some (.int v), h3))) = some (some (.int (-1)), h) := fun x e X => by rw [e]; rfl
  by_cases qz : z < 0 ∨ 6 ≤ z
  · refine okC_same r0 (-1) ?_ ?_
    · rw [fE_which_eq, has_s (d + 17) n1 n3 (x := 0) (w := 0) rfl (by omega), bI, zi_0, trE (d + 17) W, bI, zi_0, bad 0 (refTr_b _ qz _ _), bad 1 (refTr_b _ qz _ _)]
      cases (decide (0 ≤ a) && decide (a < iN (cnt T P 0))) <;> cases trB bs <;> rfl
    · rw [fM_which_eq, isShelfM_s, le5_n qz, bI, cT (by decide)]
  · have qz1 := le5_6 qz
    obtain ⟨z, hz, rfl⟩ := iN_exn 6 rfl (by decide) qz
    obtain ⟨c, kk, n, V, X⟩ := shv_of hB (Sh z hz)
    by_cases q : 0 ≤ a ∧ a < iN T
    · obtain ⟨t, ht, rfl⟩ := iN_ex q.1 q.2 (by omega)
      cases q2 : trB bs
      · refine okC_same r0 (-1) ?_ ?_
        · rw [fE_which_eq, has_s (d + 17) n1 n3 (x := 0) (w := 0) rfl (by omega), in_t (c := iN (cnt T P 0)) q, bI, cF (by decide), trE (d + 17) W, q2, bI, cT (by decide), bad 0 (refTr_0 _ _ _)]
        · rw [fM_which_eq, isShelfM_s, qz1, bI, cF (by decide), isTie_s (d + 17) (by omega) _ _ n2, in_t q, bI, cF (by decide), trM (d + 16), q2, bI, cN, cT (by decide)]
      · obtain ⟨b, s, hb, hs1, hs2, e3, e4⟩ := tr_ex q2
        by_cases hc : c = 2 ∧ kk = 1
        · obtain ⟨rfl, rfl⟩ := hc
          have X := X rfl
          obtain ⟨v, -⟩ | ⟨v, -⟩ | ⟨-, v0, v1, v2, v3, v4, v5, v6⟩ := id V
          · exact absurd v (by omega)
          · exact absurd v (by omega)
          obtain ⟨K, k1, k2⟩ := whichC (d + 14) hT hP ht (lw := lw) (g := gOf h t) e3 e4 (iN_n0 hs1 hs2) hz v1 (f := h.2 (39 + z)) (fun i hi => (X i hi).2 (by omega)) 5 0 0 h (by omega) n1 n3 l1 (fun _ _ => rfl) v4 (fun _ _ => rfl)
          obtain ⟨M, m1, m2⟩ := whichM (d + 13) (t := t) (by omega) (lw := lw) (g := gOf h t) e3 e4 (iN_n0 hs1 hs2) hz v1 (f := h.2 (39 + z)) 5 0 0 K (by omega) (frH_lwM k2 l2) (fun k hk => frH_mE k2 (mE_of N0 ht hk)) (by rw [k2.1 74 (by omega) (by omega) (by omega)]; exact v6) (fun i hi => by rw [k2.2.2]; exact (X i hi).1)
          refine ⟨whf (fun k => fwr lw (gOf h t k) (iN s) (h.2 (39 + z)) n 0 (iN b) false) 5 0 0, K, M, ?_, ?_, RR_q r0 (frQ_t (frQ_H k2) (frQ_M m2))⟩
          · rw [fE_which_eq, has_s (d + 17) n1 n3 (x := 0) (w := 0) rfl (by omega), in_t (c := iN (cnt T P 0)) q, bI, cF (by decide), trE (d + 17) W, q2, bI, cF (by decide), refTr_1 (d + 15) hz V, rfv_0 rfl rfl, bI, cT rfl]; exact k1
          · rw [fM_which_eq, isShelfM_s, qz1, bI, cF (by decide), isTie_s (d + 17) (T := T) (by omega) _ _ (by rw [k2.1 45 (by omega) (by omega) (by omega)]; exact n2), in_t q, bI, cF (by decide), trM (d + 16), q2, bI, cN, cF (by decide), show (1 : Int32) = iN 1 from rfl, noRow (d + 18) hz (by omega) (shv_H hz k2 V), rfv_0 rfl rfl, bI, cT (by decide)]; exact m1
        · refine okC_same r0 (rfv c kk 1) ?_ ?_
          · rw [fE_which_eq, has_s (d + 17) n1 n3 (x := 0) (w := 0) rfl (by omega), in_t (c := iN (cnt T P 0)) q, bI, cF (by decide), trE (d + 17) W, q2, bI, cF (by decide), refTr_1 (d + 15) hz V, bI, cF (by rcases rfv_n hc with e | e <;> rw [e] <;> decide)]
          · rw [fM_which_eq, isShelfM_s, qz1, bI, cF (by decide), isTie_s (d + 17) (by omega) _ _ n2, in_t q, bI, cF (by decide), trM (d + 16), q2, bI, cN, cF (by decide), show (1 : Int32) = iN 1 from rfl, noRow (d + 18) hz (by omega) V, bI, cF (by rcases rfv_n hc with e | e <;> rw [e] <;> decide)]
    · refine okC_same r0 (-1) ?_ ?_
      · rw [fE_which_eq, has_s (d + 17) n1 n3 (x := 0) (w := 0) rfl (by omega), in_f (c := iN (cnt T P 0)) q, bI, cT (by decide), bad 0 (refTr_0 _ _ _)]
      · rw [fM_which_eq, isShelfM_s, qz1, bI, cF (by decide), isTie_s (d + 17) (by omega) _ _ n2, in_f q, bI, cT (by decide)]
/-! began -/
def bgp (lw : Option (List (List Nat × List Nat))) (g : Nat → Int32) (s : Int32) (f : Nat → Int64) (n b : Nat) : Bool := decide (fwr lw g s f n 0 (iN b) false = -2)
theorem beganC (d : Nat) {lw : Option (List (List Nat × List Nat))} {g : Nat → Int32} {s : Int32} (hs : ¬ s = 0) {z n : Nat} (hz : z < 6) (hn : n ≤ 60) {f : Nat → Int64} (hf : ∀ i, i < n → (f i).toInt32.toInt64 = f i) : ∀ (m b : Nat) (h : zm_H), b + m = 201 → lwC lw h → cE g h → h.1 (33 + z) 3 = iN n → (∀ i, i < n → h.2 (39 + z) i = f i) →
    ∃ K, fE_began_c47 (d + 6) (iN z) s (iN b) h = some (some (.int (lst (bgp lw g s f n) m b)), K) ∧ frC h K := by
  intro m
  induction m with
  | zero =>
    intro b h hb _ _ _ _
    refine ⟨h, ?_, frC_r h⟩
    rw [fE_began_c47_eq, cT (by simp (disch := omega) only [iN_add, iN_addl, iN_addr, iN_mul, iN_mull, iN_mulr, iN_sub, iN_subl, iN_subr, iN_c, iN_lt, iN_ltl, iN_ltr, iN_le, iN_lel, iN_ler, iN_eq, iN_eql, iN_eqr]; omega)]; rfl
  | succ m ih =>
    intro b h hb rl rE e5 ef
    obtain ⟨K, k1, k2⟩ := wrongC d hs hz hn hf (iN b) rl rE e5 ef
    rw [fE_began_c47_eq, cF (by simp (disch := omega) only [iN_add, iN_addl, iN_addr, iN_mul, iN_mull, iN_mulr, iN_sub, iN_subl, iN_subr, iN_c, iN_lt, iN_ltl, iN_ltr, iN_le, iN_lel, iN_ler, iN_eq, iN_eql, iN_eqr]; omega), gQ_32 hz, iN_c (by omega), rt32 hz, Bool.cond_true, k1, bI, cN, lst, iN_addr]
    by_cases q : fwr lw g s f n 0 (iN b) false = -2
    · rw [cT q, if_pos (show bgp lw g s f n b = true from decide_eq_true q)]; exact ⟨K, rfl, k2⟩
    · rw [cF q, if_neg (show ¬ bgp lw g s f n b = true by unfold bgp; simpa using q)]
      obtain ⟨M, m1, m2⟩ := ih (b + 1) K (by omega) (lwC_f k2 rl) (cE_f k2 rE) (by rw [k2.1 _ (by omega) (by omega)]; exact e5) (fun i hi => by rw [k2.2.2]; exact ef i hi)
      exact ⟨M, m1, frC_t k2 m2⟩
theorem beganM (d : Nat) {lw : Option (List (List Nat × List Nat))} {g : Nat → Int32} {s : Int32} (hs : ¬ s = 0) {t k : Nat} (ht : t < 8) (hk : k < 5) {a : Int32} (e1 : a / 10 = iN t) (e2 : a - a / 10 * 10 = iN k) {z n : Nat} (hz : z < 6) (hn : n ≤ 60) {f : Nat → Int64} : ∀ (m b : Nat) (h : zm_H), b + m = 201 → lwM lw h → mE g t k h → h.1 74 z = iN n → (∀ i, i < n → h.2 75 (60 * z + i) = f i) →
    ∃ K, fM_began_c43 (d + 7) (iN z) a s (iN b) h = some (some (.int (lst (bgp lw g s f n) m b)), K) ∧ frM h K := by
  intro m
  induction m with
  | zero =>
    intro b h hb _ _ _ _
    refine ⟨h, ?_, frM_r h⟩
    rw [fM_began_c43_eq, cT (by simp (disch := omega) only [iN_add, iN_addl, iN_addr, iN_mul, iN_mull, iN_mulr, iN_sub, iN_subl, iN_subr, iN_c, iN_lt, iN_ltl, iN_ltr, iN_le, iN_lel, iN_ler, iN_eq, iN_eql, iN_eqr]; omega)]; rfl
  | succ m ih =>
    intro b h hb rl rE e5 ef
    obtain ⟨K, k1, k2⟩ := wrongM d hs ht hk hz hn (iN b) rl rE e5 ef
    rw [fM_began_c43_eq, cF (by simp (disch := omega) only [iN_add, iN_addl, iN_addr, iN_mul, iN_mull, iN_mulr, iN_sub, iN_subl, iN_subr, iN_c, iN_lt, iN_ltl, iN_ltr, iN_le, iN_lel, iN_ler, iN_eq, iN_eql, iN_eqr]; omega), e2, e1, k1, bI, cN, lst, iN_addr]
    by_cases q : fwr lw g s f n 0 (iN b) false = -2
    · rw [cT q, if_pos (show bgp lw g s f n b = true from decide_eq_true q)]; exact ⟨K, rfl, k2⟩
    · rw [cF q, if_neg (show ¬ bgp lw g s f n b = true by unfold bgp; simpa using q)]
      obtain ⟨M, m1, m2⟩ := ih (b + 1) K (by omega) (lwM_f k2 rl) (mE_f k2 rE) (by rw [k2.1 74 (by omega)]; exact e5) (fun i hi => by rw [k2.2]; exact ef i hi)
      exact ⟨M, m1, frM_t k2 m2⟩
theorem K_began (d : Nat) {L : Nat} {xs : Nat → Int32} {h : zm_H} (r : RR L xs h) (z a s : Int32) : okC L xs (fE_began (d + 20) z a s) (fM_began (d + 20) z a s) h := by
  have r0 := r
  obtain ⟨T, P, D, A, S, B, Q, W, N, C, T', Lw, G, I, Bd, Sh⟩ := r
  have hB := Bd.1
  have N0 := N
  obtain ⟨⟨hT, hP, n1, n2, n3, n4⟩, N1, N2, N3⟩ := N
  obtain ⟨lw, l1, l2⟩ := rL_lw Lw
  have al : fE_isAllowed (d + 19) 10 s h = some (some (.int (zi (decide (1 ≤ s) && decide (s ≤ 4)))), h) := isAllowed_s (d + 18) W (x := 10) (w := 10) rfl (by omega) s
  have bad : ∀ (x : Int32), fE_refusalOfTries (d + 19) z x h = some (some (.int (-1)), h) → ∀ (X : zm_H → zm_R), zb_I (fE_refusalOfTries (d + 19) z x h) (fun v h3 => cond (decide (v = 0)) (X h3) (some (some (.int v), h3))) = some (some (.int (-1)), h) := fun x e X => by rw [e]; rfl
  by_cases qz : z < 0 ∨ 6 ≤ z
  · refine okC_same r0 (-1) ?_ ?_
    · rw [fE_began_eq, tkE (d + 16) a n1 n3, bI, zi_0, al, bI, zi_0, bad 0 (refTr_b _ qz _ _), bad 1 (refTr_b _ qz _ _)]
      cases tkB T a <;> cases (decide (1 ≤ s) && decide (s ≤ 4)) <;> rfl
    · rw [fM_began_eq, isShelfM_s, le5_n qz, bI, cT (by decide)]
  · have qz1 := le5_6 qz
    obtain ⟨z, hz, rfl⟩ := iN_exn 6 rfl (by decide) qz
    obtain ⟨c, kk, n, V, X⟩ := shv_of hB (Sh z hz)
    cases q : tkB T a
    · refine okC_same r0 (-1) ?_ ?_
      · rw [fE_began_eq, tkE (d + 16) a n1 n3, q, bI, cT (by decide), bad 0 (refTr_0 _ _ _)]
      · rw [fM_began_eq, isShelfM_s, qz1, bI, cF (by decide), tkM (d + 16) hT a n2, q, bI, cT (by decide)]
    · obtain ⟨t, k, ht, hk, e1, e2⟩ := tk_ex hT q
      cases q2 : (decide (1 ≤ s) && decide (s ≤ 4))
      · refine okC_same r0 (-1) ?_ ?_
        · rw [fE_began_eq, tkE (d + 16) a n1 n3, q, bI, cF (by decide), al, q2, bI, cT (by decide), bad 0 (refTr_0 _ _ _)]
        · rw [fM_began_eq, isShelfM_s, qz1, bI, cF (by decide), tkM (d + 16) hT a n2, q, bI, cF (by decide), isShare_s, q2, bI, cN, cT (by decide)]
      · have hs : ¬ s = 0 := by grind
        by_cases hc : c = 2 ∧ kk = 1
        · obtain ⟨rfl, rfl⟩ := hc
          have X := X rfl
          obtain ⟨v, -⟩ | ⟨v, -⟩ | ⟨-, v0, v1, v2, v3, v4, v5, v6⟩ := id V
          · exact absurd v (by omega)
          · exact absurd v (by omega)
          obtain ⟨K, k1, k2, k3⟩ := hung_s (d + 14) e1 e2 hT hP n1 n3 ht hk
          obtain ⟨K2, c1, c2⟩ := beganC (d + 14) hs hz v1 (f := h.2 (39 + z)) (fun i hi => (X i hi).2 (by omega)) 201 0 K (by omega) (frH_lwC k3 l1) k2 (by rw [k3.1 _ (by omega) (by omega) (by omega)]; exact v4) (fun i hi => by rw [k3.2.2])
          have f2 := frH_t k3 (frH_C c2)
          obtain ⟨M, m1, m2⟩ := beganM (d + 13) hs (t := t) (k := k) (by omega) hk e1 e2 hz v1 (f := h.2 (39 + z)) 201 0 K2 (by omega) (frH_lwM f2 l2) (frH_mE f2 (mE_of N0 ht hk)) (by rw [f2.1 74 (by omega) (by omega) (by omega)]; exact v6) (fun i hi => by rw [f2.2.2]; exact (X i hi).1)
          generalize lst (bgp lw (gOf h t k) s (h.2 (39 + z)) n) 201 0 = v at c1 m1
          refine ⟨v, K2, M, ?_, ?_, RR_q r0 (frQ_t (frQ_H f2) (frQ_M m2))⟩
          · rw [fE_began_eq, tkE (d + 16) a n1 n3, q, bI, cF (by decide), al, q2, bI, cF (by decide), refTr_1 (d + 15) hz V, rfv_0 rfl rfl, bI, cT rfl, k1, bQ]; exact c1
          · rw [fM_began_eq, isShelfM_s, qz1, bI, cF (by decide), tkM (d + 16) hT a (by rw [f2.1 45 (by omega) (by omega) (by omega)]; exact n2), q, bI, cF (by decide), isShare_s, q2, bI, cN, cF (by decide), show (1 : Int32) = iN 1 from rfl, noRow (d + 18) hz (by omega) (shv_H hz f2 V), rfv_0 rfl rfl, bI, cT (by decide)]; exact m1
        · refine okC_same r0 (rfv c kk 1) ?_ ?_
          · rw [fE_began_eq, tkE (d + 16) a n1 n3, q, bI, cF (by decide), al, q2, bI, cF (by decide), refTr_1 (d + 15) hz V, bI, cF (by rcases rfv_n hc with e | e <;> rw [e] <;> decide)]
          · rw [fM_began_eq, isShelfM_s, qz1, bI, cF (by decide), tkM (d + 16) hT a n2, q, bI, cF (by decide), isShare_s, q2, bI, cN, cF (by decide), show (1 : Int32) = iN 1 from rfl, noRow (d + 18) hz (by omega) V, bI, cF (by rcases rfv_n hc with e | e <;> rw [e] <;> decide)]
/-! thickness -/
def thp (lw : Option (List (List Nat × List Nat))) (g : Nat → Int32) (s b : Int32) (f : Nat → Int64) (n v : Nat) : Bool := decide (fwr lw (gs2v g v) s f n 0 b false = -2)
def tdn (p : Nat → Bool) : Nat → Int32 → Int32
  | 0, x => x
  | m + 1, x => tdn p m (if p (m + 1) = true then iN (m + 1) else x)
theorem lst_sn (p : Nat → Bool) : ∀ (k b : Nat), b + k < 2147483648 → lst p (k + 1) b = if lst p k b = -2 then (if p (b + k) = true then iN (b + k) else -2) else lst p k b := by
  intro k
  induction k with
  | zero => intro b _; rw [lst_s, if_pos (show lst p 0 b = -2 from rfl)]; rfl
  | succ k ih =>
    intro b hb
    rw [lst_s, lst_s p k b]
    by_cases q : p b = true
    · rw [if_pos q, if_pos q, if_neg (iN_ne2 (by omega))]
    · rw [if_neg q, if_neg q, ih (b + 1) (by omega), show b + 1 + k = b + (k + 1) by omega]
theorem tdn_lst (p : Nat → Bool) : ∀ (m : Nat) (x : Int32), m < 1000 → tdn p m x = if lst p m 1 = -2 then x else lst p m 1 := by
  intro m
  induction m with
  | zero => intro x _; rfl
  | succ m ih =>
    intro x hm
    rw [tdn, ih _ (by omega), lst_sn p m 1 (by omega), show 1 + m = m + 1 by omega]
    by_cases q : lst p m 1 = -2
    · rw [if_pos q, if_pos q]
      by_cases q2 : p (m + 1) = true
      · rw [if_pos q2, if_pos q2, if_neg (iN_ne2 (by omega))]
      · rw [if_neg q2, if_neg q2, if_pos rfl]
    · rw [if_neg q, if_neg q, if_neg q]
theorem thickC (d : Nat) {lw : Option (List (List Nat × List Nat))} {g : Nat → Int32} {bs b s : Int32} (e3 : bs / 10 = b) (e4 : bs - bs / 10 * 10 = s) (hs : ¬ s = 0) {z n : Nat} (hz : z < 6) (hn : n ≤ 60) {f : Nat → Int64} (hf : ∀ i, i < n → (f i).toInt32.toInt64 = f i) : ∀ (m v : Nat) (h : zm_H), v + m = 10 → lwC lw h → cEx 2 g h → h.1 (33 + z) 3 = iN n → (∀ i, i < n → h.2 (39 + z) i = f i) →
    ∃ K, fE_thickness_c45 (d + 6) (iN z) bs (iN v) h = some (some (.int (lst (thp lw g s b f n) m v)), K) ∧ frH h K := by
  intro m
  induction m with
  | zero =>
    intro v h hv _ _ _ _
    obtain rfl : v = 10 := by omega
    refine ⟨h, ?_, frH_r h⟩
    rw [fE_thickness_c45_eq, cT (by decide)]; rfl
  | succ m ih =>
    intro v h hv rl rE e5 ef
    obtain ⟨K, k1, k2⟩ := wrongC d (lw := lw) (g := gs2v g v) hs hz hn hf b (h := zm_ui h 14 2 (iN v)) (frH_lwC (frH_14 _ _ _) rl) (cEx_set rE v) (by rw [ui_c (by omega)]; exact e5) ef
    have f1 : frH h K := frH_t (frH_14 _ _ _) (frH_C k2)
    have e14 := k2.1 14 (by omega) (by omega)
    rw [fE_thickness_c45_eq, cF (by simp (disch := omega) only [iN_add, iN_addl, iN_addr, iN_mul, iN_mull, iN_mulr, iN_sub, iN_subl, iN_subr, iN_c, iN_lt, iN_ltl, iN_ltr, iN_le, iN_lel, iN_ler, iN_eq, iN_eql, iN_eqr]; omega), gQ_32 hz, iN_c (by omega), rt32 hz, e4, e3, Bool.cond_true, k1, bI, cN, lst, iN_addr]
    by_cases q : fwr lw (gs2v g v) s f n 0 b false = -2
    · rw [cT q, if_pos (show thp lw g s b f n v = true from decide_eq_true q)]; exact ⟨K, rfl, f1⟩
    · rw [cF q, if_neg (show ¬ thp lw g s b f n v = true by unfold thp; simpa using q)]
      obtain ⟨M, m1, m2⟩ := ih (v + 1) K (by omega) (frH_lwC f1 rl) (fun j h1 h2 h3 => by rw [e14, ui_k h3]; exact rE j h1 h2 h3) (by rw [f1.1 _ (by omega) (by omega) (by omega)]; exact e5) (fun i hi => by rw [f1.2.2]; exact ef i hi)
      exact ⟨M, m1, frH_t f1 m2⟩
theorem mE_2 {g : Nat → Int32} {t k : Nat} {h : zm_H} (r : mE g t k h) {K : zm_H} {n : Nat} (e1 : ∀ a, a ≠ 65 → a ≠ 47 → K.1 a = h.1 a) (e3 : K.1 47 t = iN n) : mE (gs2v g n) t k K := by
  obtain ⟨g1, g2, g3, g4, g5, g6, g7, g8, g9⟩ := r
  have e45 := e1 45 (by omega) (by omega)
  exact ⟨by rw [e1 46 (by omega) (by omega)]; exact g1, e3, by rw [e1 48 (by omega) (by omega)]; exact g3, by rw [e1 49 (by omega) (by omega)]; exact g4, by rw [e1 50 (by omega) (by omega)]; exact g5, by rw [e1 52 (by omega) (by omega)]; exact g6, by rw [e45]; exact g7, by rw [e45]; exact g8, by rw [e45]; exact g9⟩
theorem thickM (d : Nat) {lw : Option (List (List Nat × List Nat))} {g : Nat → Int32} {t k : Nat} {a bs b s : Int32} (e2 : a - a / 10 * 10 = iN k) (e3 : bs / 10 = b) (e4 : bs - bs / 10 * 10 = s) (hs : ¬ s = 0) (ht : t < 8) (hk : k < 5) (x6 : Int32) {z n : Nat} (hz : z < 6) (hn : n ≤ 60) {f : Nat → Int64} {h0 : zm_H} (rl : lwM lw h0) (rE : mE g t k h0) (e5 : h0.1 74 z = iN n) (ef : ∀ i, i < n → h0.2 75 (60 * z + i) = f i) : ∀ (m : Nat) (x : Int32) (h : zm_H), m ≤ 9 → (∀ a, a ≠ 65 → a ≠ 47 → h.1 a = h0.1 a) → (∀ b, b ≠ t → h.1 47 b = h0.1 47 b) → h.2 = h0.2 →
    ∃ K, fM_thickness_c63 (d + 7) (iN z) a bs (iN t) x6 x (iN m) h = some (some (.int (tdn (thp lw g s b f n) m x)), K) ∧ (∀ a, a ≠ 65 → a ≠ 47 → K.1 a = h0.1 a) ∧ (∀ b, b ≠ t → K.1 47 b = h0.1 47 b) ∧ K.2 = h0.2 ∧ K.1 47 t = x6 := by
  intro m
  induction m with
  | zero =>
    intro x h _ f1 f2 f3
    refine ⟨zm_ui h 47 t x6, ?_, fun a h1 h2 => by rw [ui_f h2]; exact f1 a h1 h2, fun b h1 => by rw [ui_k h1]; exact f2 b h1, f3, ui_s _ _ _ _⟩
    rw [fM_thickness_c63_eq, cT (by decide), gW_47 ht, iN_c (by omega)]; rfl
  | succ m ih =>
    intro x h hm f1 f2 f3
    have u1 : ∀ a, a ≠ 65 → a ≠ 47 → (zm_ui h 47 t (iN (m + 1))).1 a = h0.1 a := fun a h1 h2 => by rw [ui_f h2]; exact f1 a h1 h2
    obtain ⟨K, k1, k2⟩ := wrongM d (lw := lw) (g := gs2v g (m + 1)) hs ht hk hz hn (f := f) b (h := zm_ui h 47 t (iN (m + 1))) (lwM_x (.inl rfl) u1 rl) (mE_2 rE u1 (ui_s _ _ _ _)) (by rw [u1 74 (by omega) (by omega)]; exact e5) (fun i hi => by rw [ui_2, f3]; exact ef i hi)
    have v1 : ∀ a, a ≠ 65 → a ≠ 47 → K.1 a = h0.1 a := fun a h1 h2 => by rw [k2.1 a h1]; exact u1 a h1 h2
    have v2 : ∀ b, b ≠ t → K.1 47 b = h0.1 47 b := fun b h1 => by rw [k2.1 47 (by omega), ui_k h1]; exact f2 b h1
    have v3 : K.2 = h0.2 := k2.2.trans f3
    rw [fM_thickness_c63_eq, cF (by simp (disch := omega) only [iN_add, iN_addl, iN_addr, iN_mul, iN_mull, iN_mulr, iN_sub, iN_subl, iN_subr, iN_c, iN_lt, iN_ltl, iN_ltr, iN_le, iN_lel, iN_ler, iN_eq, iN_eql, iN_eqr]; omega), gW_47 ht, iN_c (by omega), e2, e4, e3, Bool.cond_true, k1, bI, cN, tdn, iN_dec]
    by_cases q : fwr lw (gs2v g (m + 1)) s f n 0 b false = -2
    · rw [cT q, if_pos (show thp lw g s b f n (m + 1) = true from decide_eq_true q)]
      exact ih (iN (m + 1)) K (by omega) v1 v2 v3
    · rw [cF q, if_neg (show ¬ thp lw g s b f n (m + 1) = true by unfold thp; simpa using q)]
      exact ih x K (by omega) v1 v2 v3
theorem K_thickness (d : Nat) {L : Nat} {xs : Nat → Int32} {h : zm_H} (r : RR L xs h) (z a bs : Int32) : okC L xs (fE_thickness (d + 20) z a bs) (fM_thickness (d + 20) z a bs) h := by
  have r0 := r
  obtain ⟨T, P, D, A, S, B, Q, W, N, C, T', Lw, G, I, Bd, Sh⟩ := r
  have hB := Bd.1
  have N0 := N
  obtain ⟨⟨hT, hP, n1, n2, n3, n4⟩, N1, N2, N3⟩ := N
  obtain ⟨lw, l1, l2⟩ := rL_lw Lw
  have bad : ∀ (x : Int32), fE_refusalOfTries (d + 19) z x h = some (some (.int (-1)), h) → ∀ (X : zm_H → zm_R), zb_I (fE_refusalOfTries (d + 19) z x h) (fun v h3 => cond (decide (v = 0)) (X h3) (some (some (.int v), h3))) = some (some (.int (-1)), h) := fun x e X => by rw [e]; rfl
  by_cases qz : z < 0 ∨ 6 ≤ z
  · refine okC_same r0 (-1) ?_ ?_
    · rw [fE_thickness_eq, tkE (d + 16) a n1 n3, bI, zi_0, trE (d + 17) W, bI, zi_0, bad 0 (refTr_b _ qz _ _), bad 1 (refTr_b _ qz _ _)]
      cases tkB T a <;> cases trB bs <;> rfl
    · rw [fM_thickness_eq, isShelfM_s, le5_n qz, bI, cT (by decide)]
  · have qz1 := le5_6 qz
    obtain ⟨z, hz, rfl⟩ := iN_exn 6 rfl (by decide) qz
    obtain ⟨c, kk, n, V, X⟩ := shv_of hB (Sh z hz)
    cases q : tkB T a
    · refine okC_same r0 (-1) ?_ ?_
      · rw [fE_thickness_eq, tkE (d + 16) a n1 n3, q, bI, cT (by decide), bad 0 (refTr_0 _ _ _)]
      · rw [fM_thickness_eq, isShelfM_s, qz1, bI, cF (by decide), tkM (d + 16) hT a n2, q, bI, cT (by decide)]
    · obtain ⟨t, k, ht, hk, e1, e2⟩ := tk_ex hT q
      cases q2 : trB bs
      · refine okC_same r0 (-1) ?_ ?_
        · rw [fE_thickness_eq, tkE (d + 16) a n1 n3, q, bI, cF (by decide), trE (d + 17) W, q2, bI, cT (by decide), bad 0 (refTr_0 _ _ _)]
        · rw [fM_thickness_eq, isShelfM_s, qz1, bI, cF (by decide), tkM (d + 16) hT a n2, q, bI, cF (by decide), trM (d + 16), q2, bI, cN, cT (by decide)]
      · obtain ⟨b, s, hb, hs1, hs2, e3, e4⟩ := tr_ex q2
        by_cases hc : c = 2 ∧ kk = 1
        · obtain ⟨rfl, rfl⟩ := hc
          have X := X rfl
          obtain ⟨v, -⟩ | ⟨v, -⟩ | ⟨-, v0, v1, v2, v3, v4, v5, v6⟩ := id V
          · exact absurd v (by omega)
          · exact absurd v (by omega)
          obtain ⟨K, k1, k2, k3⟩ := hung_s (d + 14) e1 e2 hT hP n1 n3 ht hk
          obtain ⟨K2, c1, c2⟩ := thickC (d + 14) (lw := lw) (g := gOf h t k) e3 e4 (iN_n0 hs1 hs2) hz v1 (f := h.2 (39 + z)) (fun i hi => (X i hi).2 (by omega)) 9 1 K (by omega) (frH_lwC k3 l1) (fun i h1 h2 _ => k2 i h1 h2) (by rw [k3.1 _ (by omega) (by omega) (by omega)]; exact v4) (fun i hi => by rw [k3.2.2])
          have f2 := frH_t k3 c2
          obtain ⟨M, m1, m2, m3, m4, m5⟩ := thickM (d + 13) (lw := lw) (g := gOf h t k) (t := t) (k := k) e2 e3 e4 (iN_n0 hs1 hs2) (by omega) hk (K2.1 47 t) hz v1 (f := h.2 (39 + z)) (h0 := K2) (frH_lwM f2 l2) (frH_mE f2 (mE_of N0 ht hk)) (by rw [f2.1 74 (by omega) (by omega) (by omega)]; exact v6) (fun i hi => by rw [f2.2.2]; exact (X i hi).1) 9 (-2) K2 (by omega) (fun _ _ _ => rfl) (fun _ _ => rfl) rfl
          have M47 : M.1 47 = K2.1 47 := by
            funext y
            by_cases e : y = t
            · subst e; exact m5
            · exact m3 y e
          rw [tdn_lst _ _ _ (by omega)] at m1
          have hv : (if lst (thp lw (gOf h t k) (iN s) (iN b) (h.2 (39 + z)) n) 9 1 = -2 then -2 else lst (thp lw (gOf h t k) (iN s) (iN b) (h.2 (39 + z)) n) 9 1) = lst (thp lw (gOf h t k) (iN s) (iN b) (h.2 (39 + z)) n) 9 1 := by
            split
            · rename_i e; exact e.symm
            · rfl
          rw [hv] at m1
          generalize lst (thp lw (gOf h t k) (iN s) (iN b) (h.2 (39 + z)) n) 9 1 = v at c1 m1
          refine ⟨v, K2, M, ?_, ?_, RR_q r0 (frQ_t (frQ_H f2) ⟨fun a h1 h2 h3 h4 h5 => ?_, fun b _ => by rw [m2 11 (by omega) (by omega)], fun b _ _ _ => by rw [m2 45 (by omega) (by omega)], m4⟩)⟩
          · rw [fE_thickness_eq, tkE (d + 16) a n1 n3, q, bI, cF (by decide), trE (d + 17) W, q2, bI, cF (by decide), refTr_1 (d + 15) hz V, rfv_0 rfl rfl, bI, cT rfl, k1, bQ]; exact c1
          · rw [fM_thickness_eq, isShelfM_s, qz1, bI, cF (by decide), tkM (d + 16) hT a (by rw [f2.1 45 (by omega) (by omega) (by omega)]; exact n2), q, bI, cF (by decide), trM (d + 16), q2, bI, cN, cF (by decide), show (1 : Int32) = iN 1 from rfl, noRow (d + 18) hz (by omega) (shv_H hz f2 V), rfv_0 rfl rfl, bI, cT (by decide), e1, gR_47 (by omega), iN_c (by omega)]; exact m1
          · by_cases e : a = 47
            · subst e; exact M47
            · exact m2 a (by omega) e
        · refine okC_same r0 (rfv c kk 1) ?_ ?_
          · rw [fE_thickness_eq, tkE (d + 16) a n1 n3, q, bI, cF (by decide), trE (d + 17) W, q2, bI, cF (by decide), refTr_1 (d + 15) hz V, bI, cF (by rcases rfv_n hc with e | e <;> rw [e] <;> decide)]
          · rw [fM_thickness_eq, isShelfM_s, qz1, bI, cF (by decide), tkM (d + 16) hT a n2, q, bI, cF (by decide), trM (d + 16), q2, bI, cN, cF (by decide), show (1 : Int32) = iN 1 from rfl, noRow (d + 18) hz (by omega) V, bI, cF (by rcases rfv_n hc with e | e <;> rw [e] <;> decide)]
