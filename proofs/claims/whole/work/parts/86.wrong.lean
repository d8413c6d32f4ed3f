/-! judge, which, began, thickness -/
theorem cmp0 (x y : Int64) : decide (lg_cmp x y = 0) = decide (x = y) := by
  refine decide_eq_decide.mpr ?_
  unfold lg_cmp
  by_cases h1 : x > y
  · rw [if_pos h1]
    exact ⟨fun e => absurd e (by decide), fun e => absurd (e ▸ h1) (Int64.lt_irrefl)⟩
  · rw [if_neg h1]
    by_cases h2 : x = y
    · rw [if_pos h2]; exact ⟨fun _ => h2, fun _ => rfl⟩
    · rw [if_neg h2]; exact ⟨fun e => absurd e (by decide), fun e => absurd e h2⟩
def fwr (lw : Option (List (List Nat × List Nat))) (g : Nat → Int32) (s : Int32) (f : Nat → Int64) : Nat → Nat → Int32 → Bool → Int32
  | 0, _, _, _ => -2
  | m + 1, i, b, r => cond r (iN i) (cond (decide ((f i).toInt32 = b - clo lw g b)) (fwr lw g s f m (i + 1) (nxt g b (b - clo lw g b) s) (rgt g b (b - clo lw g b))) (iN i))
theorem wrongC_l (d : Nat) {lw : Option (List (List Nat × List Nat))} {g : Nat → Int32} {s : Int32} (hs : ¬ s = 0) {z n : Nat} (hz : z < 6) (hn : n ≤ 60) {f : Nat → Int64} (hf : ∀ i, i < n → (f i).toInt32.toInt64 = f i) : ∀ (m i : Nat) (b : Int32) (r : Bool) (h : zm_H), i + m = n → lwC lw h → cE g h → h.1 (33 + z) 3 = iN n → (∀ i, i < n → h.2 (39 + z) i = f i) →
    ∃ K, fHa_firstWrong_c9 (d + 5) (33 + z) s b (zi r) (iN i) h = some (some (.int (fwr lw g s f m i b r)), K) ∧ frC h K := by
  intro m
  induction m with
  | zero =>
    intro i b r h hi _ _ e3 _
    obtain rfl : i = n := by omega
    refine ⟨h, ?_, frC_r h⟩
    rw [fHa_firstWrong_c9_eq, isO7 hz, e3, cT (by simp (disch := omega) only [iN_add, iN_addl, iN_addr, iN_mul, iN_mull, iN_mulr, iN_sub, iN_subl, iN_subr, iN_c, iN_lt, iN_ltl, iN_ltr, iN_le, iN_lel, iN_ler, iN_eq, iN_eql, iN_eqr]; omega)]; rfl
  | succ m ih =>
    intro i b r h hi rl rE e3 ef
    obtain ⟨K, k1, k2⟩ := clothC d rl rE b
    have e3' : K.1 (33 + z) 3 = iN n := by rw [k2.1 _ (by omega) (by omega)]; exact e3
    rw [fHa_firstWrong_c9_eq, isO7 hz, e3, cF (by simp (disch := omega) only [iN_add, iN_addl, iN_addr, iN_mul, iN_mull, iN_mulr, iN_sub, iN_subl, iN_subr, iN_c, iN_lt, iN_ltl, iN_ltr, iN_le, iN_lel, iN_ler, iN_eq, iN_eql, iN_eqr]; omega), k1, bI, zi_0, fwr, Bool.not_not]
    cases r
    · rw [readS_s (d + 3) hz hn (by omega : i < n) e3', bJ, k2.2.2, ef i (by omega), cmp0]
      have ee : decide (f i = (b - clo lw g b).toInt64) = decide ((f i).toInt32 = b - clo lw g b) := by
        refine decide_eq_decide.mpr ⟨fun e => ?_, fun e => ?_⟩
        · rw [e, Int32.toInt32_toInt64]
        · rw [← hf i (by omega), e]
      rw [ee]
      simp only [Bool.cond_true, Bool.cond_false]
      cases decide ((f i).toInt32 = b - clo lw g b)
      · exact ⟨K, rfl, k2⟩
      · rw [Bool.cond_true, rightC (d + 2) (cE_f k2 rE), bI, corrC (d + 3) (cE_f k2 rE) b _ hs, bI, iN_addr]
        obtain ⟨M, m1, m2⟩ := ih (i + 1) (nxt g b (b - clo lw g b) s) (rgt g b (b - clo lw g b)) K (by omega) (lwC_f k2 rl) (cE_f k2 rE) e3' (fun j hj => by rw [k2.2.2]; exact ef j hj)
        exact ⟨M, m1, frC_t k2 m2⟩
    · exact ⟨K, rfl, k2⟩
theorem wrongC (d : Nat) {lw : Option (List (List Nat × List Nat))} {g : Nat → Int32} {s : Int32} (hs : ¬ s = 0) {z n : Nat} (hz : z < 6) (hn : n ≤ 60) {f : Nat → Int64} (hf : ∀ i, i < n → (f i).toInt32.toInt64 = f i) (b : Int32) {h : zm_H} (rl : lwC lw h) (rE : cE g h) (e3 : h.1 (33 + z) 3 = iN n) (ef : ∀ i, i < n → h.2 (39 + z) i = f i) :
    ∃ K, fHa_firstWrong (d + 5) (33 + z) b s h = some (some (.int (fwr lw g s f n 0 b false)), K) ∧ frC h K := by
  obtain ⟨K, k1, k2⟩ := wrongC_l d hs hz hn hf n 0 b false h (by omega) rl rE e3 ef
  exact ⟨K, by rw [fHa_firstWrong_eq]; exact k1, k2⟩
theorem wrongM_l (d : Nat) {lw : Option (List (List Nat × List Nat))} {g : Nat → Int32} {s : Int32} (hs : ¬ s = 0) {t k : Nat} (ht : t < 8) (hk : k < 5) {z n : Nat} (hz : z < 6) (hn : n ≤ 60) {f : Nat → Int64} : ∀ (m i : Nat) (b : Int32) (r : Bool) (h : zm_H), i + m = n → lwM lw h → mE g t k h → h.1 74 z = iN n → (∀ i, i < n → h.2 75 (60 * z + i) = f i) →
    ∃ K, fM_wrong_c10 (d + 6) (iN z) (iN t) (iN k) s b (zi r) (iN i) h = some (some (.int (fwr lw g s f m i b r)), K) ∧ frM h K := by
  intro m
  induction m with
  | zero =>
    intro i b r h hi _ _ e3 _
    obtain rfl : i = n := by omega
    refine ⟨h, ?_, frM_r h⟩
    rw [fM_wrong_c10_eq, gR_74 hz, iN_c (by omega), e3, cT (by simp (disch := omega) only [iN_add, iN_addl, iN_addr, iN_mul, iN_mull, iN_mulr, iN_sub, iN_subl, iN_subr, iN_c, iN_lt, iN_ltl, iN_ltr, iN_le, iN_lel, iN_ler, iN_eq, iN_eql, iN_eqr]; omega)]; rfl
  | succ m ih =>
    intro i b r h hi rl rE e3 ef
    obtain ⟨K, k1, k2⟩ := clothM d ht hk rl rE b
    rw [fM_wrong_c10_eq, gR_74 hz, iN_c (by omega), e3, cF (by simp (disch := omega) only [iN_add, iN_addl, iN_addr, iN_mul, iN_mull, iN_mulr, iN_sub, iN_subl, iN_subr, iN_c, iN_lt, iN_ltl, iN_ltr, iN_le, iN_lel, iN_ler, iN_eq, iN_eql, iN_eqr]; omega), k1, bI, zi_0, fwr, Bool.not_not]
    cases r
    · rw [fM_told_eq, iN_mull, iN_add, gJ_75 (by omega), iN_c (by omega), k2.2, ef i (by omega)]
      simp only [Bool.cond_true, Bool.cond_false, bI]
      cases decide ((f i).toInt32 = b - clo lw g b)
      · exact ⟨K, rfl, k2⟩
      · rw [Bool.cond_true, rightM (d + 3) ht (mE_f k2 rE), bI, nextM (d + 4) (mE_f k2 rE) b _ hs, bI, iN_addr]
        obtain ⟨M, m1, m2⟩ := ih (i + 1) (nxt g b (b - clo lw g b) s) (rgt g b (b - clo lw g b)) K (by omega) (lwM_f k2 rl) (mE_f k2 rE) (by rw [k2.1 74 (by omega)]; exact e3) (fun j hj => by rw [k2.2]; exact ef j hj)
        exact ⟨M, m1, frM_t k2 m2⟩
    · exact ⟨K, rfl, k2⟩
theorem wrongM (d : Nat) {lw : Option (List (List Nat × List Nat))} {g : Nat → Int32} {s : Int32} (hs : ¬ s = 0) {t k : Nat} (ht : t < 8) (hk : k < 5) {z n : Nat} (hz : z < 6) (hn : n ≤ 60) {f : Nat → Int64} (b : Int32) {h : zm_H} (rl : lwM lw h) (rE : mE g t k h) (e3 : h.1 74 z = iN n) (ef : ∀ i, i < n → h.2 75 (60 * z + i) = f i) :
    ∃ K, fM_wrong (d + 6) (iN z) (iN t) (iN k) b s h = some (some (.int (fwr lw g s f n 0 b false)), K) ∧ frM h K := by
  obtain ⟨K, k1, k2⟩ := wrongM_l d hs ht hk hz hn n 0 b false h (by omega) rl rE e3 ef
  exact ⟨K, by rw [fM_wrong_eq]; exact k1, k2⟩
/-! what is against a row -/
def rfv (c k q : Nat) : Int32 := if c = 0 then -11 else if c = 2 ∧ k = q then 0 else -12
theorem rfv_0 {c k q : Nat} (h : c = 2) (h2 : k = q) : rfv c k q = 0 := by unfold rfv; rw [if_neg (by omega), if_pos ⟨h, h2⟩]
theorem rfv_n {c k q : Nat} (h : ¬ (c = 2 ∧ k = q)) : rfv c k q = -11 ∨ rfv c k q = -12 := by
  unfold rfv
  by_cases e : c = 0
  · rw [if_pos e]; exact .inl rfl
  · rw [if_neg e, if_neg h]; exact .inr rfl
theorem refRow (d : Nat) {B : Nat} {h : zm_H} {s c k n q : Nat} (hs : s < 6) (hq : q < 5) (r : shv B h s c k n) : fE_refusalOfRow (d + 3) (iN s) (iN q) h = some (some (.int (rfv c k q)), h) := by
  rw [fE_refusalOfRow_eq, gQ_32 hs, iN_c (by omega), rt32 hs, isO7 hs, isE_c _ hs r, bI, zi_0]
  rcases r with ⟨rfl, r1, r2, r3⟩ | ⟨rfl, r0, r1, r2, r3⟩ | ⟨rfl, r0, r1, r2, r3, r4, r5, r6⟩
  · rfl
  · simp only [Bool.cond_true, isRowOf_s _ hs, r2]; rfl
  · simp only [Bool.cond_true, isRowOf_s _ hs, r3, decide_eq_false (iN_ne1 (show k < 2147483648 by omega)), bI, zi_0, Bool.not_false, Bool.true_and]
    by_cases e : k = q
    · rw [rfv_0 rfl e, decide_eq_true (show iN k = iN q by rw [e])]; rfl
    · rw [decide_eq_false (show ¬ iN k = iN q by rw [iN_eq (by omega) (by omega)]; exact e), show rfv 2 k q = -12 by unfold rfv; rw [if_neg (by omega), if_neg (fun x => e x.2)]]; rfl
theorem noRow (d : Nat) {B : Nat} {h : zm_H} {s c k n q : Nat} (hs : s < 6) (hq : q < 5) (r : shv B h s c k n) : fM_noRow (d + 1) (iN s) (iN q) h = some (some (.int (rfv c k q)), h) := by
  rw [fM_noRow_eq, gR_73 hs, iN_c (by omega), isE_M r]
  rcases r with ⟨rfl, r1, r2, r3⟩ | ⟨rfl, r0, r1, r2, r3⟩ | ⟨rfl, r0, r1, r2, r3, r4, r5, r6⟩
  · rfl
  · rw [r3, decide_eq_false (show ¬ iN (10 + k) = iN q by rw [iN_eq (by omega) (by omega)]; omega)]; rfl
  · rw [r5]
    by_cases e : k = q
    · rw [rfv_0 rfl e, decide_eq_true (show iN k = iN q by rw [e])]; rfl
    · rw [decide_eq_false (show ¬ iN k = iN q by rw [iN_eq (by omega) (by omega)]; exact e), show rfv 2 k q = -12 by unfold rfv; rw [if_neg (by omega), if_neg (fun x => e x.2)]]; rfl
theorem refTr_b (d : Nat) {a : Int32} (q : a < 0 ∨ 6 ≤ a) (x : Int32) (h : zm_H) : fE_refusalOfTries (d + 2) a x h = some (some (.int (-1)), h) := by
  rw [fE_refusalOfTries_eq, isShelf_s, le5_n q, bI, cT (by decide)]
theorem refTr_0 (d : Nat) (a : Int32) (h : zm_H) : fE_refusalOfTries (d + 2) a 0 h = some (some (.int (-1)), h) := by
  rw [fE_refusalOfTries_eq, isShelf_s, bI, zi_0]
  cases (decide (0 ≤ a) && decide (a ≤ 5)) <;> rfl
theorem refTr_1 (d : Nat) {B : Nat} {h : zm_H} {s c k n : Nat} (hs : s < 6) (r : shv B h s c k n) : fE_refusalOfTries (d + 4) (iN s) 1 h = some (some (.int (rfv c k 1)), h) := by
  rw [fE_refusalOfTries_eq, isShelf_s, le5_6 (by simp (disch := omega) only [iN_add, iN_addl, iN_addr, iN_mul, iN_mull, iN_mulr, iN_sub, iN_subl, iN_subr, iN_c, iN_lt, iN_ltl, iN_ltr, iN_le, iN_lel, iN_ler, iN_eq, iN_eql, iN_eqr]; omega), bI, cF (by decide), cN, cF (by decide), show (1 : Int32) = iN 1 from rfl, refRow d hs (by omega) r, bI]
theorem shv_H {B : Nat} {h K : zm_H} {s c k n : Nat} (hs : s < 6) (e : frH h K) (r : shv B h s c k n) : shv B K s c k n := by
  unfold shv at *
  rw [e.1 (33 + s) (by omega) (by omega) (by omega), e.1 73 (by omega) (by omega) (by omega), e.1 74 (by omega) (by omega) (by omega)]; exact r
theorem K_judge (d : Nat) {L : Nat} {xs : Nat → Int32} {h : zm_H} (r : RR L xs h) (z a bs : Int32) : okC L xs (fE_judge (d + 20) z a bs) (fM_judge (d + 20) z a bs) h := by
  have r0 := r
  obtain ⟨T, P, D, A, S, B, Q, W, N, C, T', Lw, G, I, Bd, Sh⟩ := r
  have hB := Bd.1
  have N0 := N
  obtain ⟨⟨hT, hP, n1, n2, n3, n4⟩, N1, N2, N3⟩ := N
  obtain ⟨lw, l1, l2⟩ := rL_lw Lw
  have bad : ∀ (x : Int32), fE_refusalOfTries (d + 19) z x h = some (some (.int (-1)), h) → ∀ (X : zm_H → zm_R), zb_I (fE_refusalOfTries (d + 19) z x h) (fun v h3 => cond (decide (v = 0)) (X h3) (some (some (.int v), h3))) = some (some (.int (-1)), h) := fun x e X => by rw [e]; rfl
  by_cases qz : z < 0 ∨ 6 ≤ z
  · refine okC_same r0 (-1) ?_ ?_
    · rw [fE_judge_eq, tkE (d + 16) a n1 n3, bI, zi_0, trE (d + 17) W, bI, zi_0, bad 0 (refTr_b _ qz _ _), bad 1 (refTr_b _ qz _ _)]
      cases tkB T a <;> cases trB bs <;> rfl
    · rw [fM_judge_eq, isShelfM_s, le5_n qz, bI, cT (by decide)]
  · have qz1 := le5_6 qz
    obtain ⟨z, hz, rfl⟩ := iN_exn 6 rfl (by decide) qz
    obtain ⟨c, kk, n, V, X⟩ := shv_of hB (Sh z hz)
    cases q : tkB T a
    · refine okC_same r0 (-1) ?_ ?_
      · rw [fE_judge_eq, tkE (d + 16) a n1 n3, q, bI, cT (by decide), bad 0 (refTr_0 _ _ _)]
      · rw [fM_judge_eq, isShelfM_s, qz1, bI, cF (by decide), tkM (d + 16) hT a n2, q, bI, cT (by decide)]
    · obtain ⟨t, k, ht, hk, e1, e2⟩ := tk_ex hT q
      cases q2 : trB bs
      · refine okC_same r0 (-1) ?_ ?_
        · rw [fE_judge_eq, tkE (d + 16) a n1 n3, q, bI, cF (by decide), trE (d + 17) W, q2, bI, cT (by decide), bad 0 (refTr_0 _ _ _)]
        · rw [fM_judge_eq, isShelfM_s, qz1, bI, cF (by decide), tkM (d + 16) hT a n2, q, bI, cF (by decide), trM (d + 16), q2, bI, cN, cT (by decide)]
      · obtain ⟨b, s, hb, hs1, hs2, e3, e4⟩ := tr_ex q2
        by_cases hc : c = 2 ∧ kk = 1
        · obtain ⟨rfl, rfl⟩ := hc
          have X := X rfl
          obtain ⟨v, -⟩ | ⟨v, -⟩ | ⟨-, v0, v1, v2, v3, v4, v5, v6⟩ := id V
          · exact absurd v (by omega)
          · exact absurd v (by omega)
          obtain ⟨K, k1, k2, k3⟩ := hung_s (d + 14) e1 e2 hT hP n1 n3 ht hk
          obtain ⟨K2, c1, c2⟩ := wrongC (d + 14) (iN_n0 hs1 hs2) hz v1 (f := h.2 (39 + z)) (fun i hi => (X i hi).2 (by omega)) (iN b) (frH_lwC k3 l1) k2 (by rw [k3.1 _ (by omega) (by omega) (by omega)]; exact v4) (fun i hi => by rw [k3.2.2])
          have f2 := frH_t k3 (frH_C c2)
          obtain ⟨M, m1, m2⟩ := wrongM (d + 13) (iN_n0 hs1 hs2) (t := t) (k := k) (by omega) hk hz v1 (f := h.2 (39 + z)) (iN b) (frH_lwM f2 l2) (frH_mE f2 (mE_of N0 ht hk)) (by rw [f2.1 74 (by omega) (by omega) (by omega)]; exact v6) (fun i hi => by rw [f2.2.2]; exact (X i hi).1)
          refine ⟨fwr lw (gOf h t k) (iN s) (h.2 (39 + z)) n 0 (iN b) false, K2, M, ?_, ?_, RR_q r0 (frQ_t (frQ_H f2) (frQ_M m2))⟩
          · rw [fE_judge_eq, tkE (d + 16) a n1 n3, q, bI, cF (by decide), trE (d + 17) W, q2, bI, cF (by decide), refTr_1 (d + 15) hz V, rfv_0 rfl rfl, bI, cT rfl, k1, bQ, gQ_32 hz, iN_c (by omega), rt32 hz, e4, e3, c1]; rfl
          · rw [fM_judge_eq, isShelfM_s, qz1, bI, cF (by decide), tkM (d + 16) hT a (by rw [f2.1 45 (by omega) (by omega) (by omega)]; exact n2), q, bI, cF (by decide), trM (d + 16), q2, bI, cN, cF (by decide), show (1 : Int32) = iN 1 from rfl, noRow (d + 18) hz (by omega) (shv_H hz f2 V), rfv_0 rfl rfl, bI, cT (by decide), e2, e1, e4, e3, m1, bI]
        · refine okC_same r0 (rfv c kk 1) ?_ ?_
          · rw [fE_judge_eq, tkE (d + 16) a n1 n3, q, bI, cF (by decide), trE (d + 17) W, q2, bI, cF (by decide), refTr_1 (d + 15) hz V, bI, cF (by rcases rfv_n hc with e | e <;> rw [e] <;> decide)]
          · rw [fM_judge_eq, isShelfM_s, qz1, bI, cF (by decide), tkM (d + 16) hT a n2, q, bI, cF (by decide), trM (d + 16), q2, bI, cN, cF (by decide), show (1 : Int32) = iN 1 from rfl, noRow (d + 18) hz (by omega) V, bI, cF (by rcases rfv_n hc with e | e <;> rw [e] <;> decide)]
