/-! taken -/
def upk (k : Nat) : Nat := match k with
  | 3 => 2
  | 4 => 1
  | 5 => 3
  | 7 => 4
  | _ => 0
def undr : Nat → Nat → Nat → Bool
  | 0, _, _ => false
  | f + 1, k, w => if k = w then true else if k = 0 then false else undr f (upk k) w
theorem cases8 {k : Nat} (h : k < 8) : k = 0 ∨ k = 1 ∨ k = 2 ∨ k = 3 ∨ k = 4 ∨ k = 5 ∨ k = 6 ∨ k = 7 := by omega
theorem abv_up {k : Nat} (h : k < 8) (h0 : k ≠ 0) : abv k = iN (upk k) := by
  rcases cases8 h with rfl | rfl | rfl | rfl | rfl | rfl | rfl | rfl <;> first | rfl | exact absurd rfl h0
theorem upk_lt {k : Nat} (h0 : k ≠ 0) : upk k < k := by
  unfold upk; split <;> omega
theorem above_s (d : Nat) {L : Nat} {xs : Nat → Int32} {h : zm_H} (W : rW L xs h) {k : Nat} (hk : k < 8) : fTu_above (d + 1) (iN k) h = some (some (.int (abv k)), h) := by
  rw [fTu_above_eq, cF (iN_lt0 (by omega)), show Int32.ofNat 8 = 8 from rfl, cF (by simp (disch := omega) only [iN_add, iN_addl, iN_addr, iN_mul, iN_mull, iN_mulr, iN_sub, iN_subl, iN_subr, iN_c, iN_lt, iN_ltl, iN_ltr, iN_le, iN_lel, iN_ler, iN_eq, iN_eql, iN_eqr]; omega), gR_1002 hk, iN_c (by omega), W.2.2.2.2.1 k hk]; rfl
theorem aboveM_s (d : Nat) {k : Nat} (hk : k < 8) (h : zm_H) : fM_above (d + 1) (iN k) h = some (some (.int (iN (upk k))), h) := by
  rw [fM_above_eq]
  rcases cases8 hk with rfl | rfl | rfl | rfl | rfl | rfl | rfl | rfl <;> rfl
theorem isUnder9_s (d : Nat) {L : Nat} {xs : Nat → Int32} {h : zm_H} (W : rW L xs h) {w : Nat} (hw : w < 8) : ∀ (f k i : Nat), i + f = 8 → k < 8 → fTu_isUnder_c9 (d + 2) (iN w) (iN k) (iN i) h = some (some (.int (zi (undr f k w))), h) := by
  intro f
  induction f with
  | zero =>
    intro k i hi hk
    obtain rfl : i = 8 := by omega
    rw [fTu_isUnder_c9_eq, cT (by decide)]; rfl
  | succ f ih =>
    intro k i hi hk
    rw [fTu_isUnder_c9_eq, cF (by simp (disch := omega) only [iN_add, iN_addl, iN_addr, iN_mul, iN_mull, iN_mulr, iN_sub, iN_subl, iN_subr, iN_c, iN_lt, iN_ltl, iN_ltr, iN_le, iN_lel, iN_ler, iN_eq, iN_eql, iN_eqr]; omega), cF (iN_lt0 (by omega)), cN]
    by_cases q : k = w
    · rw [cT (by rw [q]), undr, if_pos q]; rfl
    · rw [cF (by simp (disch := omega) only [iN_add, iN_addl, iN_addr, iN_mul, iN_mull, iN_mulr, iN_sub, iN_subl, iN_subr, iN_c, iN_lt, iN_ltl, iN_ltr, iN_le, iN_lel, iN_ler, iN_eq, iN_eql, iN_eqr]; exact q), above_s d W hk, bI, iN_addr, undr, if_neg q]
      by_cases q0 : k = 0
      · subst q0
        rw [if_pos rfl, show abv 0 = -1 from rfl, fTu_isUnder_c9_eq]
        by_cases q1 : i + 1 < 8
        · rw [cF (by simp (disch := omega) only [iN_add, iN_addl, iN_addr, iN_mul, iN_mull, iN_mulr, iN_sub, iN_subl, iN_subr, iN_c, iN_lt, iN_ltl, iN_ltr, iN_le, iN_lel, iN_ler, iN_eq, iN_eql, iN_eqr]; omega), cT (by decide)]; rfl
        · rw [cT (by simp (disch := omega) only [iN_add, iN_addl, iN_addr, iN_mul, iN_mull, iN_mulr, iN_sub, iN_subl, iN_subr, iN_c, iN_lt, iN_ltl, iN_ltr, iN_le, iN_lel, iN_ler, iN_eq, iN_eql, iN_eqr]; omega)]; rfl
      · rw [if_neg q0, abv_up hk q0]
        exact ih _ _ (by omega) (by have := upk_lt q0; omega)
theorem taken61_s (d : Nat) {w : Nat} (hw : w < 8) (x : Int32) (h : zm_H) : ∀ (f k : Nat), k < f → k < 8 → fM_taken_c61 (d + 2) (iN w) x (iN k) h = some (some (.int (cond (undr f k w) x (-12))), h) := by
  intro f
  induction f with
  | zero => intro k hk; omega
  | succ f ih =>
    intro k hk h8
    rw [fM_taken_c61_eq, undr]
    by_cases q : k = w
    · rw [if_pos q, decide_eq_true (show iN k = iN w by rw [q])]; rfl
    · rw [if_neg q, decide_eq_false (show ¬ iN k = iN w by rw [iN_eq (by omega) (by omega)]; exact q)]
      by_cases q0 : k = 0
      · subst q0
        rw [if_pos rfl, decide_eq_true (show iN 0 ≤ 0 by decide)]; rfl
      · rw [if_neg q0, decide_eq_false (show ¬ iN k ≤ 0 by simp (disch := omega) only [iN_add, iN_addl, iN_addr, iN_mul, iN_mull, iN_mulr, iN_sub, iN_subl, iN_subr, iN_c, iN_lt, iN_ltl, iN_ltr, iN_le, iN_lel, iN_ler, iN_eq, iN_eql, iN_eqr]; omega), aboveM_s d h8, bI]
        have := upk_lt q0
        exact ih (upk k) (by omega) (by omega)
theorem kindOf_s (d : Nat) {B b k : Nat} (hB : B ≤ 50) (hb : b < B) {h : zm_H} (e : h.1 29 2 = iN B) (e2 : h.1 30 b = iN k) : fTu_kindOf (d + 2) (iN b) h = some (some (.int (iN k)), h) := by
  rw [fTu_kindOf_eq, fTu_has_eq, e, cF (iN_lt0 (by omega)), cF (by simp (disch := omega) only [iN_add, iN_addl, iN_addr, iN_mul, iN_mull, iN_mulr, iN_sub, iN_subl, iN_subr, iN_c, iN_lt, iN_ltl, iN_ltr, iN_le, iN_lel, iN_ler, iN_eq, iN_eql, iN_eqr]; omega), bI, cF (by decide), gR_30 (by omega), iN_c (by omega), e2]; rfl
theorem K_taken (d : Nat) {L : Nat} {xs : Nat → Int32} {h : zm_H} (r : RR L xs h) (a w : Int32) : okC L xs (fE_taken (d + 6) a w) (fM_taken (d + 6) a w) h := by
  have r0 := r
  obtain ⟨T, P, D, A, S, B, Q, W, N, C, T', Lw, G, I, Bd, Sh⟩ := r
  obtain ⟨b1, b2, b3, b4, b5, b6, b7, b8⟩ := Bd
  by_cases q : a < 0 ∨ 6 ≤ a
  · refine okC_same r0 (-1) ?_ ?_
    · rw [fE_taken_eq, isShelf_s, le5_n q, bI, cT (by decide)]
    · rw [fM_taken_eq, isShelfM_s, le5_n q, bI, cT (by decide)]
  · have q1 := le5_6 q
    obtain ⟨s, hs, rfl⟩ := iN_exn 6 rfl (by decide) q
    by_cases qw : w < 0 ∨ 8 ≤ w
    · refine okC_same r0 (-1) ?_ ?_
      · rw [fE_taken_eq, isShelf_s, q1, bI, cF (by decide), isKind_s, show (decide (0 ≤ w) && decide (w < 8)) = false by grind]; rfl
      · rw [fM_taken_eq, isShelfM_s, q1, bI, cF (by decide), within_s, show (decide (0 ≤ w) && decide (w ≤ 7)) = false by grind]; rfl
    · have qw1 : (decide (0 ≤ w) && decide (w < 8)) = true := by grind
      have qw2 : (decide (0 ≤ w) && decide (w ≤ 7)) = true := by grind
      obtain ⟨w, hw, rfl⟩ := iN_exn 8 rfl (by decide) qw
      rcases Sh s hs with ⟨s1, s2, s3, s4, s5⟩ | ⟨b, hb, s1, s2, s3, s4, s5⟩ | ⟨k, n, hk, hn, s1, s2, s3, s4, s5, s6⟩
      · refine okC_same r0 (-11) ?_ ?_
        · rw [fE_taken_eq, isShelf_s, q1, bI, cF (by decide), isKind_s, qw1, bI, cN, cF (by decide), gQ_32 hs, iN_c (by omega), rt32 hs, isO7 hs, isEmpty_s _ hs, s1, s2]; rfl
        · rw [fM_taken_eq, isShelfM_s, q1, bI, cF (by decide), within_s, qw2, bI, cN, cF (by decide), gR_73 hs, iN_c (by omega), s4]; rfl
      · obtain ⟨k, hk, e1, e2⟩ := b4 b hb
        refine okC_same r0 (cond (undr 8 k w) (iN k) (-12)) ?_ ?_
        · rw [fE_taken_eq, isShelf_s, q1, bI, cF (by decide), isKind_s, qw1, bI, cN, cF (by decide), gQ_32 hs, iN_c (by omega), rt32 hs, isO7 hs, isEmpty_s _ hs, s1, decide_eq_false (iN_ne1 (by omega))]
          simp only [Bool.cond_true, Bool.cond_false, bI, zi_0, Bool.false_and, Bool.not_false, isRow_s _ hs, s2, Bool.not_not, decide_true, s1]
          rw [fTu_isUnder_eq, kindOf_s _ b1 hb b2 e1, bI, show (0 : Int32) = iN 0 from rfl, isUnder9_s _ W hw 8 k 0 (by omega) hk, bI]
          have h0 : decide (zi (undr 8 k w) = iN 0) = !(undr 8 k w) := zi_0 _
          rw [h0]
          cases undr 8 k w
          · rfl
          · simp only [Bool.not_true, Bool.not_false, Bool.cond_true, s1]
            rw [kindOf_s _ b1 hb b2 e1, bI]; rfl
        · rw [fM_taken_eq, isShelfM_s, q1, bI, cF (by decide), within_s, qw2, bI, cN, cF (by decide), gR_73 hs, iN_c (by omega), s4, decide_eq_false (iN_ne1 (by omega)), isRowM_s _ hs s4, inrow_t (by omega)]
          simp only [Bool.cond_true, Bool.cond_false, bI, zi_0, Bool.not_false, gR_73 hs, s4]
          simp (disch := omega) only [iN_subr, iN_c]
          rw [show 10 + b - 10 = b by omega, gR_71 (by omega), e2]
          exact taken61_s (d + 4) hw (iN k) h 8 k hk hk
      · refine okC_same r0 (-12) ?_ ?_
        · rw [fE_taken_eq, isShelf_s, q1, bI, cF (by decide), isKind_s, qw1, bI, cN, cF (by decide), gQ_32 hs, iN_c (by omega), rt32 hs, isO7 hs, isEmpty_s _ hs, s2, decide_eq_false (iN_ne1 (by omega))]
          simp only [Bool.cond_true, Bool.cond_false, bI, zi_0, Bool.and_false, Bool.not_false, isRow_s _ hs, s2, decide_eq_false (iN_ne1 (show k < 2147483648 by omega)), Bool.not_not, Bool.not_true]
        · rw [fM_taken_eq, isShelfM_s, q1, bI, cF (by decide), within_s, qw2, bI, cN, cF (by decide), gR_73 hs, iN_c (by omega), s4, decide_eq_false (iN_ne1 (by omega)), isRowM_s _ hs s4, inrow_r hk]; rfl
