/-! hangs, where, knot -/
def lst (p : Nat → Bool) : Nat → Nat → Int32
  | 0, _ => -2
  | k + 1, b => if p b = true then iN b else lst p k (b + 1)
def ls2 (p : Nat → Bool) : Nat → Nat → Int32 → Int32
  | 0, _, x => x
  | k + 1, b, x => ls2 p k (b + 1) (if p b = true ∧ x = -2 then iN b else x)
def gs2 (p : Nat → Bool) : Nat → Nat → Int32 → Int32
  | 0, _, x => x
  | k + 1, b, x => gs2 p k (b + 1) (if p b = true then iN b else x)
def gst (p : Nat → Bool) (b : Nat) : Nat → Int32
  | 0 => -2
  | n + 1 => if p (b + n) = true then iN (b + n) else gst p b n
def cp2 (p : Nat → Bool) : Nat → Nat → Nat → Nat
  | 0, _, m => m
  | k + 1, b, m => cp2 p k (b + 1) (if p b = true then m + 1 else m)
theorem iN_ne2 {n : Nat} (h : n < 2147483648) : ¬ iN n = -2 := by
  intro e
  have := congrArg Int32.toInt e
  rw [iN_toInt h] at this
  have : ((-2 : Int32)).toInt = -2 := by decide
  omega
theorem ls2_set (p : Nat → Bool) : ∀ (k b : Nat) (x : Int32), ¬ x = -2 → ls2 p k b x = x := by
  intro k
  induction k with
  | zero => intro b x _; rfl
  | succ k ih => intro b x h; rw [ls2, if_neg (fun e => h e.2)]; exact ih _ _ h
theorem ls2_lst (p : Nat → Bool) : ∀ (k b : Nat), b + k < 2147483648 → ls2 p k b (-2) = lst p k b := by
  intro k
  induction k with
  | zero => intro b _; rfl
  | succ k ih =>
    intro b hb
    rw [ls2, lst]
    by_cases q : p b = true
    · rw [if_pos ⟨q, rfl⟩, if_pos q, ls2_set p k _ _ (iN_ne2 (by omega))]
    · rw [if_neg (fun e => q e.1), if_neg q]; exact ih _ (by omega)
theorem gs2_gst (p : Nat → Bool) (b : Nat) : ∀ (k m : Nat), gs2 p k (b + m) (gst p b m) = gst p b (m + k) := by
  intro k
  induction k with
  | zero => intro m; rfl
  | succ k ih =>
    intro m
    rw [gs2]
    have e : (if p (b + m) = true then iN (b + m) else gst p b m) = gst p b (m + 1) := rfl
    rw [e, show b + m + 1 = b + (m + 1) by omega, ih (m + 1), show m + 1 + k = m + (k + 1) by omega]
theorem cp2_ge (p : Nat → Bool) : ∀ (k b m : Nat), m ≤ cp2 p k b m ∧ cp2 p k b m ≤ m + k := by
  intro k
  induction k with
  | zero => intro b m; exact ⟨Nat.le_refl _, Nat.le_refl _⟩
  | succ k ih =>
    intro b m
    rw [cp2]
    split
    · have := ih (b + 1) (m + 1); omega
    · have := ih (b + 1) m; omega
theorem lst_cp (p : Nat → Bool) : ∀ (k b : Nat), b + k < 2147483648 → (lst p k b = -2 ↔ cp2 p k b 0 = 0) := by
  intro k
  induction k with
  | zero => intro b _; exact ⟨fun _ => rfl, fun _ => rfl⟩
  | succ k ih =>
    intro b hb
    rw [lst, cp2]
    by_cases q : p b = true
    · rw [if_pos q, if_pos q]
      have := (cp2_ge p k (b + 1) (0 + 1)).1
      exact ⟨fun e => absurd e (iN_ne2 (by omega)), fun e => by omega⟩
    · rw [if_neg q, if_neg q]; exact ih _ (by omega)
/-- the b by which it hangs right -/
def prt (lw : Option (List (List Nat × List Nat))) (g : Nat → Int32) (b : Nat) : Bool := rgt g (iN b) (iN b - clo lw g (iN b))
theorem least_s (d : Nat) {lw : Option (List (List Nat × List Nat))} {g : Nat → Int32} (r : gR g) : ∀ (k b : Nat) (h : zm_H), b + k = 201 → lwC lw h → cE g h → ∃ K, fHa_leastRight_c2 (d + 6) (iN b) h = some (some (.int (lst (prt lw g) k b)), K) ∧ frC h K := by
  intro k
  induction k with
  | zero =>
    intro b h hb _ _
    refine ⟨h, ?_, frC_r h⟩
    rw [fHa_leastRight_c2_eq, cT (by simp (disch := omega) only [iN_add, iN_addl, iN_addr, iN_mul, iN_mull, iN_mulr, iN_sub, iN_subl, iN_subr, iN_c, iN_lt, iN_ltl, iN_ltr, iN_le, iN_lel, iN_ler, iN_eq, iN_eql, iN_eqr]; omega)]; rfl
  | succ k ih =>
    intro b h hb rl rE
    obtain ⟨K, k1, k2⟩ := rightAtC d r rl rE (b := iN b) (by rw [show (0 : Int32) = iN 0 from rfl, iN_le (by omega) (by omega)]; omega) (by simp (disch := omega) only [iN_add, iN_addl, iN_addr, iN_mul, iN_mull, iN_mulr, iN_sub, iN_subl, iN_subr, iN_c, iN_lt, iN_ltl, iN_ltr, iN_le, iN_lel, iN_ler, iN_eq, iN_eql, iN_eqr]; omega)
    rw [fHa_leastRight_c2_eq, cF (by simp (disch := omega) only [iN_add, iN_addl, iN_addr, iN_mul, iN_mull, iN_mulr, iN_sub, iN_subl, iN_subr, iN_c, iN_lt, iN_ltl, iN_ltr, iN_le, iN_lel, iN_ler, iN_eq, iN_eql, iN_eqr]; omega), k1, bI, zi_0, lst]
    by_cases q : prt lw g b = true
    · refine ⟨K, ?_, k2⟩
      rw [show rgt g (iN b) (iN b - clo lw g (iN b)) = true from q, if_pos q]; rfl
    · obtain ⟨M, m1, m2⟩ := ih (b + 1) K (by omega) (lwC_f k2 rl) (cE_f k2 rE)
      refine ⟨M, ?_, frC_t k2 m2⟩
      rw [show rgt g (iN b) (iN b - clo lw g (iN b)) = false by simpa [prt] using q, if_neg q, iN_addr]; exact m1
theorem greatest_s (d : Nat) {lw : Option (List (List Nat × List Nat))} {g : Nat → Int32} (r : gR g) : ∀ (n : Nat) (h : zm_H), n ≤ 201 → lwC lw h → cE g h → ∃ K, fHa_greatestRight_c4 (d + 6) (iN n - 1) h = some (some (.int (gst (prt lw g) 0 n)), K) ∧ frC h K := by
  intro n
  induction n with
  | zero =>
    intro h _ _ _
    refine ⟨h, ?_, frC_r h⟩
    rw [fHa_greatestRight_c4_eq, cT (by decide)]; rfl
  | succ n ih =>
    intro h hb rl rE
    have e1 : iN (n + 1) - 1 = iN n := by simp (disch := omega) only [iN_add, iN_addl, iN_addr, iN_mul, iN_mull, iN_mulr, iN_sub, iN_subl, iN_subr, iN_c, iN_lt, iN_ltl, iN_ltr, iN_le, iN_lel, iN_ler, iN_eq, iN_eql, iN_eqr, Nat.add_sub_cancel]
    obtain ⟨K, k1, k2⟩ := rightAtC d r rl rE (b := iN n) (by rw [show (0 : Int32) = iN 0 from rfl, iN_le (by omega) (by omega)]; omega) (by simp (disch := omega) only [iN_add, iN_addl, iN_addr, iN_mul, iN_mull, iN_mulr, iN_sub, iN_subl, iN_subr, iN_c, iN_lt, iN_ltl, iN_ltr, iN_le, iN_lel, iN_ler, iN_eq, iN_eql, iN_eqr]; omega)
    rw [fHa_greatestRight_c4_eq, e1, cF (iN_lt0 (by omega)), k1, bI, zi_0, gst, Nat.zero_add]
    by_cases q : prt lw g n = true
    · refine ⟨K, ?_, k2⟩
      rw [show rgt g (iN n) (iN n - clo lw g (iN n)) = true from q, if_pos q]; rfl
    · obtain ⟨M, m1, m2⟩ := ih K (by omega) (lwC_f k2 rl) (cE_f k2 rE)
      refine ⟨M, ?_, frC_t k2 m2⟩
      rw [show rgt g (iN n) (iN n - clo lw g (iN n)) = false by simpa [prt] using q, if_neg q, show iN n + -1 = iN n - 1 by generalize iN n = x; grind]; exact m1
theorem ones_s (d : Nat) {lw : Option (List (List Nat × List Nat))} {g : Nat → Int32} (r : gR g) : ∀ (k b m : Nat) (h : zm_H), b + k = 201 → m ≤ b → lwC lw h → cE g h → ∃ K, fHa_rightOnes_c4 (d + 6) (iN m) (iN b) h = some (some (.int (iN (cp2 (prt lw g) k b m))), K) ∧ frC h K := by
  intro k
  induction k with
  | zero =>
    intro b m h hb _ _ _
    refine ⟨h, ?_, frC_r h⟩
    rw [fHa_rightOnes_c4_eq, cT (by simp (disch := omega) only [iN_add, iN_addl, iN_addr, iN_mul, iN_mull, iN_mulr, iN_sub, iN_subl, iN_subr, iN_c, iN_lt, iN_ltl, iN_ltr, iN_le, iN_lel, iN_ler, iN_eq, iN_eql, iN_eqr]; omega)]; rfl
  | succ k ih =>
    intro b m h hb hm rl rE
    obtain ⟨K, k1, k2⟩ := rightAtC d r rl rE (b := iN b) (by rw [show (0 : Int32) = iN 0 from rfl, iN_le (by omega) (by omega)]; omega) (by simp (disch := omega) only [iN_add, iN_addl, iN_addr, iN_mul, iN_mull, iN_mulr, iN_sub, iN_subl, iN_subr, iN_c, iN_lt, iN_ltl, iN_ltr, iN_le, iN_lel, iN_ler, iN_eq, iN_eql, iN_eqr]; omega)
    rw [fHa_rightOnes_c4_eq, cF (by simp (disch := omega) only [iN_add, iN_addl, iN_addr, iN_mul, iN_mull, iN_mulr, iN_sub, iN_subl, iN_subr, iN_c, iN_lt, iN_ltl, iN_ltr, iN_le, iN_lel, iN_ler, iN_eq, iN_eql, iN_eqr]; omega), k1, bI, zi_0, cp2]
    by_cases q : prt lw g b = true
    · obtain ⟨M, m1, m2⟩ := ih (b + 1) (m + 1) K (by omega) (by omega) (lwC_f k2 rl) (cE_f k2 rE)
      refine ⟨M, ?_, frC_t k2 m2⟩
      rw [show rgt g (iN b) (iN b - clo lw g (iN b)) = true from q, if_pos q]; simp only [Bool.not_true, Bool.cond_false, iN_addr]; exact m1
    · obtain ⟨M, m1, m2⟩ := ih (b + 1) m K (by omega) (by omega) (lwC_f k2 rl) (cE_f k2 rE)
      refine ⟨M, ?_, frC_t k2 m2⟩
      rw [show rgt g (iN b) (iN b - clo lw g (iN b)) = false by simpa [prt] using q, if_neg q]; simp only [Bool.not_false, Bool.cond_true, iN_addr]; exact m1
def rts (p : Nat → Bool) (x : Int32) (k b : Nat) (l : Int32) (m : Nat) (t : Int32) : Int32 := cond (!(decide (x = 0))) (cond (!(decide (x = 1))) (gs2 p k b t) (iN (cp2 p k b m))) (ls2 p k b l)
theorem rights_s (d : Nat) {lw : Option (List (List Nat × List Nat))} {g : Nat → Int32} {t k : Nat} (ht : t < 8) (hk : k < 5) (x : Int32) : ∀ (n b : Nat) (l : Int32) (m : Nat) (w : Int32) (h : zm_H), b + n = 201 → lwM lw h → mE g t k h → ∃ K, fM_rights_c14 (d + 7) (iN t) (iN k) x l (iN m) w (iN b) h = some (some (.int (rts (prt lw g) x n b l m w)), K) ∧ frM h K := by
  intro n
  induction n with
  | zero =>
    intro b l m w h hb _ _
    refine ⟨h, ?_, frM_r h⟩
    rw [fM_rights_c14_eq, cT (by simp (disch := omega) only [iN_add, iN_addl, iN_addr, iN_mul, iN_mull, iN_mulr, iN_sub, iN_subl, iN_subr, iN_c, iN_lt, iN_ltl, iN_ltr, iN_le, iN_lel, iN_ler, iN_eq, iN_eql, iN_eqr]; omega), cI, cI]; rfl
  | succ n ih =>
    intro b l m w h hb rl rE
    obtain ⟨K, k1, k2⟩ := hangsM d ht hk rl rE (iN b)
    rw [fM_rights_c14_eq, cF (by simp (disch := omega) only [iN_add, iN_addl, iN_addr, iN_mul, iN_mull, iN_mulr, iN_sub, iN_subl, iN_subr, iN_c, iN_lt, iN_ltl, iN_ltr, iN_le, iN_lel, iN_ler, iN_eq, iN_eql, iN_eqr]; omega), k1, bI, zi_0]
    have rr : rts (prt lw g) x (n + 1) b l m w = rts (prt lw g) x n (b + 1) (if prt lw g b = true ∧ l = -2 then iN b else l) (if prt lw g b = true then m + 1 else m) (if prt lw g b = true then iN b else w) := rfl
    rw [rr]
    by_cases q : prt lw g b = true
    · rw [show rgt g (iN b) (iN b - clo lw g (iN b)) = true from q, if_pos q, if_pos q, iN_addr, iN_addr]
      by_cases ql : l = -2
      · obtain ⟨M, m1, m2⟩ := ih (b + 1) (iN b) (m + 1) (iN b) K (by omega) (lwM_f k2 rl) (mE_f k2 rE)
        refine ⟨M, ?_, frM_t k2 m2⟩
        rw [if_pos ⟨q, ql⟩, decide_eq_true ql]; exact m1
      · obtain ⟨M, m1, m2⟩ := ih (b + 1) l (m + 1) (iN b) K (by omega) (lwM_f k2 rl) (mE_f k2 rE)
        refine ⟨M, ?_, frM_t k2 m2⟩
        rw [if_neg (fun e => ql e.2), decide_eq_false ql]; exact m1
    · obtain ⟨M, m1, m2⟩ := ih (b + 1) l m w K (by omega) (lwM_f k2 rl) (mE_f k2 rE)
      refine ⟨M, ?_, frM_t k2 m2⟩
      rw [show rgt g (iN b) (iN b - clo lw g (iN b)) = false by simpa [prt] using q, if_neg q, if_neg q, if_neg (fun e => q e.1)]; simp only [Bool.not_false, Bool.not_true, Bool.cond_true, Bool.cond_false, iN_addr]; exact m1
theorem leastC (d : Nat) {lw : Option (List (List Nat × List Nat))} {g : Nat → Int32} (r : gR g) {h : zm_H} (rl : lwC lw h) (rE : cE g h) : ∃ K, fHa_leastRight (d + 6) h = some (some (.int (lst (prt lw g) 201 0)), K) ∧ frC h K := by
  obtain ⟨K, k1, k2⟩ := least_s d r 201 0 h (by omega) rl rE
  exact ⟨K, by rw [fHa_leastRight_eq]; exact k1, k2⟩
theorem greatestC (d : Nat) {lw : Option (List (List Nat × List Nat))} {g : Nat → Int32} (r : gR g) {h : zm_H} (rl : lwC lw h) (rE : cE g h) : ∃ K, fHa_greatestRight (d + 6) h = some (some (.int (gst (prt lw g) 0 201)), K) ∧ frC h K := by
  obtain ⟨K, k1, k2⟩ := greatest_s d r 201 h (by omega) rl rE
  exact ⟨K, by rw [fHa_greatestRight_eq]; exact k1, k2⟩
theorem onesC (d : Nat) {lw : Option (List (List Nat × List Nat))} {g : Nat → Int32} (r : gR g) {h : zm_H} (rl : lwC lw h) (rE : cE g h) : ∃ K, fHa_rightOnes (d + 6) h = some (some (.int (iN (cp2 (prt lw g) 201 0 0))), K) ∧ frC h K := by
  obtain ⟨K, k1, k2⟩ := ones_s d r 201 0 0 h (by omega) (by omega) rl rE
  exact ⟨K, by rw [fHa_rightOnes_eq]; exact k1, k2⟩
theorem rightsM (d : Nat) {lw : Option (List (List Nat × List Nat))} {g : Nat → Int32} {t k : Nat} (ht : t < 8) (hk : k < 5) (x : Int32) {h : zm_H} (rl : lwM lw h) (rE : mE g t k h) : ∃ K, fM_rights (d + 7) (iN t) (iN k) x h = some (some (.int (rts (prt lw g) x 201 0 (-2) 0 (-2))), K) ∧ frM h K := by
  obtain ⟨K, k1, k2⟩ := rights_s d ht hk x 201 0 (-2) 0 (-2) h (by omega) rl rE
  exact ⟨K, by rw [fM_rights_eq]; exact k1, k2⟩
/-- what a case needs of a tie in a KNOT -/
theorem frH_lwC {lw : Option (List (List Nat × List Nat))} {h K : zm_H} (e : frH h K) (r : lwC lw h) : lwC lw K := by
  cases lw with
  | none => exact (e.2.1 2 (by omega)).trans r
  | some ls => exact ⟨r.1, r.2.1, (e.2.1 2 (by omega)).trans r.2.2.1, by rw [e.1 12 (by omega) (by omega) (by omega)]; exact r.2.2.2.1, r.2.2.2.2⟩
theorem frH_lwM {lw : Option (List (List Nat × List Nat))} {h K : zm_H} (e : frH h K) (r : lwM lw h) : lwM lw K := by
  have e45 := e.1 45 (by omega) (by omega) (by omega)
  cases lw with
  | none => unfold lwM at *; rw [e45]; exact r
  | some ls => exact ⟨by rw [e45]; exact r.1, r.2.1, r.2.2.1, by rw [e45]; exact r.2.2.2.1, lml_d (e.1 57 (by omega) (by omega) (by omega)) (e.1 58 (by omega) (by omega) (by omega)) (e.1 59 (by omega) (by omega) (by omega)) (e.1 60 (by omega) (by omega) (by omega)) ls _ _ r.2.2.2.2.1, r.2.2.2.2.2⟩
theorem frH_mE {g : Nat → Int32} {t k : Nat} {h K : zm_H} (e : frH h K) (r : mE g t k h) : mE g t k K := by
  unfold mE at *
  rw [e.1 46 (by omega) (by omega) (by omega), e.1 47 (by omega) (by omega) (by omega), e.1 48 (by omega) (by omega) (by omega), e.1 49 (by omega) (by omega) (by omega), e.1 50 (by omega) (by omega) (by omega), e.1 52 (by omega) (by omega) (by omega), e.1 45 (by omega) (by omega) (by omega)]; exact r
theorem K_hangs (d : Nat) {L : Nat} {xs : Nat → Int32} {h : zm_H} (r : RR L xs h) (a b w : Int32) : okC L xs (fE_hangs (d + 20) a b w) (fM_hangs (d + 20) a b w) h := by
  have r0 := r
  obtain ⟨T, P, D, A, S, B, Q, W, N, C, T', Lw, G, I, Bd, Sh⟩ := r
  have N0 := N
  obtain ⟨⟨hT, hP, n1, n2, n3, n4⟩, N1, N2, N3⟩ := N
  obtain ⟨lw, l1, l2⟩ := rL_lw Lw
  cases q : tkB T a
  · refine okC_same r0 (-2000000000) ?_ ?_
    · rw [fE_hangs_eq, tkE (d + 16) a n1 n3, q, bI, cT (by decide)]
    · rw [fM_hangs_eq, tkM (d + 16) hT a n2, q, bI, cT (by decide)]
  · obtain ⟨t, k, ht, hk, e1, e2⟩ := tk_ex hT q
    cases q2 : (decide (0 ≤ b) && decide (b ≤ 200))
    · refine okC_same r0 (-2000000000) ?_ ?_
      · rw [fE_hangs_eq, tkE (d + 16) a n1 n3, q, bI, cF (by decide), isBeginning_s, q2, bI, cT (by decide)]
      · rw [fM_hangs_eq, tkM (d + 16) hT a n2, q, bI, cF (by decide), isPlace_s, q2, bI, cT (by decide)]
    · by_cases q3 : w < 0 ∨ 3 < w
      · refine okC_same r0 (-2000000000) ?_ ?_
        · rw [fE_hangs_eq, tkE (d + 16) a n1 n3, q, bI, cF (by decide), isBeginning_s, q2, bI, cF (by decide)]
          by_cases q4 : w < 0
          · rw [cT q4]
          · rw [cF q4, cF (by grind)]
        · rw [fM_hangs_eq, tkM (d + 16) hT a n2, q, bI, cF (by decide), isPlace_s, q2, bI, cF (by decide), within_s, show (decide (0 ≤ w) && decide (w ≤ 3)) = false by grind]; rfl
      · obtain ⟨K, k1, k2, k3⟩ := hung_s (d + 14) e1 e2 hT hP n1 n3 ht hk
        obtain ⟨K2, c1, c2⟩ := clothC (d + 15) (frH_lwC k3 l1) k2 b
        have f2 := frH_t k3 (frH_C c2)
        obtain ⟨M, m1, m2⟩ := clothM (d + 14) (t := t) (k := k) (by omega) hk (frH_lwM f2 l2) (frH_mE f2 (mE_of N0 ht hk)) b
        have rE2 := cE_f c2 k2
        have mE2 := mE_f m2 (frH_mE f2 (mE_of N0 ht hk))
        refine ⟨cond (decide (w = 0)) (b - clo lw (gOf h t k) b) (cond (decide (w = 1)) (thn (gOf h t k) b) (cond (decide (w = 2)) (zi (rgt (gOf h t k) b (b - clo lw (gOf h t k) b))) (clo lw (gOf h t k) b))), K2, M, ?_, ?_, RR_q r0 (frQ_t (frQ_H f2) (frQ_M m2))⟩
        · rw [fE_hangs_eq, tkE (d + 16) a n1 n3, q, bI, cF (by decide), isBeginning_s, q2, bI, cF (by decide), cF (by grind), cT (by grind), k1, bQ, c1, bI, thinC (d + 18) rE2, bI, rightC (d + 17) rE2, bI, zi_0]
          cases decide (w = 0) <;> cases decide (w = 1) <;> cases decide (w = 2) <;> cases rgt (gOf h t k) b (b - clo lw (gOf h t k) b) <;> rfl
        · rw [fM_hangs_eq, tkM (d + 16) hT a (by rw [f2.1 45 (by omega) (by omega) (by omega)]; exact n2), q, bI, cF (by decide), isPlace_s, q2, bI, cF (by decide), within_s, show (decide (0 ≤ w) && decide (w ≤ 3)) = true by grind, bI, cN, cF (by decide), e2, e1, m1, bI, thinM (d + 18) (by omega) mE2, bI, rightM (d + 17) (by omega) mE2, bI, zi_0]
          cases decide (w = 0) <;> cases decide (w = 1) <;> cases decide (w = 2) <;> cases rgt (gOf h t k) b (b - clo lw (gOf h t k) b) <;> rfl
