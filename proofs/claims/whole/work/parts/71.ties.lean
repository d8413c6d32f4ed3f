/-! ties -/
def uC (T : Nat) (x : Int32 × Int32 × Int32) (h : zm_H) : zm_H := zm_ui (zm_ui (zm_ui (zm_ui (zm_ui h 1 1 (iN (T + 1))) 2 (0 * 8 + T) x.1) 2 (1 * 8 + T) x.2.1) 2 (2 * 8 + T) x.2.2) 2 (3 * 8 + T) 200
def uM (T : Nat) (x : Int32 × Int32 × Int32) (h : zm_H) : zm_H := zm_ui (zm_ui (zm_ui (zm_ui (zm_ui (zm_ui (zm_ui h 46 T x.1) 47 T x.2.1) 48 T x.2.2) 49 T 200) 50 T 0) 51 T 0) 45 0 (iN (T + 1))
theorem uMC (T T' : Nat) (x y : Int32 × Int32 × Int32) (h : zm_H) : uM T x (uC T' y h) = uC T' y (uM T x h) := by
  refine Prod.ext ?_ rfl
  funext a b
  by_cases h1 : a = 1
  · subst h1; simp [uM, uC, ui_r]
  · by_cases h2 : a = 2
    · subst h2; simp [uM, uC, ui_r]
    · simp [uM, uC, ui_r, h1, h2]
def runC : Nat → List (Int32 × Int32 × Int32) → zm_H → zm_H
  | _, [], h => h
  | T, x :: l, h => runC (T + 1) l (uC T x h)
def runM : Nat → List (Int32 × Int32 × Int32) → zm_H → zm_H
  | _, [], h => h
  | T, x :: l, h => runM (T + 1) l (uM T x h)
theorem uM_runC (T : Nat) (x : Int32 × Int32 × Int32) (l : List (Int32 × Int32 × Int32)) : ∀ (T' : Nat) (h : zm_H), uM T x (runC T' l h) = runC T' l (uM T x h) := by
  induction l with
  | nil => intro T' h; rfl
  | cons y l ih => intro T' h; simp only [runC]; rw [ih, uMC]
theorem RR_tie {L : Nat} {xs : Nat → Int32} {h : zm_H} {T P D A S B Q : Nat} (hT' : T < 8) (x : Int32 × Int32 × Int32) (fx : fitW 0 x.1 ∧ fitW 1 x.2.1 ∧ fitW 2 x.2.2) (W : rW L xs h) (N : rN T P h) (C : rC T P D A h) (T' : rT S h) (Lw : rL h) (G : rG h) (I : rI T h) (Bd : rB B Q h) (Sh : rS B h) :
    rW L xs (uM T x (uC T x h)) ∧ rN (T + 1) P (uM T x (uC T x h)) ∧ rC (T + 1) P D A (uM T x (uC T x h)) ∧ rT S (uM T x (uC T x h)) ∧ rL (uM T x (uC T x h)) ∧ rG (uM T x (uC T x h)) ∧ rI (T + 1) (uM T x (uC T x h)) ∧ rB B Q (uM T x (uC T x h)) ∧ rS B (uM T x (uC T x h)) := by
  unfold uM uC
  refine ⟨rW_d ?_ W, rN_tie N hT' x.1 x.2.1 x.2.2 fx.1 fx.2.1 fx.2.2, rC_mono (by omega) (by omega) (rC_d ?_ C), rT_d ?_ T', rL_d ?_ Lw, rG_d ?_ G, rI_mono (by omega) (rI_d ?_ I), rB_d ?_ Bd, rS_d ?_ Sh⟩
  · simp (disch := omega) only [dW, ui_f, ui_c, ui_k, ui_2, ul_1, ul_f, and_self]
  · simp (disch := omega) only [dC, ui_f, ui_c, ui_k, ui_2, ul_1, ul_f, and_self]
  · simp (disch := omega) only [dT, ui_f, ui_c, ui_k, ui_2, ul_1, ul_f, and_self]
  · simp (disch := omega) only [dL, ui_f, ui_c, ui_k, ui_2, ul_1, ul_f, and_self]
  · simp (disch := omega) only [dG, ui_f, ui_c, ui_k, ui_2, ul_1, ul_f, and_self]
  · simp (disch := omega) only [dI, ui_f, ui_c, ui_k, ui_2, ul_1, ul_f, and_self]
  · simp (disch := omega) only [dB, ui_f, ui_c, ui_k, ui_2, ul_1, ul_f, and_self]
  · simp (disch := omega) only [dS, ui_f, ui_c, ui_k, ui_2, ul_1, ul_f, and_self]
theorem RR_ties {L : Nat} {xs : Nat → Int32} {P D A S B Q : Nat} (l : List (Int32 × Int32 × Int32)) : ∀ (T : Nat) (h : zm_H), T + l.length ≤ 8 → (∀ x ∈ l, fitW 0 x.1 ∧ fitW 1 x.2.1 ∧ fitW 2 x.2.2) → rW L xs h → rN T P h → rC T P D A h → rT S h → rL h → rG h → rI T h → rB B Q h → rS B h → RR L xs (runM T l (runC T l h)) := by
  induction l with
  | nil => intro T h _ _ W N C T' Lw G I Bd Sh; exact ⟨T, P, D, A, S, B, Q, W, N, C, T', Lw, G, I, Bd, Sh⟩
  | cons x l ih =>
    intro T h hl hf W N C T' Lw G I Bd Sh
    rw [List.length_cons] at hl
    obtain ⟨W, N, C, T', Lw, G, I, Bd, Sh⟩ := RR_tie (by omega) x (hf x (List.mem_cons_self ..)) W N C T' Lw G I Bd Sh
    have := ih (T + 1) _ (by omega) (fun y hy => hf y (List.mem_cons_of_mem _ hy)) W N C T' Lw G I Bd Sh
    simp only [runM, runC]
    rw [uM_runC]; exact this
def okT (a b c : Int32) : Bool := decide (40 ≤ a) && decide (a ≤ 200) && (decide (1 ≤ b) && decide (b ≤ 9)) && (decide (0 ≤ c) && decide (c ≤ 9))
def comeL (f : Nat → Int64) (n : Nat) : Nat → Nat → Nat → List (Int32 × Int32 × Int32)
  | 0, _, _ => []
  | k + 1, p, T => if p + 3 ≤ n ∧ T < 8 ∧ okT (f p).toInt32 (f (p + 1)).toInt32 (f (p + 2)).toInt32 = true then ((f p).toInt32, (f (p + 1)).toInt32, (f (p + 2)).toInt32) :: comeL f n k (p + 3) (T + 1) else []
theorem comeL_len (f : Nat → Int64) (n : Nat) : ∀ k p T, T ≤ 8 → T + (comeL f n k p T).length ≤ 8 := by
  intro k
  induction k with
  | zero => intro p T h; simpa [comeL] using h
  | succ k ih =>
    intro p T h
    rw [comeL]
    split
    · rename_i q
      have := ih (p + 3) (T + 1) (by omega)
      rw [List.length_cons]; omega
    · simpa using h
theorem comeL_fit (f : Nat → Int64) (n : Nat) : ∀ k p T, ∀ x ∈ comeL f n k p T, fitW 0 x.1 ∧ fitW 1 x.2.1 ∧ fitW 2 x.2.2 := by
  intro k
  induction k with
  | zero => intro p T x hx; simp [comeL] at hx
  | succ k ih =>
    intro p T x hx
    rw [comeL] at hx
    split at hx
    · rename_i q
      rcases List.mem_cons.mp hx with rfl | hx
      · obtain ⟨-, -, q⟩ := q
        unfold okT at q
        rw [Bool.and_eq_true, Bool.and_eq_true, Bool.and_eq_true, Bool.and_eq_true, Bool.and_eq_true, decide_eq_true_eq, decide_eq_true_eq, decide_eq_true_eq, decide_eq_true_eq, decide_eq_true_eq, decide_eq_true_eq] at q
        exact ⟨q.1.1, q.1.2, q.2⟩
      · exact ih _ _ x hx
    · simp at hx
theorem readS_s (d : Nat) {s n i : Nat} (hs : s < 6) (hn : n ≤ 60) (hi : i < n) {h : zm_H} (e : h.1 (33 + s) 3 = iN n) : fSh_read (d + 1) (33 + s) (iN i) h = some (some (.long (h.2 (39 + s) i)), h) := by
  rw [fSh_read_eq, isO7 hs, cF (iN_lt0 (by omega)), e, cF (by simp (disch := omega) only [iN_add, iN_addl, iN_addr, iN_mul, iN_mull, iN_mulr, iN_sub, iN_subl, iN_subr, iN_c, iN_lt, iN_ltl, iN_ltr, iN_le, iN_lel, iN_ler, iN_eq, iN_eql, iN_eqr]; omega), cF (by simp (disch := omega) only [iN_add, iN_addl, iN_addr, iN_mul, iN_mull, iN_mulr, iN_sub, iN_subl, iN_subr, iN_c, iN_lt, iN_ltl, iN_ltr, iN_le, iN_lel, iN_ler, iN_eq, iN_eql, iN_eqr]; omega), rt33 hs, gJ39 hs (by omega), iN_c (by omega)]; rfl
theorem span3 {n p : Nat} (hn : n ≤ 60) (hp : p < 2147483648) : (decide ((0 : Int32) ≤ 3) && decide (3 ≤ iN n) && (decide (0 ≤ iN p) && decide (iN p ≤ iN n - 3))) = decide (p + 3 ≤ n) := by
  by_cases q : 3 ≤ n
  · simp (disch := omega) only [iN_add, iN_addl, iN_addr, iN_mul, iN_mull, iN_mulr, iN_sub, iN_subl, iN_subr, iN_c, iN_lt, iN_ltl, iN_ltr, iN_le, iN_lel, iN_ler, iN_eq, iN_eql, iN_eqr]
    simp [q]; omega
  · rw [show decide (3 ≤ iN n) = false by simp (disch := omega) only [iN_add, iN_addl, iN_addr, iN_mul, iN_mull, iN_mulr, iN_sub, iN_subl, iN_subr, iN_c, iN_lt, iN_ltl, iN_ltr, iN_le, iN_lel, iN_ler, iN_eq, iN_eql, iN_eqr]; simp; omega, show decide (p + 3 ≤ n) = false by simp; omega]; simp
theorem came_s (d : Nat) {L : Nat} {xs : Nat → Int32} {s n p T P : Nat} (hs : s < 6) (hn : n ≤ 60) (hp : p < 2147483648) (hT : T ≤ 8) (hP : P ≤ 6) {h : zm_H} (W : rW L xs h) (e : h.1 (33 + s) 3 = iN n) (eT : h.1 1 1 = iN T) (eP : h.1 1 2 = iN P) {f : Nat → Int64} (hf : ∀ i, i < n → h.2 (39 + s) i = f i) :
    fE_tieCame (d + 5) (33 + s) (iN p) h = (if p + 3 ≤ n ∧ T < 8 ∧ okT (f p).toInt32 (f (p + 1)).toInt32 (f (p + 2)).toInt32 = true then some (some (.int 1), uC T ((f p).toInt32, (f (p + 1)).toInt32, (f (p + 2)).toInt32) h) else some (some (.int 0), h)) := by
  rw [fE_tieCame_eq, isO7 hs, hasSpan_s _ hs, e, span3 hn hp, bI, zi_0]
  by_cases q : p + 3 ≤ n
  · rw [decide_eq_true q]
    simp only [Bool.cond_true, Bool.cond_false, Bool.not_true, Bool.not_false, iN_addr]
    rw [readS_s _ hs hn (by omega) e, bJ, readS_s _ hs hn (by omega) e, bJ, readS_s _ hs hn (by omega) e, bJ]
    rw [hf p (by omega), hf (p + 1) (by omega), hf (p + 2) (by omega)]
    rw [isAllowed_s (d + 3) W (x := 0) (w := 0) rfl (by omega), bI, zi_0, isAllowed_s (d + 3) W (x := 1) (w := 1) rfl (by omega), bI, zi_0, isAllowed_s (d + 3) W (x := 2) (w := 2) rfl (by omega), bI, zi_0]
    rw [show lo 0 = 40 from rfl, show hi 0 = 200 from rfl, show lo 1 = 1 from rfl, show hi 1 = 9 from rfl, show lo 2 = 0 from rfl, show hi 2 = 9 from rfl]
    unfold okT
    cases (decide (40 ≤ (f p).toInt32) && decide ((f p).toInt32 ≤ 200)) <;> cases (decide (1 ≤ (f (p + 1)).toInt32) && decide ((f (p + 1)).toInt32 ≤ 9)) <;> cases (decide (0 ≤ (f (p + 2)).toInt32) && decide ((f (p + 2)).toInt32 ≤ 9))
    case true.true.true =>
      by_cases q2 : T < 8
      · rw [if_pos ⟨q, q2, rfl⟩]
        simp only [Bool.not_true, Bool.cond_false, Bool.not_false, Bool.cond_true]
        rw [addTie_s d q2 (by omega) W eT eP, bI, cF]
        · rfl
        · rw [show (-3 : Int32) = -3 from rfl]
          intro e3
          have := congrArg Int32.toInt e3
          rw [iN_toInt (by omega), show ((-3 : Int32)).toInt = -3 by decide] at this
          omega
      · obtain rfl : T = 8 := by omega
        rw [if_neg (fun e => q2 e.2.1)]
        simp only [Bool.not_true, Bool.cond_false, Bool.not_false, Bool.cond_true]
        rw [addTie_full (d + 3) eT]; rfl
    all_goals
      rw [if_neg (fun e => by simp at e)]; rfl
  · rw [decide_eq_false q, if_neg (fun e => q e.1)]; rfl
theorem tiesE_s (d : Nat) {L : Nat} {xs : Nat → Int32} {s n p P N : Nat} (hs : s < 6) (hn : n ≤ 60) (hp : p < 2147483648) (hP : P ≤ 6) (hN : N ≤ 8) (f : Nat → Int64) : ∀ (k c T : Nat) (h : zm_H), c + k = N → (c = 0 ∨ p + 3 * c ≤ 60) → T ≤ 8 → rW L xs h → h.1 (33 + s) 3 = iN n → h.1 1 1 = iN T → h.1 1 2 = iN P → (∀ i, i < n → h.2 (39 + s) i = f i) →
    fE_ties_c53 (d + 6) (iN p) (iN N) (33 + s) (iN c) h = some (some (.int (iN (c + (comeL f n k (p + 3 * c) T).length))), runC T (comeL f n k (p + 3 * c) T) h) := by
  intro k
  induction k with
  | zero =>
    intro c T h hc _ _ _ _ _ _ _
    obtain rfl : c = N := by omega
    rw [fE_ties_c53_eq, cT (by simp (disch := omega) only [iN_add, iN_addl, iN_addr, iN_mul, iN_mull, iN_mulr, iN_sub, iN_subl, iN_subr, iN_c, iN_lt, iN_ltl, iN_ltr, iN_le, iN_lel, iN_ler, iN_eq, iN_eql, iN_eqr]; omega)]; rfl
  | succ k ih =>
    intro c T h hc hc2 hT W e eT eP hf
    rw [fE_ties_c53_eq, cF (by simp (disch := omega) only [iN_add, iN_addl, iN_addr, iN_mul, iN_mull, iN_mulr, iN_sub, iN_subl, iN_subr, iN_c, iN_lt, iN_ltl, iN_ltr, iN_le, iN_lel, iN_ler, iN_eq, iN_eql, iN_eqr]; omega)]
    rw [iN_mull, iN_add, came_s d hs hn (by omega) hT hP W e eT eP hf, comeL]
    by_cases q : p + 3 * c + 3 ≤ n ∧ T < 8 ∧ okT (f (p + 3 * c)).toInt32 (f (p + 3 * c + 1)).toInt32 (f (p + 3 * c + 2)).toInt32 = true
    · rw [if_pos q, if_pos q, bI, cF (by decide), iN_addr]
      rw [ih (c + 1) (T + 1) _ (by omega) (by omega) (by omega)]
      · rw [show p + 3 * (c + 1) = p + 3 * c + 3 by omega, List.length_cons, runC]
        rw [show ∀ x, c + 1 + x = c + (x + 1) by intro x; omega]
      · refine rW_d ?_ W
        unfold uC
        simp (disch := omega) only [dW, ui_f, ui_c, ui_k, ui_2, ul_1, ul_f, and_self]
      · unfold uC; simp (disch := omega) only [ui_c]; exact e
      · unfold uC; simp (disch := omega) only [ui_c, ui_s]
      · unfold uC; simp (disch := omega) only [ui_c, ui_k]; exact eP
      · exact hf
    · rw [if_neg q, if_neg q, bI, cT (by decide)]; rfl
theorem x64 {p c : Nat} (hp : p < 2147483648) (hc : c ≤ 8) : ((iN p).toInt64 + 3 * (iN c).toInt64).toInt = (p : Int) + 3 * c := by
  rw [Int64.toInt_add, Int64.toInt_mul, iN_64 hp, iN_64 (by omega), show ((3 : Int64)).toInt = 3 by decide, Int.bmod_eq_of_le (n := 3 * (c : Int)) (by omega) (by omega), Int.bmod_eq_of_le (by omega) (by omega)]
theorem x32 (p c : Nat) : ((iN p).toInt64 + 3 * (iN c).toInt64).toInt32 = iN (p + 3 * c) := by
  rw [Int64.toInt32_add, Int64.toInt32_mul, Int32.toInt32_toInt64, Int32.toInt32_toInt64, show ((3 : Int64)).toInt32 = 3 by decide, iN_mull, iN_add]
theorem tiesM_s (d : Nat) {s n p N : Nat} (hs : s < 6) (hn : n ≤ 60) (hp : p < 2147483648) (hN : N ≤ 8) (f : Nat → Int64) : ∀ (k c T : Nat) (h : zm_H), c + k = N → (c = 0 ∨ p + 3 * c ≤ 60) → T ≤ 8 → h.1 74 s = iN n → h.1 45 0 = iN T → (∀ i, i < n → h.2 75 (60 * s + i) = f i) →
    fM_ties_c50 (d + 6) (iN s) (iN p) (iN N) (iN c) (iN c) h = some (some (.int (iN (c + (comeL f n k (p + 3 * c) T).length))), runM T (comeL f n k (p + 3 * c) T) h) := by
  intro k
  induction k with
  | zero =>
    intro c T h hc _ _ _ _ _
    obtain rfl : c = N := by omega
    rw [fM_ties_c50_eq, cT (by simp (disch := omega) only [iN_add, iN_addl, iN_addr, iN_mul, iN_mull, iN_mulr, iN_sub, iN_subl, iN_subr, iN_c, iN_lt, iN_ltl, iN_ltr, iN_le, iN_lel, iN_ler, iN_eq, iN_eql, iN_eqr]; omega)]; rfl
  | succ k ih =>
    intro c T h hc hc2 hT e eT hf
    have hx := x64 hp (show c ≤ 8 by omega)
    rw [fM_ties_c50_eq, cF (by simp (disch := omega) only [iN_add, iN_addl, iN_addr, iN_mul, iN_mull, iN_mulr, iN_sub, iN_subl, iN_subr, iN_c, iN_lt, iN_ltl, iN_ltr, iN_le, iN_lel, iN_ler, iN_eq, iN_eql, iN_eqr]; omega)]
    rw [cF (by rw [Int32.not_lt, lg_cmp_ge, Int64.le_iff_toInt_le, hx, show ((0 : Int64)).toInt = 0 by decide]; omega)]
    rw [gR_74 hs, Bool.cond_true, iN_c (by omega), e]
    have l1 : decide (0 < lg_cmp ((iN p).toInt64 + 3 * (iN c).toInt64 + 3) (iN n).toInt64) = !decide (p + 3 * c + 3 ≤ n) := by
      rw [← decide_not, decide_eq_decide, ← Int32.not_le, lg_cmp_le, Int64.le_iff_toInt_le, Int64.toInt_add, hx, show ((3 : Int64)).toInt = 3 by decide, iN_64 (by omega), Int.bmod_eq_of_le (by omega) (by omega)]
      omega
    rw [l1, x32, comeL]
    by_cases q : p + 3 * c + 3 ≤ n
    · rw [decide_eq_true q, Bool.not_true, Bool.cond_false, eT]
      by_cases q2 : T < 8
      · rw [cN, cF (by simp (disch := omega) only [iN_add, iN_addl, iN_addr, iN_mul, iN_mull, iN_mulr, iN_sub, iN_subl, iN_subr, iN_c, iN_lt, iN_ltl, iN_ltr, iN_le, iN_lel, iN_ler, iN_eq, iN_eql, iN_eqr]; omega)]
        simp (disch := omega) only [iN_mull, iN_add, iN_addr, gJ_75, iN_c, Bool.cond_true]
        rw [show 60 * s + (p + 3 * c) + 1 = 60 * s + (p + 3 * c + 1) by omega, show 60 * s + (p + 3 * c) + 2 = 60 * s + (p + 3 * c + 2) by omega]
        have hf1 := hf (p + 3 * c) (by omega)
        have hf2 := hf (p + 3 * c + 1) (by omega)
        have hf3 := hf (p + 3 * c + 2) (by omega)
        simp only [hf1, hf2, hf3, within_s, bI, zi_0, newTie_s (d + 4) q2 eT]
        by_cases q3 : okT (f (p + 3 * c)).toInt32 (f (p + 3 * c + 1)).toInt32 (f (p + 3 * c + 2)).toInt32 = true
        · rw [if_pos ⟨q, q2, q3⟩]
          unfold okT at q3
          rw [Bool.and_eq_true, Bool.and_eq_true] at q3
          rw [q3.1.1, q3.1.2, q3.2]
          simp only [Bool.not_true, Bool.cond_false, Bool.not_false, Bool.cond_true, iN_addr]
          have := ih (c + 1) (T + 1) (uM T ((f (p + 3 * c)).toInt32, (f (p + 3 * c + 1)).toInt32, (f (p + 3 * c + 2)).toInt32) h) (by omega) (by omega) (by omega) ?_ ?_ ?_
          · rw [show p + 3 * (c + 1) = p + 3 * c + 3 by omega] at this
            rw [List.length_cons, runM, show c + ((comeL f n k (p + 3 * c + 3) (T + 1)).length + 1) = c + 1 + (comeL f n k (p + 3 * c + 3) (T + 1)).length by omega]
            exact this
          · unfold uM; simp (disch := omega) only [ui_c]; exact e
          · unfold uM; simp (disch := omega) only [ui_s]
          · exact hf
        · rw [if_neg (fun e => q3 e.2.2)]
          unfold okT at q3
          revert q3
          cases (decide (40 ≤ (f (p + 3 * c)).toInt32) && decide ((f (p + 3 * c)).toInt32 ≤ 200)) <;> cases (decide (1 ≤ (f (p + 3 * c + 1)).toInt32) && decide ((f (p + 3 * c + 1)).toInt32 ≤ 9)) <;> cases (decide (0 ≤ (f (p + 3 * c + 2)).toInt32) && decide ((f (p + 3 * c + 2)).toInt32 ≤ 9)) <;> intro q3 <;> first | rfl | exact absurd rfl q3
      · obtain rfl : T = 8 := by omega
        rw [cN, cT (show iN 8 = 8 from rfl), if_neg (fun e => q2 e.2.1)]; rfl
    · rw [decide_eq_false q, if_neg (fun e => q e.1)]; rfl
theorem K_ties (d : Nat) {L : Nat} {xs : Nat → Int32} {h : zm_H} (r : RR L xs h) (a p m : Int32) : okC L xs (fE_ties (d + 6) a p m) (fM_ties (d + 6) a p m) h := by
  have r0 := r
  obtain ⟨T, P, D, A, S, B, Q, W, N, C, T', Lw, G, I, Bd, Sh⟩ := r
  have N0 := N
  obtain ⟨⟨hT, hP, n1, n2, n3, n4⟩, N1, N2, N3⟩ := N
  have hB := Bd.1
  by_cases q : a < 0 ∨ 6 ≤ a
  · refine okC_same r0 (-1) ?_ ?_
    · rw [fE_ties_eq, isShelf_s, le5_n q, bI, cT (by decide)]
    · rw [fM_ties_eq, isShelfM_s, le5_n q, bI, cT (by decide)]
  · have q1 := le5_6 q
    obtain ⟨s, hs, rfl⟩ := iN_exn 6 rfl (by decide) q
    by_cases u : m < 1 ∨ 8 < m
    · refine okC_same r0 (-1) ?_ ?_
      · rw [fE_ties_eq, isShelf_s, q1, bI, cF (by decide)]
        by_cases e : m < 1
        · rw [cT e]
        · rw [cF e, cF (by grind)]
      · rw [fM_ties_eq, isShelfM_s, q1, bI, cF (by decide), within_s, show (decide (1 ≤ m) && decide (m ≤ 8)) = false by grind]; rfl
    · have u1 : (decide (1 ≤ m) && decide (m ≤ 8)) = true := by grind
      have u2 : ¬ m < 1 := by grind
      have u3 : m ≤ 8 := by grind
      obtain ⟨M, hM9, rfl⟩ := iN_exn (x := m) (c := 9) 9 rfl (by decide) (by grind)
      have hE : fE_ties (d + 6) (iN s) p (iN M) h = zb_I (fSh_isEmpty (d + 5) (33 + s) h) (fun v4 h3 =>
     cond (decide (v4 = 0))
     (cond true (zb_I (fSh_isRowOf (d + 5) (33 + s) (1 : Int32) h3) (fun v6 h5 =>
      cond (!(decide (v6 = 0)))
      (fE_ties_c53 (d + 6) p (iN M) (33 + s) ((0 : Int32)) h5)
      (some (some (.int ((-12 : Int32))), h5)))) none)
     (some (some (.int ((0 : Int32))), h3))) := by
        rw [fE_ties_eq, isShelf_s, q1, bI, cF (by decide), cF u2, cT u3, gQ_32 hs, iN_c (by omega), rt32 hs, isO7 hs]; rfl
      have hM : ∀ K : zm_H, fM_ties (d + 6) (iN s) p (iN M) K = cond (!(decide (K.1 73 s = -1))) (cond (decide (K.1 73 s = 1)) (fM_ties_c50 (d + 6) (iN s) p (iN M) 0 0 K) (some (some (.int (-12)), K))) (some (some (.int 0), K)) := by
        intro K
        rw [fM_ties_eq, isShelfM_s, q1, bI, cF (by decide), within_s, u1, bI, cN, cF (by decide), gR_73 hs, iN_c (by omega)]; rfl
      rcases Sh s hs with ⟨s1, s2, s3, s4, s5⟩ | ⟨b, hb, s1, s2, s3, s4, s5⟩ | ⟨k, n, hk, hn, s1, s2, s3, s4, s5, s6⟩
      · refine okC_same r0 0 ?_ ?_
        · rw [hE, isEmpty_s _ hs, s1, s2]; rfl
        · rw [hM, s4]; rfl
      · refine okC_same r0 (-12) ?_ ?_
        · rw [hE, isEmpty_s _ hs, s1, decide_eq_false (iN_ne1 (by omega)), s2]
          simp only [bI, zi_0, Bool.false_and, Bool.not_false, Bool.cond_true, isRowOf_s _ hs, s2]; rfl
        · rw [hM, s4, decide_eq_false (iN_ne1 (by omega)), cF (show ¬ iN (10 + b) = 1 by rw [show (1 : Int32) = iN 1 from rfl, iN_eq (by omega) (by omega)]; omega)]; rfl
      · have hE2 : fE_ties (d + 6) (iN s) p (iN M) h = cond (decide (iN k = 1)) (fE_ties_c53 (d + 6) p (iN M) (33 + s) 0 h) (some (some (.int (-12)), h)) := by
          rw [hE, isEmpty_s _ hs, s2, decide_eq_false (iN_ne1 (by omega))]
          simp only [bI, zi_0, Bool.and_false, Bool.not_false, Bool.cond_true, isRowOf_s _ hs, s2, decide_eq_false (iN_ne1 (show k < 2147483648 by omega)), Bool.true_and, Bool.not_not]
        have hM2 : ∀ K : zm_H, K.1 73 s = iN k → fM_ties (d + 6) (iN s) p (iN M) K = cond (decide (iN k = 1)) (fM_ties_c50 (d + 6) (iN s) p (iN M) 0 0 K) (some (some (.int (-12)), K)) := by
          intro K e
          rw [hM, e, decide_eq_false (iN_ne1 (by omega))]; rfl
        by_cases hk1 : k = 1
        · subst hk1
          have hM1 : 1 ≤ M := by rw [show (1 : Int32) = iN 1 from rfl, iN_lt (by omega) (by omega)] at u2; omega
          by_cases hp : 0 ≤ p
          · obtain ⟨p, hp31, rfl⟩ : ∃ k, k < 2147483648 ∧ p = iN k := ⟨_, iN_bd p, iN_of hp⟩
            have e1 := tiesE_s d (xs := xs) (L := L) (N := M) hs hn hp31 hP (by omega) (h.2 (39 + s)) M 0 T h (by omega) (.inl rfl) hT W s3 n1 n3 (fun _ _ => rfl)
            have hl := comeL_len (h.2 (39 + s)) n M (p + 3 * 0) T hT
            have fr : ∀ (l : List (Int32 × Int32 × Int32)) (T : Nat) (k : zm_H), (runC T l k).2 = k.2 ∧ ∀ a, a ≠ 1 → a ≠ 2 → (runC T l k).1 a = k.1 a := by
              intro l
              induction l with
              | nil => intro T k; exact ⟨rfl, fun _ _ _ => rfl⟩
              | cons x l ih =>
                intro T k
                refine ⟨(ih _ _).1, fun a h1 h2 => ?_⟩
                rw [runC, (ih _ _).2 a h1 h2]
                unfold uC; simp (disch := omega) only [ui_f]
            obtain ⟨f1, f2⟩ := fr (comeL (h.2 (39 + s)) n M (p + 3 * 0) T) T h
            have e2 := tiesM_s d (N := M) hs hn hp31 (by omega) (h.2 (39 + s)) M 0 T (runC T (comeL (h.2 (39 + s)) n M (p + 3 * 0) T) h) (by omega) (.inl rfl) hT (by rw [f2 _ (by omega) (by omega)]; exact s5) (by rw [f2 _ (by omega) (by omega)]; exact n2) (fun i hi => by rw [f1]; exact (s6 i hi).1)
            refine ⟨iN (0 + (comeL (h.2 (39 + s)) n M (p + 3 * 0) T).length), runC T (comeL (h.2 (39 + s)) n M (p + 3 * 0) T) h, _, ?_, ?_, RR_ties (comeL (h.2 (39 + s)) n M (p + 3 * 0) T) T h hl (comeL_fit _ _ _ _ _) W N0 C T' Lw G I Bd Sh⟩
            · rw [hE2, cT (show iN 1 = 1 from rfl)]; exact e1
            · rw [hM2 _ (by rw [f2 _ (by omega) (by omega)]; exact s4), cT (show iN 1 = 1 from rfl)]; exact e2
          · refine okC_same r0 0 ?_ ?_
            · rw [hE2, cT (show iN 1 = 1 from rfl), fE_ties_c53_eq, cF (by rw [show (0 : Int32) = iN 0 from rfl, iN_le (by omega) (by omega)]; omega), fE_tieCame_eq, isO7 hs, hasSpan_s _ hs, show p + 3 * 0 = p by grind, decide_eq_false hp]
              simp only [Bool.false_and, Bool.and_false]; rfl
            · rw [hM2 h s4, cT (show iN 1 = 1 from rfl), fM_ties_c50_eq, cF (by rw [show (0 : Int32) = iN 0 from rfl, iN_le (by omega) (by omega)]; omega)]
              rw [cT]
              rw [← Int32.not_le, lg_cmp_ge, Int64.le_iff_toInt_le]
              rw [show p.toInt64 + 3 * (0 : Int32).toInt64 = p.toInt64 by rw [show (0 : Int32).toInt64 = 0 from rfl, Int64.mul_zero, Int64.add_zero], Int32.toInt_toInt64, show ((0 : Int64)).toInt = 0 by decide]
              intro e
              apply hp
              rw [Int32.le_iff_toInt_le, Int32.toInt_zero]; exact e
        · have ne : ¬ iN k = 1 := by rw [show (1 : Int32) = iN 1 from rfl, iN_eq (by omega) (by omega)]; exact hk1
          exact okC_same r0 (-12) (by rw [hE2, cF ne]) (by rw [hM2 h s4, cF ne])
