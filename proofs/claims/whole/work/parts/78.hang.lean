/-! a tie in a KNOT at a neck, in thought: both sides -/
theorem bQ (h : zm_H) (k : zm_H → zm_R) : zb_Q (some (some (.ref 14), h)) 14 k = k h := rfl
def tkB (T : Nat) (a : Int32) : Bool := decide (0 ≤ a) && (decide (0 ≤ a / 10) && decide (a / 10 < iN T) && (decide (0 ≤ a - a / 10 * 10) && decide (a - a / 10 * 10 ≤ 4)))
def trB (a : Int32) : Bool := decide (0 ≤ a) && (decide (0 ≤ a / 10) && decide (a / 10 ≤ 200) && (decide (1 ≤ a - a / 10 * 10) && decide (a - a / 10 * 10 ≤ 4)))
theorem tkM (d : Nat) {T : Nat} (hT : T ≤ 8) (a : Int32) {h : zm_H} (e : h.1 45 0 = iN T) : fM_isTied (d + 3) a h = some (some (.int (zi (tkB T a))), h) := isTied_s d (by omega) a h e
theorem tkE (d : Nat) {T P : Nat} (a : Int32) {h : zm_H} (n1 : h.1 1 1 = iN T) (n3 : h.1 1 2 = iN P) : fE_isTieInKnot (d + 3) a h = some (some (.int (zi (tkB T a))), h) := by
  rw [fE_isTieInKnot_eq]
  unfold tkB
  by_cases p : a < 0
  · rw [cT p, decide_eq_false (Int32.not_le.mpr p)]; rfl
  · rw [cF p, decide_eq_true (Int32.not_lt.mp p), has_s d n1 n3 (x := 0) (w := 0) rfl (by omega), bI, zi_0, isKnotE_s, show cnt T P 0 = T from rfl]
    simp only [bI, zi_0]
    cases decide (0 ≤ a / 10) <;> cases decide (a / 10 < iN T) <;> cases decide (0 ≤ a - a / 10 * 10) <;> cases decide (a - a / 10 * 10 ≤ 4) <;> rfl
theorem trE (d : Nat) {L : Nat} {xs : Nat → Int32} {h : zm_H} (W : rW L xs h) (a : Int32) : fE_isStart (d + 2) a h = some (some (.int (zi (trB a))), h) := by
  rw [fE_isStart_eq]
  unfold trB
  by_cases p : a < 0
  · rw [cT p, decide_eq_false (Int32.not_le.mpr p)]; rfl
  · rw [cF p, decide_eq_true (Int32.not_lt.mp p), isBeginning_s, bI, zi_0, isAllowed_s d W (x := 10) (w := 10) rfl (by omega), show lo 10 = 1 from rfl, show hi 10 = 4 from rfl]
    simp only [bI, zi_0]
    cases decide (0 ≤ a / 10) <;> cases decide (a / 10 ≤ 200) <;> cases decide (1 ≤ a - a / 10 * 10) <;> cases decide (a - a / 10 * 10 ≤ 4) <;> rfl
theorem trM (d : Nat) (a : Int32) (h : zm_H) : fM_isTry (d + 3) a h = some (some (.int (zi (trB a))), h) := isTry_s d a h
theorem tk_ex {T : Nat} (hT : T ≤ 8) {a : Int32} (e : tkB T a = true) : ∃ t k, t < T ∧ k < 5 ∧ a / 10 = iN t ∧ a - a / 10 * 10 = iN k := by
  unfold tkB at e
  simp only [Bool.and_eq_true, decide_eq_true_eq] at e
  obtain ⟨e1, ⟨e2, e3⟩, e4, e5⟩ := e
  obtain ⟨t, ht, e6⟩ := iN_ex e2 e3 (by omega)
  obtain ⟨k, hk, e7⟩ := iN_exn (c := 5) 5 rfl (by decide) (show ¬ (a - a / 10 * 10 < 0 ∨ 5 ≤ a - a / 10 * 10) by grind)
  exact ⟨t, k, ht, hk, e6, e7⟩
theorem tr_ex {a : Int32} (e : trB a = true) : ∃ b s, b ≤ 200 ∧ 1 ≤ s ∧ s ≤ 4 ∧ a / 10 = iN b ∧ a - a / 10 * 10 = iN s := by
  unfold trB at e
  simp only [Bool.and_eq_true, decide_eq_true_eq] at e
  obtain ⟨e1, ⟨e2, e3⟩, e4, e5⟩ := e
  obtain ⟨t, ht, e6⟩ := iN_exn (c := 201) 201 rfl (by decide) (show ¬ (a / 10 < 0 ∨ 201 ≤ a / 10) by grind)
  obtain ⟨k, hk, e7⟩ := iN_exn (c := 5) 5 rfl (by decide) (show ¬ (a - a / 10 * 10 < 0 ∨ 5 ≤ a - a / 10 * 10) by grind)
  refine ⟨t, k, by omega, ?_, by omega, e6, e7⟩
  rw [e7, show (1 : Int32) = iN 1 from rfl, iN_le (by omega) (by omega)] at e4
  exact e4
/-- the numbers of a tie in a KNOT -/
def gOf (h : zm_H) (t k : Nat) : Nat → Int32 := fun i => match i with
  | 1 => h.1 2 (0 * 8 + t)
  | 2 => h.1 2 (1 * 8 + t)
  | 3 => h.1 2 (2 * 8 + t)
  | 4 => h.1 2 (3 * 8 + t)
  | 5 => h.1 2 (4 * 8 + t)
  | 6 => h.1 2 (5 * 8 + k)
  | 7 => h.1 2 (6 * 8 + 0)
  | 8 => h.1 2 (7 * 8 + 0)
  | _ => h.1 2 (8 * 8 + 0)
/-- their ranges -/
def gR (g : Nat → Int32) : Prop := (40 ≤ g 1 ∧ g 1 ≤ 200) ∧ (1 ≤ g 2 ∧ g 2 ≤ 9) ∧ (0 ≤ g 3 ∧ g 3 ≤ 9) ∧ (0 ≤ g 5 ∧ g 5 ≤ 99) ∧ (1 ≤ g 6 ∧ g 6 ≤ 9) ∧ (20 ≤ g 7 ∧ g 7 ≤ 60) ∧ (10 ≤ g 8 ∧ g 8 ≤ 99) ∧ (0 ≤ g 9 ∧ g 9 ≤ 9)
theorem gR_of {T P t k : Nat} {h : zm_H} (N : rN T P h) (ht : t < T) (hk : k < 5) : gR (gOf h t k) := by
  obtain ⟨⟨hT, hP, n1, n2, n3, n4⟩, N1, N2, N3⟩ := N
  exact ⟨N2 0 t (by omega) ht, N2 1 t (by omega) ht, N2 2 t (by omega) ht, N2 4 t (by omega) ht, N2 5 k (by omega) hk, N2 6 0 (by omega) (by simp [cnt]), N2 7 0 (by omega) (by simp [cnt]), N2 8 0 (by omega) (by simp [cnt])⟩
theorem mE_of {T P t k : Nat} {h : zm_H} (N : rN T P h) (ht : t < T) (hk : k < 5) : mE (gOf h t k) t k h := by
  obtain ⟨⟨hT, hP, n1, n2, n3, n4⟩, N1, N2, N3⟩ := N
  exact ⟨N1 0 t (by omega) ht, N1 1 t (by omega) ht, N1 2 t (by omega) ht, N1 3 t (by omega) ht, N1 4 t (by omega) ht, N1 5 k (by omega) hk, N1 6 0 (by omega) (by simp [cnt]), N1 7 0 (by omega) (by simp [cnt]), N1 8 0 (by omega) (by simp [cnt])⟩
/-- the class's hanging and its stack -/
def frH (h K : zm_H) : Prop := (∀ a, a ≠ 11 → a ≠ 13 → a ≠ 14 → K.1 a = h.1 a) ∧ (∀ b, b ≠ 3 → K.1 11 b = h.1 11 b) ∧ K.2 = h.2
theorem frH_r (h : zm_H) : frH h h := ⟨fun _ _ _ _ => rfl, fun _ _ => rfl, rfl⟩
theorem frH_t {h K M : zm_H} (e : frH h K) (f : frH K M) : frH h M := ⟨fun a h1 h2 h3 => (f.1 a h1 h2 h3).trans (e.1 a h1 h2 h3), fun b h1 => (f.2.1 b h1).trans (e.2.1 b h1), f.2.2.trans e.2.2⟩
theorem frH_C {h K : zm_H} (e : frC h K) : frH h K := ⟨fun a h1 h2 _ => e.1 a h1 h2, e.2.1, e.2.2⟩
theorem frH_14 (h : zm_H) (k : Nat) (v : Int32) : frH h (zm_ui h 14 k v) := ⟨fun a h1 h2 h3 => ui_f h3, fun b h1 => ui_c (by omega), rfl⟩
theorem lay_s (d : Nat) {T P t k : Nat} (hT : T ≤ 8) (hP : P ≤ 6) {h : zm_H} (n1 : h.1 1 1 = iN T) (n3 : h.1 1 2 = iN P) (ht : t < T) (hk : k < 5) : ∃ K, fHa_lay (d + 4) (iN t) (iN k) h = some (none, K) ∧ cE (gOf h t k) K ∧ frH h K ∧ (∀ b, b = 0 ∨ 10 ≤ b → K.1 14 b = h.1 14 b) := by
  have r : ∀ (x : Int32) (w n : Nat) (K : zm_H), x = iN w → w < 9 → n < cnt T P w → K.1 1 = h.1 1 → K.1 2 = h.1 2 → fNu_read (d + 3) x (iN n) K = some (some (.int (h.1 2 (w * 8 + n))), K) := by
    intro x w n K ex hw hn e1 e2
    rw [read_s d hT (by omega) (by rw [e1]; exact n1) (by rw [e1]; exact n3) ex (by omega) hn, e2]
  have c5 : ∀ w, w = 6 ∨ w = 7 ∨ w = 8 → 0 < cnt T P w := by
    intro w hw
    rcases hw with rfl | rfl | rfl <;> simp [cnt]
  refine ⟨zm_ui (zm_ui (zm_ui (zm_ui (zm_ui (zm_ui (zm_ui (zm_ui (zm_ui h 14 1 (h.1 2 (0 * 8 + t))) 14 2 (h.1 2 (1 * 8 + t))) 14 3 (h.1 2 (2 * 8 + t))) 14 4 (h.1 2 (3 * 8 + t))) 14 5 (h.1 2 (4 * 8 + t))) 14 6 (h.1 2 (5 * 8 + k))) 14 7 (h.1 2 (6 * 8 + 0))) 14 8 (h.1 2 (7 * 8 + 0))) 14 9 (h.1 2 (8 * 8 + 0)), ?_, ?_, ?_, ?_⟩
  · rw [fHa_lay_eq]
    rw [r 0 0 t _ rfl (by omega) ht rfl rfl, bI, r 1 1 t _ rfl (by omega) ht (by simp (disch := omega) only [ui_f]) (by simp (disch := omega) only [ui_f]), bI]
    rw [r 2 2 t _ rfl (by omega) ht (by simp (disch := omega) only [ui_f]) (by simp (disch := omega) only [ui_f]), bI]
    rw [r 3 3 t _ rfl (by omega) ht (by simp (disch := omega) only [ui_f]) (by simp (disch := omega) only [ui_f]), bI]
    rw [r 4 4 t _ rfl (by omega) ht (by simp (disch := omega) only [ui_f]) (by simp (disch := omega) only [ui_f]), bI]
    rw [r 5 5 k _ rfl (by omega) hk (by simp (disch := omega) only [ui_f]) (by simp (disch := omega) only [ui_f]), bI]
    have r0 : ∀ (x : Int32) (w : Nat) (K : zm_H), x = iN w → (w = 6 ∨ w = 7 ∨ w = 8) → K.1 1 = h.1 1 → K.1 2 = h.1 2 → fNu_read (d + 3) x 0 K = some (some (.int (h.1 2 (w * 8 + 0))), K) := fun x w K ex hw e1 e2 => r x w 0 K ex (by omega) (c5 w hw) e1 e2
    rw [r0 6 6 _ rfl (by omega) (by simp (disch := omega) only [ui_f]) (by simp (disch := omega) only [ui_f]), bI]
    rw [r0 7 7 _ rfl (by omega) (by simp (disch := omega) only [ui_f]) (by simp (disch := omega) only [ui_f]), bI]
    rw [r0 8 8 _ rfl (by omega) (by simp (disch := omega) only [ui_f]) (by simp (disch := omega) only [ui_f]), bI]
  · intro i h1 h2
    have : i = 1 ∨ i = 2 ∨ i = 3 ∨ i = 4 ∨ i = 5 ∨ i = 6 ∨ i = 7 ∨ i = 8 ∨ i = 9 := by omega
    rcases this with rfl | rfl | rfl | rfl | rfl | rfl | rfl | rfl | rfl <;> simp (disch := omega) only [ui_s, ui_k] <;> rfl
  · refine ⟨fun a h1 h2 h3 => ?_, fun b h1 => ?_, rfl⟩ <;> simp (disch := omega) only [ui_f, ui_c]
  · intro b hb
    simp (disch := omega) only [ui_k]
theorem hung_s (d : Nat) {T P t k : Nat} {a : Int32} (ea : a / 10 = iN t) (eb : a - a / 10 * 10 = iN k) (hT : T ≤ 8) (hP : P ≤ 6) {h : zm_H} (n1 : h.1 1 1 = iN T) (n3 : h.1 1 2 = iN P) (ht : t < T) (hk : k < 5) : ∃ K, fE_hung (d + 5) a h = some (some (.ref 14), K) ∧ cE (gOf h t k) K ∧ frH h K := by
  obtain ⟨K, k1, k2, k3, k4⟩ := lay_s d hT hP n1 n3 ht hk
  refine ⟨K, ?_, k2, k3⟩
  rw [fE_hung_eq, ea] at *
  rw [eb, k1, bV]
/-- only what is scratch -/
def frQ (h K : zm_H) : Prop := (∀ a, a ≠ 11 → (a < 13 ∨ 22 < a) → a ≠ 45 → (a < 61 ∨ 65 < a) → (a < 76 ∨ 82 < a) → K.1 a = h.1 a) ∧ (∀ b, b ≠ 3 → K.1 11 b = h.1 11 b) ∧ (∀ b, (b < 23 ∨ 26 < b) → b ≠ 48 → b ≠ 49 → K.1 45 b = h.1 45 b) ∧ K.2 = h.2
theorem frQ_r (h : zm_H) : frQ h h := ⟨fun _ _ _ _ _ _ => rfl, fun _ _ => rfl, fun _ _ _ _ => rfl, rfl⟩
theorem frQ_t {h K M : zm_H} (e : frQ h K) (f : frQ K M) : frQ h M := ⟨fun a h1 h2 h3 h4 h5 => (f.1 a h1 h2 h3 h4 h5).trans (e.1 a h1 h2 h3 h4 h5), fun b h1 => (f.2.1 b h1).trans (e.2.1 b h1), fun b h1 h2 h3 => (f.2.2.1 b h1 h2 h3).trans (e.2.2.1 b h1 h2 h3), f.2.2.2.trans e.2.2.2⟩
theorem frQ_H {h K : zm_H} (e : frH h K) : frQ h K := ⟨fun a h1 h2 h3 h4 h5 => e.1 a h1 (by omega) (by omega), e.2.1, fun b _ _ _ => by rw [e.1 45 (by omega) (by omega) (by omega)], e.2.2⟩
theorem frQ_M {h K : zm_H} (e : frM h K) : frQ h K := ⟨fun a h1 h2 h3 h4 h5 => e.1 a (by omega), fun b _ => by rw [e.1 11 (by omega)], fun b _ _ _ => by rw [e.1 45 (by omega)], e.2⟩
theorem RR_q {L : Nat} {xs : Nat → Int32} {h K : zm_H} (r : RR L xs h) (e : frQ h K) : RR L xs K := by
  obtain ⟨T, P, D, A, S, B, Q, W, N, C, T', Lw, G, I, Bd, Sh⟩ := r
  obtain ⟨e1, e2, e3, e4⟩ := e
  refine ⟨T, P, D, A, S, B, Q, rW_d ?_ W, rN_d ?_ N, rC_d ?_ C, rT_d ?_ T', rL_d ?_ Lw, rG_d ?_ G, rI_d ?_ I, rB_d ?_ Bd, rS_d ?_ Sh⟩
  · simp (disch := omega) only [dW, e1, and_self]
  · simp (disch := omega) only [dN, e1, e3, and_self]
  · simp (disch := omega) only [dC, e1, e3, and_self]
  · simp (disch := omega) only [dT, e1, e3, and_self]
  · simp (disch := omega) only [dL, e1, e2, e3, and_self]
  · simp (disch := omega) only [dG, e1, and_self]
  · simp (disch := omega) only [dI, e1, e3, and_self]
  · simp (disch := omega) only [dB, e1, e3, and_self]
  · simp (disch := omega) only [dS, e1, e4, and_self]
/-- does it hang right -/
def thn (g : Nat → Int32) (b : Int32) : Int32 := g 1 - g 7 - b
def rgt (g : Nat → Int32) (b broad : Int32) : Bool := !decide (g 9 < zm_abs (broad - g 8)) && (!decide (thn g b < 0) && !decide (broad ≤ thn g b))
theorem thinC (d : Nat) {g : Nat → Int32} {h : zm_H} (rE : cE g h) (b : Int32) : fHa_thin (d + 1) b h = some (some (.int (thn g b)), h) := by
  rw [fHa_thin_eq, rE 1 (by omega) (by omega), rE 7 (by omega) (by omega)]; rfl
theorem thinM (d : Nat) {g : Nat → Int32} {t k : Nat} (ht : t < 8) {h : zm_H} (rE : mE g t k h) (b : Int32) : fM_thin (d + 1) (iN t) b h = some (some (.int (thn g b)), h) := by
  obtain ⟨g1, g2, g3, g4, g5, g6, g7, g8, g9⟩ := rE
  rw [fM_thin_eq, gR_46 ht, iN_c (by omega), g1, g7]; rfl
theorem rightC (d : Nat) {g : Nat → Int32} {h : zm_H} (rE : cE g h) (b broad : Int32) : fHa_isRight (d + 2) b broad h = some (some (.int (zi (rgt g b broad))), h) := by
  rw [fHa_isRight_eq, thinC d rE, bI, rE 8 (by omega) (by omega), rE 9 (by omega) (by omega)]
  unfold rgt
  cases decide (g 9 < zm_abs (broad - g 8)) <;> cases decide (thn g b < 0) <;> cases decide (broad ≤ thn g b) <;> rfl
theorem rightM (d : Nat) {g : Nat → Int32} {t k : Nat} (ht : t < 8) {h : zm_H} (rE : mE g t k h) (b broad : Int32) : fM_isRight (d + 2) (iN t) b broad h = some (some (.int (zi (rgt g b broad))), h) := by
  rw [fM_isRight_eq, thinM d ht rE, bI, thinM d ht rE, bI]
  obtain ⟨g1, g2, g3, g4, g5, g6, g7, g8, g9⟩ := rE
  rw [g8, g9]
  unfold rgt
  cases decide (g 9 < zm_abs (broad - g 8)) <;> cases decide (thn g b < 0) <;> cases decide (broad ≤ thn g b) <;> rfl
theorem rgt_no {g : Nat → Int32} (r : gR g) {b c : Int32} (hb : 0 ≤ b) (hb2 : b ≤ 200) (hc : 0 ≤ c) (hs : thn g b < 0 ∨ b ≤ thn g b ∨ b < g 8 - g 9) : rgt g b (b - c) = false := by
  obtain ⟨-, -, -, -, -, -, ⟨r1, r2⟩, ⟨r3, r4⟩⟩ := r
  unfold rgt zm_abs
  generalize thn g b = x at *
  generalize g 8 = y at *
  generalize g 9 = z at *
  by_cases q1 : x < 0
  · rw [decide_eq_true q1]; simp
  · rw [decide_eq_false q1]
    by_cases q2 : b - c ≤ x
    · rw [decide_eq_true q2]; simp
    · rw [decide_eq_false q2]
      have q3 : z < (if 0 ≤ b - c - y then b - c - y else 0 - (b - c - y)) := by
        have h1 : ¬ b ≤ x := by grind
        have h2 : b < y - z := by grind
        have h3 : b - c ≤ b := by grind
        have h4 : ¬ (0 ≤ b - c - y) := by grind
        rw [if_neg h4]
        grind
      rw [decide_eq_true q3]; rfl
theorem rightAtC (d : Nat) {lw : Option (List (List Nat × List Nat))} {g : Nat → Int32} (r : gR g) {h : zm_H} (rl : lwC lw h) (rE : cE g h) {b : Int32} (hb : 0 ≤ b) (hb2 : b ≤ 200) : ∃ K, fHa_isRightAt (d + 5) b h = some (some (.int (zi (rgt g b (b - clo lw g b)))), K) ∧ frC h K := by
  by_cases hs : thn g b < 0 ∨ b ≤ thn g b ∨ b < g 8 - g 9
  · refine ⟨h, ?_, frC_r h⟩
    rw [rgt_no r hb hb2 (clo_ge _ _ _) hs, fHa_isRightAt_eq, thinC (d + 3) rE, bI, rE 8 (by omega) (by omega), rE 9 (by omega) (by omega)]
    by_cases q1 : thn g b < 0
    · rw [cT q1]; rfl
    · rw [cF q1]
      by_cases q2 : b ≤ thn g b
      · rw [cT q2]; rfl
      · rw [cF q2, cF (by grind)]; rfl
  · obtain ⟨K, k1, k2⟩ := clothC d rl rE b
    refine ⟨K, ?_, k2⟩
    rw [fHa_isRightAt_eq, thinC (d + 3) rE, bI, rE 8 (by omega) (by omega), rE 9 (by omega) (by omega), cF (by grind), cF (by grind), cT (by grind), k1, bI, rightC (d + 2) (cE_f k2 rE), bI, zi_z]; rfl
theorem hangsM (d : Nat) {lw : Option (List (List Nat × List Nat))} {g : Nat → Int32} {t k : Nat} (ht : t < 8) (hk : k < 5) {h : zm_H} (rl : lwM lw h) (rE : mE g t k h) (b : Int32) : ∃ K, fM_hangsRight (d + 6) (iN t) (iN k) b h = some (some (.int (zi (rgt g b (b - clo lw g b)))), K) ∧ frM h K := by
  obtain ⟨K, k1, k2⟩ := clothM d ht hk rl rE b
  refine ⟨K, ?_, k2⟩
  rw [fM_hangsRight_eq, k1, bI, rightM (d + 3) ht (mE_f k2 rE), bI, zi_z]; rfl
