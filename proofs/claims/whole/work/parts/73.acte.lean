/-! act: the class's side, and both -/
def hm : Nat → Nat → Nat → Nat
  | 0, _, k => k
  | f + 1, a, k => if own (k * 4 + a) = 0 then hm f a (upk k) else k
theorem ownOf_s (d : Nat) {L : Nat} {xs : Nat → Int32} {h : zm_H} (W : rW L xs h) {k a : Nat} (hk : k < 8) (ha : a < 4) : fTu_ownOf (d + 1) (iN k) (iN a) h = some (some (.int (own (k * 4 + a))), h) := by
  rw [fTu_ownOf_eq, cF (iN_lt0 (by omega)), cF (by simp (disch := omega) only [iN_add, iN_addl, iN_addr, iN_mul, iN_mull, iN_mulr, iN_sub, iN_subl, iN_subr, iN_c, iN_lt, iN_ltl, iN_ltr, iN_le, iN_lel, iN_ler, iN_eq, iN_eql, iN_eqr]; omega), cF (iN_lt0 (by omega)), cF (by simp (disch := omega) only [iN_add, iN_addl, iN_addr, iN_mul, iN_mull, iN_mulr, iN_sub, iN_subl, iN_subr, iN_c, iN_lt, iN_ltl, iN_ltr, iN_le, iN_lel, iN_ler, iN_eq, iN_eql, iN_eqr]; omega), cF (by decide)]
  simp (disch := omega) only [iN_mulr, iN_add, gR_1003, iN_c, Bool.cond_true]
  rw [W.2.2.2.2.2 _ (by omega)]
theorem own_0 {a : Nat} (ha : a < 4) : own (0 * 4 + a) ≠ 0 := by rcases cases4 ha with rfl | rfl | rfl | rfl <;> decide
theorem homeOf4_s (d : Nat) {L : Nat} {xs : Nat → Int32} {h : zm_H} (W : rW L xs h) {a : Nat} (ha : a < 4) : ∀ (f k i : Nat), i + f = 8 → k < f → k < 8 → fTu_homeOf_c4 (d + 2) (iN a) (iN k) (iN i) h = some (some (.int (iN (hm f a k))), h) := by
  intro f
  induction f with
  | zero => intro k i _ hk; omega
  | succ f ih =>
    intro k i hi hk h8
    rw [fTu_homeOf_c4_eq, cF (by simp (disch := omega) only [iN_add, iN_addl, iN_addr, iN_mul, iN_mull, iN_mulr, iN_sub, iN_subl, iN_subr, iN_c, iN_lt, iN_ltl, iN_ltr, iN_le, iN_lel, iN_ler, iN_eq, iN_eql, iN_eqr]; omega), cF (iN_lt0 (by omega)), ownOf_s d W h8 ha, bI, hm]
    by_cases q : own (k * 4 + a) = 0
    · have q0 : k ≠ 0 := fun e => by subst e; exact own_0 ha q
      have := upk_lt q0
      rw [cT q, if_pos q, above_s d W h8, bI, abv_up h8 q0, iN_addr]
      exact ih _ _ (by omega) (by omega) (by omega)
    · rw [cF q, if_neg q]
theorem homeOf_s (d : Nat) {L : Nat} {xs : Nat → Int32} {h : zm_H} (W : rW L xs h) {a k : Nat} (ha : a < 4) (hk : k < 8) : fTu_homeOf (d + 2) (iN a) (iN k) h = some (some (.int (iN (hm 8 a k))), h) := by
  rw [fTu_homeOf_eq]; exact homeOf4_s d W ha 8 k 0 (by omega) hk hk
theorem hm_up : ∀ a, a < 4 → ∀ k, k < 8 → own (k * 4 + a) = 0 → hm 8 a k = hm 8 a (upk k) := by decide
theorem ask_up (d : Nat) {L : Nat} {xs : Nat → Int32} {h : zm_H} (W : rW L xs h) {a k : Nat} (ha : a < 4) (hk : k < 8) (q : own (k * 4 + a) = 0) (x p : Int32) : fTu_ask (d + 3) (iN a) (iN k) x p h = fTu_ask (d + 3) (iN a) (iN (upk k)) x p h := by
  have q0 : k ≠ 0 := fun e => by subst e; exact own_0 ha q
  have := upk_lt q0
  rw [fTu_ask_eq, fTu_ask_eq, homeOf_s d W ha hk, homeOf_s d W ha (by omega), hm_up a ha k hk q]
theorem ask_own (d : Nat) {L : Nat} {xs : Nat → Int32} {h : zm_H} (W : rW L xs h) {a k Q p : Nat} (ha : a < 4) (hk : k < 8) (hQ : Q < 2000) (e : h.1 29 3 = iN Q) (hp : p ≤ 40) {o : Int32} (q : own (k * 4 + a) = o) (q0 : o ≠ 0) (x : Int32) : fTu_ask (d + 3) (iN a) (iN k) x (iN p) h = zb_I (fTu_run (d + 2) o (abv k) x (iN (p + 1)) (tC Q o h)) (fun v9 h8 => some (some (.int v9), h8)) := by
  have hh : hm 8 a k = k := by rw [show (8 : Nat) = 7 + 1 from rfl, hm, if_neg (by rw [q]; exact q0)]
  have W' : rW L xs (tC Q o h) := by
    have f := (tC_f Q o h).1
    exact rW_d ⟨f _ (by omega) (by omega), f _ (by omega) (by omega), f _ (by omega) (by omega), f _ (by omega) (by omega), f _ (by omega) (by omega), f _ (by omega) (by omega)⟩ W
  rw [fTu_ask_eq, homeOf_s d W ha hk, hh, bI, cF (iN_lt0 (by omega)), cT (by simp (disch := omega) only [iN_add, iN_addl, iN_addr, iN_mul, iN_mull, iN_mulr, iN_sub, iN_subl, iN_subr, iN_c, iN_lt, iN_ltl, iN_ltr, iN_le, iN_lel, iN_ler, iN_eq, iN_eql, iN_eqr]; omega), ownOf_s (d + 1) W hk ha, q, bI, begin_s (d + 1) hQ o e, bV, above_s (d + 1) W' hk, bI, iN_addr]
theorem actE {L : Nat} {xs : Nat → Int32} {b K : Nat} (hK : K < 8) : ∀ (f a k : Nat), a < 4 → k < 8 → en K f a k = true → ∀ (D p : Nat) (x : Int32) (h : zm_H) (Q : Nat), 2 * f + 4 ≤ D → p + f ≤ 40 → rW L xs h → h.1 29 3 = iN Q → h.1 29 4 = iN b → h.1 29 5 = iN K → Q + (sp (iN b) K f a k x).2.length ≤ 1000 →
    fTu_ask D (iN a) (iN k) x (iN p) h = some (some (.int (sp (iN b) K f a k x).1), rtC Q (sp (iN b) K f a k x).2 h) := by
  intro f
  induction f with
  | zero => intro a k _ _ e; exact absurd e (by simp [en])
  | succ f ih =>
    intro a k ha hk hen D p x h Q hD hp W e eb eK hQ
    obtain ⟨D, rfl⟩ : ∃ D', D = D' + 3 := ⟨D - 3, by omega⟩
    have wf : ∀ (Q : Nat) (o : Int32), rW L xs (tC Q o h) := fun Q o => by
      have f := (tC_f Q o h).1
      exact rW_d ⟨f _ (by omega) (by omega), f _ (by omega) (by omega), f _ (by omega) (by omega), f _ (by omega) (by omega), f _ (by omega) (by omega), f _ (by omega) (by omega)⟩ W
    rcases cases4 ha with rfl | rfl | rfl | rfl <;> rcases cases8 hk with rfl | rfl | rfl | rfl | rfl | rfl | rfl | rfl
    · -- 0 0 own 1
      have f1 := tC_f Q 1 h
      rw [ask_own D W (by decide) (by decide) (by omega) e (by omega) (o := 1) (by decide) (by decide) x, fTu_run_eq, cT (by decide), f1.2.1 4 (by omega), eb, bI]; rfl
    · -- 0 1 own 20
      have hq : Q + (1 + (sp (iN b) K f 0 0 (x)).2.length) ≤ 1000 := by
        have := hQ
        rw [show (sp (iN b) K (f + 1) 0 1 x).2 = [20] ++ (sp (iN b) K f 0 0 (x)).2 from rfl] at this
        simp only [List.length_append, List.length_cons, List.length_nil] at this
        omega
      have f1 := tC_f Q 20 h
      have g := ih 0 0 (by decide) (by decide) (by simpa [en, sb] using hen) (D + 1) (p + 1) (x) (tC Q 20 h) (Q + 1) (by omega) (by omega) (wf Q 20) (tC_3 _ _ _) ((f1.2.1 4 (by omega)).trans eb) ((f1.2.1 5 (by omega)).trans eK) (by omega)
      rw [ask_own D W (by decide) (by decide) (by omega) e (by omega) (o := 20) (by decide) (by decide) x, fTu_run_eq, cF (by decide), cF (by decide), cF (by decide), cF (by decide), cT (by decide)]
      refine (mI (mI g _) _).trans ?_
      rfl
    · -- 0 2
      have g := ih 0 0 ha (by decide) (by simpa [en, sb] using hen) (D + 3) p x h Q (by omega) (by omega) W e eb eK hQ
      rw [ask_up D W (by decide) (by decide) (by decide) x (iN p), show upk 2 = 0 from rfl, g]; rfl
    · -- 0 3
      have g := ih 0 2 ha (by decide) (by simpa [en, sb] using hen) (D + 3) p x h Q (by omega) (by omega) W e eb eK hQ
      rw [ask_up D W (by decide) (by decide) (by decide) x (iN p), show upk 3 = 2 from rfl, g]; rfl
    · -- 0 4
      have g := ih 0 1 ha (by decide) (by simpa [en, sb] using hen) (D + 3) p x h Q (by omega) (by omega) W e eb eK hQ
      rw [ask_up D W (by decide) (by decide) (by decide) x (iN p), show upk 4 = 1 from rfl, g]; rfl
    · -- 0 5
      have g := ih 0 3 ha (by decide) (by simpa [en, sb] using hen) (D + 3) p x h Q (by omega) (by omega) W e eb eK hQ
      rw [ask_up D W (by decide) (by decide) (by decide) x (iN p), show upk 5 = 3 from rfl, g]; rfl
    · -- 0 6 own 70
      have hq : Q + (1 + (sp (iN b) K f 0 0 (x)).2.length) ≤ 1000 := by
        have := hQ
        rw [show (sp (iN b) K (f + 1) 0 6 x).2 = [70] ++ (sp (iN b) K f 0 0 (x)).2 from rfl] at this
        simp only [List.length_append, List.length_cons, List.length_nil] at this
        omega
      have f1 := tC_f Q 70 h
      have g := ih 0 0 (by decide) (by decide) (by simpa [en, sb] using hen) (D + 1) (p + 1) (x) (tC Q 70 h) (Q + 1) (by omega) (by omega) (wf Q 70) (tC_3 _ _ _) ((f1.2.1 4 (by omega)).trans eb) ((f1.2.1 5 (by omega)).trans eK) (by omega)
      rw [ask_own D W (by decide) (by decide) (by omega) e (by omega) (o := 70) (by decide) (by decide) x, fTu_run_eq, cF (by decide), cF (by decide), cF (by decide), cF (by decide), cF (by decide), cF (by decide), cF (by decide), cF (by decide), cF (by decide), cF (by decide), cT (by decide)]
      refine (mI (mI g _) _).trans ?_
      rfl
    · -- 0 7
      have g := ih 0 4 ha (by decide) (by simpa [en, sb] using hen) (D + 3) p x h Q (by omega) (by omega) W e eb eK hQ
      rw [ask_up D W (by decide) (by decide) (by decide) x (iN p), show upk 7 = 4 from rfl, g]; rfl
    · -- 1 0 own 10
      have hq : Q + (1 + (sp (iN b) K f 0 K (x)).2.length) ≤ 1000 := by
        have := hQ
        rw [show (sp (iN b) K (f + 1) 1 0 x).2 = [10] ++ (sp (iN b) K f 0 K (x)).2 from rfl] at this
        simp only [List.length_append, List.length_cons, List.length_nil] at this
        omega
      have f1 := tC_f Q 10 h
      have g := ih 0 K (by decide) hK (by simpa [en, sb] using hen) (D + 1) (p + 1) (x) (tC Q 10 h) (Q + 1) (by omega) (by omega) (wf Q 10) (tC_3 _ _ _) ((f1.2.1 4 (by omega)).trans eb) ((f1.2.1 5 (by omega)).trans eK) (by omega)
      rw [ask_own D W (by decide) (by decide) (by omega) e (by omega) (o := 10) (by decide) (by decide) x, fTu_run_eq, cF (by decide), cF (by decide), cT (by decide)]
      rw [f1.2.1 5 (by omega), eK]
      refine (mI (mI g _) _).trans ?_
      rfl
    · -- 1 1
      have g := ih 1 0 ha (by decide) (by simpa [en, sb] using hen) (D + 3) p x h Q (by omega) (by omega) W e eb eK hQ
      rw [ask_up D W (by decide) (by decide) (by decide) x (iN p), show upk 1 = 0 from rfl, g]; rfl
    · -- 1 2 own 30
      have hq : Q + (1 + (sp (iN b) K f 1 0 (x)).2.length) ≤ 1000 := by
        have := hQ
        rw [show (sp (iN b) K (f + 1) 1 2 x).2 = [30] ++ (sp (iN b) K f 1 0 (x)).2 from rfl] at this
        simp only [List.length_append, List.length_cons, List.length_nil] at this
        omega
      have f1 := tC_f Q 30 h
      have g := ih 1 0 (by decide) (by decide) (by simpa [en, sb] using hen) (D + 1) (p + 1) (x) (tC Q 30 h) (Q + 1) (by omega) (by omega) (wf Q 30) (tC_3 _ _ _) ((f1.2.1 4 (by omega)).trans eb) ((f1.2.1 5 (by omega)).trans eK) (by omega)
      rw [ask_own D W (by decide) (by decide) (by omega) e (by omega) (o := 30) (by decide) (by decide) x, fTu_run_eq, cF (by decide), cF (by decide), cF (by decide), cF (by decide), cF (by decide), cT (by decide)]
      refine (mI (mI g _) _).trans ?_
      rfl
    · -- 1 3 own 41
      have hq : Q + (1 + (sp (iN b) K f 1 2 (x + 1)).2.length) ≤ 1000 := by
        have := hQ
        rw [show (sp (iN b) K (f + 1) 1 3 x).2 = [41] ++ (sp (iN b) K f 1 2 (x + 1)).2 from rfl] at this
        simp only [List.length_append, List.length_cons, List.length_nil] at this
        omega
      have f1 := tC_f Q 41 h
      have g := ih 1 2 (by decide) (by decide) (by simpa [en, sb] using hen) (D + 1) (p + 1) (x + 1) (tC Q 41 h) (Q + 1) (by omega) (by omega) (wf Q 41) (tC_3 _ _ _) ((f1.2.1 4 (by omega)).trans eb) ((f1.2.1 5 (by omega)).trans eK) (by omega)
      rw [ask_own D W (by decide) (by decide) (by omega) e (by omega) (o := 41) (by decide) (by decide) x, fTu_run_eq, cF (by decide), cF (by decide), cF (by decide), cF (by decide), cF (by decide), cF (by decide), cF (by decide), cT (by decide)]
      refine (mI (mI g _) _).trans ?_
      rfl
    · -- 1 4
      have g := ih 1 1 ha (by decide) (by simpa [en, sb] using hen) (D + 3) p x h Q (by omega) (by omega) W e eb eK hQ
      rw [ask_up D W (by decide) (by decide) (by decide) x (iN p), show upk 4 = 1 from rfl, g]; rfl
    · -- 1 5
      have g := ih 1 3 ha (by decide) (by simpa [en, sb] using hen) (D + 3) p x h Q (by omega) (by omega) W e eb eK hQ
      rw [ask_up D W (by decide) (by decide) (by decide) x (iN p), show upk 5 = 3 from rfl, g]; rfl
    · -- 1 6
      have g := ih 1 0 ha (by decide) (by simpa [en, sb] using hen) (D + 3) p x h Q (by omega) (by omega) W e eb eK hQ
      rw [ask_up D W (by decide) (by decide) (by decide) x (iN p), show upk 6 = 0 from rfl, g]; rfl
    · -- 1 7 own 80
      have hq : Q + (1 + (sp (iN b) K f 1 4 (x)).2.length + (sp (iN b) K f 2 K (2)).2.length) ≤ 1000 := by
        have := hQ
        rw [show (sp (iN b) K (f + 1) 1 7 x).2 = [80] ++ (sp (iN b) K f 1 4 (x)).2 ++ (sp (iN b) K f 2 K (2)).2 from rfl] at this
        simp only [List.length_append, List.length_cons, List.length_nil] at this
        omega
      have f1 := tC_f Q 80 h
      have g := ih 1 4 (by decide) (by decide) (by have := hen; simp [en, sb] at this; exact this.1) (D + 1) (p + 1) (x) (tC Q 80 h) (Q + 1) (by omega) (by omega) (wf Q 80) (tC_3 _ _ _) ((f1.2.1 4 (by omega)).trans eb) ((f1.2.1 5 (by omega)).trans eK) (by omega)
      have f2 := rtC_f (sp (iN b) K f 1 4 (x)).2 (Q + 1) (tC Q 80 h)
      have e2 : (rtC (Q + 1) (sp (iN b) K f 1 4 (x)).2 (tC Q 80 h)).1 29 5 = iN K := (f2.2.1 5 (by omega)).trans ((f1.2.1 5 (by omega)).trans eK)
      have w2 : rW L xs (rtC (Q + 1) (sp (iN b) K f 1 4 (x)).2 (tC Q 80 h)) := rW_d ⟨f2.1 _ (by omega) (by omega), f2.1 _ (by omega) (by omega), f2.1 _ (by omega) (by omega), f2.1 _ (by omega) (by omega), f2.1 _ (by omega) (by omega), f2.1 _ (by omega) (by omega)⟩ (wf Q 80)
      have g2 := ih 2 K (by decide) hK (by have := hen; simp [en, sb] at this; exact this.2) (D + 1) (p + 1) (2) (rtC (Q + 1) (sp (iN b) K f 1 4 (x)).2 (tC Q 80 h)) (Q + 1 + (sp (iN b) K f 1 4 (x)).2.length) (by omega) (by omega) w2 (rtC_3 _ _ _ (tC_3 _ _ _)) ((f2.2.1 4 (by omega)).trans ((f1.2.1 4 (by omega)).trans eb)) e2 (by omega)
      rw [ask_own D W (by decide) (by decide) (by omega) e (by omega) (o := 80) (by decide) (by decide) x, fTu_run_eq, cF (by decide), cF (by decide), cF (by decide), cF (by decide), cF (by decide), cF (by decide), cF (by decide), cF (by decide), cF (by decide), cF (by decide), cF (by decide), cT (by decide)]
      refine (mI (mI g _) _).trans ?_
      simp only [bI]
      rw [e2]
      refine (mI (mI g2 _) _).trans ?_
      simp only [bI]
      rw [show (sp (iN b) K (f + 1) 1 7 x).2 = [80] ++ (sp (iN b) K f 1 4 (x)).2 ++ (sp (iN b) K f 2 K (2)).2 from rfl, rtC_app]
      rw [show Q + ([(80 : Int32)] ++ (sp (iN b) K f 1 4 (x)).2).length = Q + 1 + (sp (iN b) K f 1 4 (x)).2.length by simp only [List.length_append, List.length_cons, List.length_nil]; omega]
      rfl
    · -- 2 0 own 11
      have f1 := tC_f Q 11 h
      rw [ask_own D W (by decide) (by decide) (by omega) e (by omega) (o := 11) (by decide) (by decide) x, fTu_run_eq, cF (by decide), cF (by decide), cF (by decide), cT (by decide), f1.2.1 4 (by omega), eb, bI]; rfl
    · -- 2 1
      have g := ih 2 0 ha (by decide) (by simpa [en, sb] using hen) (D + 3) p x h Q (by omega) (by omega) W e eb eK hQ
      rw [ask_up D W (by decide) (by decide) (by decide) x (iN p), show upk 1 = 0 from rfl, g]; rfl
    · -- 2 2
      have g := ih 2 0 ha (by decide) (by simpa [en, sb] using hen) (D + 3) p x h Q (by omega) (by omega) W e eb eK hQ
      rw [ask_up D W (by decide) (by decide) (by decide) x (iN p), show upk 2 = 0 from rfl, g]; rfl
    · -- 2 3 own 40
      have hq : Q + (1 + (sp (iN b) K f 2 2 (x)).2.length) ≤ 1000 := by
        have := hQ
        rw [show (sp (iN b) K (f + 1) 2 3 x).2 = [40] ++ (sp (iN b) K f 2 2 (x)).2 from rfl] at this
        simp only [List.length_append, List.length_cons, List.length_nil] at this
        omega
      have f1 := tC_f Q 40 h
      have g := ih 2 2 (by decide) (by decide) (by simpa [en, sb] using hen) (D + 1) (p + 1) (x) (tC Q 40 h) (Q + 1) (by omega) (by omega) (wf Q 40) (tC_3 _ _ _) ((f1.2.1 4 (by omega)).trans eb) ((f1.2.1 5 (by omega)).trans eK) (by omega)
      rw [ask_own D W (by decide) (by decide) (by omega) e (by omega) (o := 40) (by decide) (by decide) x, fTu_run_eq, cF (by decide), cF (by decide), cF (by decide), cF (by decide), cF (by decide), cF (by decide), cT (by decide)]
      refine (mI (mI g _) _).trans ?_
      rfl
    · -- 2 4 own 50
      have hq : Q + (1 + (sp (iN b) K f 2 1 (x)).2.length + (sp (iN b) K f 0 K (2)).2.length) ≤ 1000 := by
        have := hQ
        rw [show (sp (iN b) K (f + 1) 2 4 x).2 = [50] ++ (sp (iN b) K f 2 1 (x)).2 ++ (sp (iN b) K f 0 K (2)).2 from rfl] at this
        simp only [List.length_append, List.length_cons, List.length_nil] at this
        omega
      have f1 := tC_f Q 50 h
      have g := ih 2 1 (by decide) (by decide) (by have := hen; simp [en, sb] at this; exact this.1) (D + 1) (p + 1) (x) (tC Q 50 h) (Q + 1) (by omega) (by omega) (wf Q 50) (tC_3 _ _ _) ((f1.2.1 4 (by omega)).trans eb) ((f1.2.1 5 (by omega)).trans eK) (by omega)
      have f2 := rtC_f (sp (iN b) K f 2 1 (x)).2 (Q + 1) (tC Q 50 h)
      have e2 : (rtC (Q + 1) (sp (iN b) K f 2 1 (x)).2 (tC Q 50 h)).1 29 5 = iN K := (f2.2.1 5 (by omega)).trans ((f1.2.1 5 (by omega)).trans eK)
      have w2 : rW L xs (rtC (Q + 1) (sp (iN b) K f 2 1 (x)).2 (tC Q 50 h)) := rW_d ⟨f2.1 _ (by omega) (by omega), f2.1 _ (by omega) (by omega), f2.1 _ (by omega) (by omega), f2.1 _ (by omega) (by omega), f2.1 _ (by omega) (by omega), f2.1 _ (by omega) (by omega)⟩ (wf Q 50)
      have g2 := ih 0 K (by decide) hK (by have := hen; simp [en, sb] at this; exact this.2) (D + 1) (p + 1) (2) (rtC (Q + 1) (sp (iN b) K f 2 1 (x)).2 (tC Q 50 h)) (Q + 1 + (sp (iN b) K f 2 1 (x)).2.length) (by omega) (by omega) w2 (rtC_3 _ _ _ (tC_3 _ _ _)) ((f2.2.1 4 (by omega)).trans ((f1.2.1 4 (by omega)).trans eb)) e2 (by omega)
      rw [ask_own D W (by decide) (by decide) (by omega) e (by omega) (o := 50) (by decide) (by decide) x, fTu_run_eq, cF (by decide), cF (by decide), cF (by decide), cF (by decide), cF (by decide), cF (by decide), cF (by decide), cF (by decide), cT (by decide)]
      refine (mI (mI g _) _).trans ?_
      simp only [bI]
      rw [e2]
      refine (mI (mI g2 _) _).trans ?_
      simp only [bI]
      rw [show (sp (iN b) K (f + 1) 2 4 x).2 = [50] ++ (sp (iN b) K f 2 1 (x)).2 ++ (sp (iN b) K f 0 K (2)).2 from rfl, rtC_app]
      rw [show Q + ([(50 : Int32)] ++ (sp (iN b) K f 2 1 (x)).2).length = Q + 1 + (sp (iN b) K f 2 1 (x)).2.length by simp only [List.length_append, List.length_cons, List.length_nil]; omega]
      rfl
    · -- 2 5
      have g := ih 2 3 ha (by decide) (by simpa [en, sb] using hen) (D + 3) p x h Q (by omega) (by omega) W e eb eK hQ
      rw [ask_up D W (by decide) (by decide) (by decide) x (iN p), show upk 5 = 3 from rfl, g]; rfl
    · -- 2 6
      have g := ih 2 0 ha (by decide) (by simpa [en, sb] using hen) (D + 3) p x h Q (by omega) (by omega) W e eb eK hQ
      rw [ask_up D W (by decide) (by decide) (by decide) x (iN p), show upk 6 = 0 from rfl, g]; rfl
    · -- 2 7
      have g := ih 2 4 ha (by decide) (by simpa [en, sb] using hen) (D + 3) p x h Q (by omega) (by omega) W e eb eK hQ
      rw [ask_up D W (by decide) (by decide) (by decide) x (iN p), show upk 7 = 4 from rfl, g]; rfl
    · -- 3 0 own 2
      have hq : Q + (1 + (sp (iN b) K f 1 K (x)).2.length + (sp (iN b) K f 2 K (1)).2.length) ≤ 1000 := by
        have := hQ
        rw [show (sp (iN b) K (f + 1) 3 0 x).2 = [2] ++ (sp (iN b) K f 1 K (x)).2 ++ (sp (iN b) K f 2 K (1)).2 from rfl] at this
        simp only [List.length_append, List.length_cons, List.length_nil] at this
        omega
      have f1 := tC_f Q 2 h
      have g := ih 1 K (by decide) hK (by have := hen; simp [en, sb] at this; exact this.1) (D + 1) (p + 1) (x) (tC Q 2 h) (Q + 1) (by omega) (by omega) (wf Q 2) (tC_3 _ _ _) ((f1.2.1 4 (by omega)).trans eb) ((f1.2.1 5 (by omega)).trans eK) (by omega)
      have f2 := rtC_f (sp (iN b) K f 1 K (x)).2 (Q + 1) (tC Q 2 h)
      have e2 : (rtC (Q + 1) (sp (iN b) K f 1 K (x)).2 (tC Q 2 h)).1 29 5 = iN K := (f2.2.1 5 (by omega)).trans ((f1.2.1 5 (by omega)).trans eK)
      have w2 : rW L xs (rtC (Q + 1) (sp (iN b) K f 1 K (x)).2 (tC Q 2 h)) := rW_d ⟨f2.1 _ (by omega) (by omega), f2.1 _ (by omega) (by omega), f2.1 _ (by omega) (by omega), f2.1 _ (by omega) (by omega), f2.1 _ (by omega) (by omega), f2.1 _ (by omega) (by omega)⟩ (wf Q 2)
      have g2 := ih 2 K (by decide) hK (by have := hen; simp [en, sb] at this; exact this.2) (D + 1) (p + 1) (1) (rtC (Q + 1) (sp (iN b) K f 1 K (x)).2 (tC Q 2 h)) (Q + 1 + (sp (iN b) K f 1 K (x)).2.length) (by omega) (by omega) w2 (rtC_3 _ _ _ (tC_3 _ _ _)) ((f2.2.1 4 (by omega)).trans ((f1.2.1 4 (by omega)).trans eb)) e2 (by omega)
      rw [ask_own D W (by decide) (by decide) (by omega) e (by omega) (o := 2) (by decide) (by decide) x, fTu_run_eq, cF (by decide), cT (by decide)]
      rw [f1.2.1 5 (by omega), eK]
      refine (mI (mI g _) _).trans ?_
      simp only [bI]
      rw [e2]
      refine (mI (mI g2 _) _).trans ?_
      simp only [bI]
      rw [show (sp (iN b) K (f + 1) 3 0 x).2 = [2] ++ (sp (iN b) K f 1 K (x)).2 ++ (sp (iN b) K f 2 K (1)).2 from rfl, rtC_app]
      rw [show Q + ([(2 : Int32)] ++ (sp (iN b) K f 1 K (x)).2).length = Q + 1 + (sp (iN b) K f 1 K (x)).2.length by simp only [List.length_append, List.length_cons, List.length_nil]; omega]
      rfl
    · -- 3 1
      have g := ih 3 0 ha (by decide) (by simpa [en, sb] using hen) (D + 3) p x h Q (by omega) (by omega) W e eb eK hQ
      rw [ask_up D W (by decide) (by decide) (by decide) x (iN p), show upk 1 = 0 from rfl, g]; rfl
    · -- 3 2
      have g := ih 3 0 ha (by decide) (by simpa [en, sb] using hen) (D + 3) p x h Q (by omega) (by omega) W e eb eK hQ
      rw [ask_up D W (by decide) (by decide) (by decide) x (iN p), show upk 2 = 0 from rfl, g]; rfl
    · -- 3 3
      have g := ih 3 2 ha (by decide) (by simpa [en, sb] using hen) (D + 3) p x h Q (by omega) (by omega) W e eb eK hQ
      rw [ask_up D W (by decide) (by decide) (by decide) x (iN p), show upk 3 = 2 from rfl, g]; rfl
    · -- 3 4
      have g := ih 3 1 ha (by decide) (by simpa [en, sb] using hen) (D + 3) p x h Q (by omega) (by omega) W e eb eK hQ
      rw [ask_up D W (by decide) (by decide) (by decide) x (iN p), show upk 4 = 1 from rfl, g]; rfl
    · -- 3 5 own 60
      have hq : Q + (1 + (sp (iN b) K f 3 3 (x)).2.length) ≤ 1000 := by
        have := hQ
        rw [show (sp (iN b) K (f + 1) 3 5 x).2 = [60] ++ (sp (iN b) K f 3 3 (x)).2 from rfl] at this
        simp only [List.length_append, List.length_cons, List.length_nil] at this
        omega
      have f1 := tC_f Q 60 h
      have g := ih 3 3 (by decide) (by decide) (by simpa [en, sb] using hen) (D + 1) (p + 1) (x) (tC Q 60 h) (Q + 1) (by omega) (by omega) (wf Q 60) (tC_3 _ _ _) ((f1.2.1 4 (by omega)).trans eb) ((f1.2.1 5 (by omega)).trans eK) (by omega)
      rw [ask_own D W (by decide) (by decide) (by omega) e (by omega) (o := 60) (by decide) (by decide) x, fTu_run_eq, cF (by decide), cF (by decide), cF (by decide), cF (by decide), cF (by decide), cF (by decide), cF (by decide), cF (by decide), cF (by decide), cT (by decide)]
      refine (mI (mI g _) _).trans ?_
      rfl
    · -- 3 6
      have g := ih 3 0 ha (by decide) (by simpa [en, sb] using hen) (D + 3) p x h Q (by omega) (by omega) W e eb eK hQ
      rw [ask_up D W (by decide) (by decide) (by decide) x (iN p), show upk 6 = 0 from rfl, g]; rfl
    · -- 3 7 own 81
      have hq : Q + (1 + (sp (iN b) K f 3 4 (x)).2.length) ≤ 1000 := by
        have := hQ
        rw [show (sp (iN b) K (f + 1) 3 7 x).2 = [81] ++ (sp (iN b) K f 3 4 (x)).2 from rfl] at this
        simp only [List.length_append, List.length_cons, List.length_nil] at this
        omega
      have f1 := tC_f Q 81 h
      have g := ih 3 4 (by decide) (by decide) (by simpa [en, sb] using hen) (D + 1) (p + 1) (x) (tC Q 81 h) (Q + 1) (by omega) (by omega) (wf Q 81) (tC_3 _ _ _) ((f1.2.1 4 (by omega)).trans eb) ((f1.2.1 5 (by omega)).trans eK) (by omega)
      rw [ask_own D W (by decide) (by decide) (by omega) e (by omega) (o := 81) (by decide) (by decide) x, fTu_run_eq, cF (by decide), cF (by decide), cF (by decide), cF (by decide), cF (by decide), cF (by decide), cF (by decide), cF (by decide), cF (by decide), cF (by decide), cF (by decide), cF (by decide), cT (by decide)]
      refine (mI (mI g _) _).trans ?_
      rfl
