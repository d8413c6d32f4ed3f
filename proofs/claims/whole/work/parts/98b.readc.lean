/-! a law read: the class -/
def frP (h K : zm_H) : Prop := (∀ a, a ≠ 8 → a ≠ 10 → K.1 a = h.1 a) ∧ (∀ b, b ≠ 3 → b ≠ 4 → K.1 8 b = h.1 8 b) ∧ K.2 = h.2
theorem frP_r (h : zm_H) : frP h h := ⟨fun _ _ _ => rfl, fun _ _ _ => rfl, rfl⟩
theorem frP_t {h K M : zm_H} (e : frP h K) (f : frP K M) : frP h M := ⟨fun a h1 h2 => (f.1 a h1 h2).trans (e.1 a h1 h2), fun b h1 h2 => (f.2.1 b h1 h2).trans (e.2.1 b h1 h2), f.2.2.trans e.2.2⟩
theorem frP_3 (h : zm_H) (v : Int32) : frP h (zm_ui h 8 3 v) := ⟨fun a h1 h2 => ui_f h1, fun b h1 h2 => ui_k h1, rfl⟩
theorem frP_e (h : zm_H) (c : Nat) (x v : Int32) : frP h (zm_ui (zm_ui h 10 c x) 8 4 v) := ⟨fun a h1 h2 => by rw [ui_f h1, ui_f h2], fun b h1 h2 => by rw [ui_k h2, ui_c (by omega)], rfl⟩
def rdS (f : Nat → Int32) (S c p : Nat) (h : zm_H) : Prop := S ≤ 120 ∧ h.1 8 2 = iN S ∧ (∀ i, i < S → h.1 9 i = f i) ∧ h.1 8 3 = iN p ∧ h.1 8 4 = iN c
theorem rdS_3 {f : Nat → Int32} {S c p q : Nat} {h : zm_H} (r : rdS f S c p h) : rdS f S c q (zm_ui h 8 3 (iN q)) := ⟨r.1, by rw [ui_k (by omega)]; exact r.2.1, fun i hi => by rw [ui_c (by omega)]; exact r.2.2.1 i hi, ui_s _ _ _ _, by rw [ui_k (by omega)]; exact r.2.2.2.2⟩
theorem rdS_P {f : Nat → Int32} {S c p c2 p2 : Nat} {h K : zm_H} (r : rdS f S c p h) (e : frP h K) (e3 : K.1 8 3 = iN p2) (e4 : K.1 8 4 = iN c2) : rdS f S c2 p2 K := ⟨r.1, by rw [e.2.1 2 (by omega) (by omega)]; exact r.2.1, fun i hi => by rw [e.1 9 (by omega) (by omega)]; exact r.2.2.1 i hi, e3, e4⟩
theorem aheadC (d : Nat) {f : Nat → Int32} {S c p : Nat} {h : zm_H} (r : rdS f S c p h) (hp : p ≤ S) : fRe_ahead (d + 1) h = some (some (.int (sgn f S p)), h) := by
  obtain ⟨r1, r2, r3, r4, r5⟩ := r
  unfold sgn
  rw [fRe_ahead_eq, r4, r2, cF (iN_lt0 (by omega))]
  by_cases q : p < S
  · rw [if_pos q, cF (by rw [iN_le (by omega) (by omega)]; omega), cF (by rw [show (120 : Int32) = iN 120 from rfl, iN_le (by omega) (by omega)]; omega), gR_9 (by omega), iN_c (by omega), r3 p q]; rfl
  · rw [if_neg q, cT (by rw [iN_le (by omega) (by omega)]; omega)]
theorem goesC (d : Nat) (x : Int32) {f : Nat → Int32} {S c p : Nat} {h : zm_H} (r : rdS f S c p h) (hp : p ≤ S) : fRe_goesOnWith (d + 2) x h = cond (decide (sgn f S p = x)) (some (some (.int 1), zm_ui h 8 3 (iN (p + 1)))) (some (some (.int 0), h)) := by
  rw [fRe_goesOnWith_eq, aheadC d r hp, bI, r.2.2.2.1, iN_addr]
theorem emitC (d : Nat) (x : Int32) {c : Nat} {h : zm_H} (r : h.1 8 4 = iN c) (hc : c < 128) : fRe_emit (d + 1) x h = some (some (.int 1), zm_ui (zm_ui h 10 c x) 8 4 (iN (c + 1))) := by
  rw [fRe_emit_eq, r, cF (iN_lt0 (by omega)), cT (by rw [show (128 : Int32) = iN 128 from rfl, iN_lt (by omega) (by omega)]; omega), gW_10 (by omega), iN_c (by omega), ui_c (by omega), r, iN_addr]; rfl
theorem isDigitC (d : Nat) (x : Int32) (h : zm_H) : fRe_isDigit (d + 1) x h = some (some (.int (zi (isD x))), h) := by
  rw [fRe_isDigit_eq]; unfold isD
  cases decide (x < 48) <;> cases decide (57 < x) <;> rfl
theorem isNameC (d : Nat) (x : Int32) (h : zm_H) : fRe_isName (d + 1) x h = some (some (.int (zi (nm x).isSome)), h) := by
  rw [fRe_isName_eq]; unfold nm
  by_cases q0 : x = 116
  · rw [cT q0, if_pos q0]; rfl
  · rw [cF q0, if_neg q0]
    by_cases q1 : x = 107
    · rw [cT q1, if_pos q1]; rfl
    · rw [cF q1, if_neg q1]
      by_cases q2 : x = 115
      · rw [cT q2, if_pos q2]; rfl
      · rw [cF q2, if_neg q2]
        by_cases q3 : x = 119
        · rw [cT q3, if_pos q3]; rfl
        · rw [cF q3, if_neg q3]
          by_cases q4 : x = 110
          · rw [cT q4, if_pos q4]; rfl
          · rw [cF q4, if_neg q4, cN]
            by_cases q5 : x = 98
            · rw [cT q5, if_pos q5]; rfl
            · rw [cF q5, if_neg q5]; rfl
def lvo (x : Int32) : Int32 := match opl x with
  | none => -1
  | some (l, _) => iN l
theorem levelC (d : Nat) (x : Int32) (h : zm_H) : fRe_levelOf (d + 1) x h = some (some (.int (lvo x)), h) := by
  have e : ∀ y l, lvo y = l → x = y → lvo x = l := fun y l h1 h2 => by rw [h2]; exact h1
  rw [fRe_levelOf_eq]
  by_cases q0 : x = 37
  · rw [cT q0, e 37 4 rfl q0]
  · rw [cF q0]
    by_cases q1 : x = 38
    · rw [cT q1, e 38 1 rfl q1]
    · rw [cF q1]
      by_cases q2 : x = 42
      · rw [cT q2, e 42 4 rfl q2]
      · rw [cF q2]
        by_cases q3 : x = 43
        · rw [cT q3, e 43 3 rfl q3]
        · rw [cF q3]
          by_cases q4 : x = 45
          · rw [cT q4, e 45 3 rfl q4]
          · rw [cF q4]
            by_cases q5 : x = 47
            · rw [cT q5, e 47 4 rfl q5]
            · rw [cF q5]
              by_cases q6 : x = 60
              · rw [cT q6, e 60 2 rfl q6]
              · rw [cF q6]
                by_cases q7 : x = 61
                · rw [cT q7, e 61 2 rfl q7]
                · rw [cF q7]
                  by_cases q8 : x = 62
                  · rw [cT q8, e 62 2 rfl q8]
                  · rw [cF q8]
                    by_cases q9 : x = 124
                    · rw [cT q9, e 124 0 rfl q9]
                    · rw [cF q9]
                      have : lvo x = -1 := by
                        unfold lvo opl
                        rw [if_neg q9, if_neg q1, if_neg q6, if_neg q7, if_neg q8, if_neg q3, if_neg q4, if_neg q2, if_neg q5, if_neg q0]
                      rw [this]
theorem numC (d : Nat) {f : Nat → Int32} {S c : Nat} : ∀ (k p v : Nat) (h : zm_H), k ≤ 4 → p ≤ S → rdS f S c p h → ∃ K, fRe_number_c4 (d + 2) (iN v) (iN (4 - k)) h = some (some (.int (iN (num f S k p v).2)), K) ∧ K.1 8 3 = iN (num f S k p v).1 ∧ K.1 8 4 = iN c ∧ frP h K ∧ K.1 10 = h.1 10 := by
  intro k
  induction k with
  | zero =>
    intro p v h hk hp r
    refine ⟨h, ?_, r.2.2.2.1, r.2.2.2.2, frP_r h, rfl⟩
    rw [fRe_number_c4_eq, cT (by decide)]; rfl
  | succ k ih =>
    intro p v h hk hp r
    rw [fRe_number_c4_eq, cF (by rw [show (4 : Int32) = iN 4 from rfl, iN_le (by omega) (by omega)]; omega), aheadC d r hp, bI, isDigitC d, bI, zi_0, cN, aheadC d r hp, bI, num]
    cases q : isD (sgn f S p)
    · exact ⟨h, rfl, r.2.2.2.1, r.2.2.2.2, frP_r h, rfl⟩
    · obtain ⟨w, hw, e⟩ := isD_v q
      have hs := sgn_d q
      obtain ⟨K, k1, k2, k3, k4, k5⟩ := ih (p + 1) (10 * v + (48 + w - 48)) (zm_ui h 8 3 (iN (p + 1))) (by omega) (by omega) (rdS_3 r)
      rw [e, iN_c (by omega), if_pos rfl]
      refine ⟨K, ?_, k2, k3, frP_t (frP_3 _ _) k4, by rw [k5, ui_f (by omega)]⟩
      rw [Bool.cond_true, r.2.2.2.1, iN_addr, iN_addr, iN_mulr, iN_add, iN_subr (by omega : 48 ≤ _)]
      rw [show v * 10 + (48 + w) - 48 = 10 * v + (48 + w - 48) by omega, show 4 - (k + 1) + 1 = 4 - k by omega]
      exact k1
