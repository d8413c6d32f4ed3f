/-! a law read: the steps of the reference's levels -/
theorem stM_no {nxt c9 : zm_H → zm_R} {D lvl p : Nat} {h : zm_H} {x : Option (Nat × Nat)} (hx : ∀ l c, x = some (l, c) → l ≠ lvl) : stM nxt c9 D lvl p h x = some (some (.int 1), h) := by
  cases x with
  | none => rfl
  | some y => obtain ⟨l, c⟩ := y; simp only [stM]; rw [if_neg (hx l c rfl)]
theorem opl_in {x : Int32} {l c : Nat} (h : opl x = some (l, c)) : (l = 0 → x = 124) ∧ (l = 1 → x = 38) ∧ (l = 2 → x = 60 ∨ x = 61 ∨ x = 62) ∧ (l = 3 → x = 43 ∨ x = 45) ∧ (l = 4 → x = 42 ∨ x = 47 ∨ x = 37) := by
  unfold opl at h
  repeat' split at h
  all_goals first | (cases h; subst x; decide) | cases h
theorem codes_1 (D : Nat) (x : Int32) (h : zm_H) (A B : zm_H → zm_R) : zb_I (fM_codes (D + 1) x h) (fun v h' => cond (decide (v = 0)) (A h') (B h')) = zb_I (fM_codes (D + 1) x h) (fun _ h' => B h') := by
  rw [fM_codes_eq]; cases zm_inW 64 (h.1 45 25) <;> rfl
theorem stE (D : Nat) {f : Nat → Int32} {S c o p : Nat} {h : zm_H} (hp : p ≤ S) (r : mdS f S c o p h) : fM_isE_c9 (D + 3) h = stM (fM_isA (D + 2)) (fM_isE_c9 (D + 3)) (D + 1) 0 p h (opl (sgn f S p)) := by
  rw [fM_isE_c9_eq, isM D 124 r hp]
  by_cases e : sgn f S p = 124
  · rw [e, cT rfl, bI, cF (by decide)]; rfl
  · rw [cF e, bI, cT rfl, stM_no (fun l c hl hz => e ((opl_in hl).1 hz))]
theorem stA (D : Nat) {f : Nat → Int32} {S c o p : Nat} {h : zm_H} (hp : p ≤ S) (r : mdS f S c o p h) : fM_isA_c9 (D + 3) h = stM (fM_isB (D + 2)) (fM_isA_c9 (D + 3)) (D + 1) 1 p h (opl (sgn f S p)) := by
  rw [fM_isA_c9_eq, isM D 38 r hp]
  by_cases e : sgn f S p = 38
  · rw [e, cT rfl, bI, cF (by decide)]; rfl
  · rw [cF e, bI, cT rfl, stM_no (fun l c hl hz => e ((opl_in hl).2.1 hz))]
theorem stS (D : Nat) {f : Nat → Int32} {S c o p : Nat} {h : zm_H} (hp : p ≤ S) (r : mdS f S c o p h) : fM_isS_c9 (D + 3) h = stM (fM_isP (D + 2)) (fM_isS_c9 (D + 3)) (D + 1) 3 p h (opl (sgn f S p)) := by
  rw [fM_isS_c9_eq, signM (D + 1) r hp, bI, cN]
  by_cases e : sgn f S p = 43
  · rw [e, cT rfl, cT (by decide), r.2.2.2.1, iN_addr]; rfl
  · rw [cF e, signM (D + 1) r hp, bI, cN]
    by_cases e2 : sgn f S p = 45
    · rw [e2, cT rfl, cT (by decide), r.2.2.2.1, iN_addr]; rfl
    · rw [cF e2, cF (by decide), stM_no (fun l c hl hz => by rcases (opl_in hl).2.2.2.1 hz with w | w <;> contradiction)]
theorem stP (D : Nat) {f : Nat → Int32} {S c o p : Nat} {h : zm_H} (hp : p ≤ S) (r : mdS f S c o p h) : fM_isP_c9 (D + 3) h = stM (fM_isO (D + 2)) (fM_isP_c9 (D + 3)) (D + 1) 4 p h (opl (sgn f S p)) := by
  rw [fM_isP_c9_eq, signM (D + 1) r hp, bI, cN]
  by_cases e : sgn f S p = 42
  · rw [e, cT rfl, cT (by decide), r.2.2.2.1, iN_addr]; rfl
  · rw [cF e, signM (D + 1) r hp, bI, cN]
    by_cases e2 : sgn f S p = 47
    · rw [e2, cT rfl, cT (by decide), r.2.2.2.1, iN_addr]; rfl
    · rw [cF e2, signM (D + 1) r hp, bI, cN]
      by_cases e3 : sgn f S p = 37
      · rw [e3, cT rfl, cT (by decide), r.2.2.2.1, iN_addr]; rfl
      · rw [cF e3, cF (by decide), stM_no (fun l c hl hz => by rcases (opl_in hl).2.2.2.2 hz with w | w | w <;> contradiction)]
/-- behind the first of a comparison -/
noncomputable def cmpM (D : Nat) (h : zm_H) : zm_R := zb_I (fM_sign (D + 2) h) (fun v4 h3 =>
   cond (!(decide (v4 = (60 : Int32))))
   (zb_I (fM_sign (D + 2) h3) (fun v6 h5 =>
    cond (!(decide (v6 = (61 : Int32))))
    (zb_I (fM_sign (D + 2) h5) (fun v8 h7 =>
     cond (!(decide (v8 = (62 : Int32))))
     (cond (decide (0 ≤ (-1 : Int32)))
      (zb_I (fM_isS (D + 2) (zm_ui h7 45 23 ((h7.1 45 23) + (1 : Int32)))) (fun v10 h9 =>
       cond (decide (v10 = 0))
       (some (some (.int ((0 : Int32))), h9))
       (zb_I (fM_codes (D + 2) (-1 : Int32) h9) (fun v12 h11 =>
        cond (decide (v12 = 0))
        (some (some (.int ((0 : Int32))), h11))
        (some (some (.int ((1 : Int32))), h11))))))
      (some (some (.int ((1 : Int32))), h7)))
     (cond (decide (0 ≤ (10 : Int32)))
      (zb_I (fM_isS (D + 2) (zm_ui h7 45 23 ((h7.1 45 23) + (1 : Int32)))) (fun v14 h13 =>
       cond (decide (v14 = 0))
       (some (some (.int ((0 : Int32))), h13))
       (zb_I (fM_codes (D + 2) (10 : Int32) h13) (fun v16 h15 =>
        cond (decide (v16 = 0))
        (some (some (.int ((0 : Int32))), h15))
        (some (some (.int ((1 : Int32))), h15))))))
      (some (some (.int ((1 : Int32))), h7)))))
    (cond (decide (0 ≤ (9 : Int32)))
     (zb_I (fM_isS (D + 2) (zm_ui h5 45 23 ((h5.1 45 23) + (1 : Int32)))) (fun v18 h17 =>
      cond (decide (v18 = 0))
      (some (some (.int ((0 : Int32))), h17))
      (zb_I (fM_codes (D + 2) (9 : Int32) h17) (fun v20 h19 =>
       cond (decide (v20 = 0))
       (some (some (.int ((0 : Int32))), h19))
       (some (some (.int ((1 : Int32))), h19))))))
     (some (some (.int ((1 : Int32))), h5)))))
   (cond (decide (0 ≤ (8 : Int32)))
    (zb_I (fM_isS (D + 2) (zm_ui h3 45 23 ((h3.1 45 23) + (1 : Int32)))) (fun v22 h21 =>
     cond (decide (v22 = 0))
     (some (some (.int ((0 : Int32))), h21))
     (zb_I (fM_codes (D + 2) (8 : Int32) h21) (fun v24 h23 =>
      cond (decide (v24 = 0))
      (some (some (.int ((0 : Int32))), h23))
      (some (some (.int ((1 : Int32))), h23))))))
    (some (some (.int ((1 : Int32))), h3))))
theorem isB_s (D : Nat) (h : zm_H) : fM_isB (D + 3) h = zb_I (fM_isS (D + 2) h) (fun v2 h1 => cond (!(decide (v2 = 0))) (cmpM D h1) (some (some (.int 0), h1))) := by
  rw [fM_isB_eq]; rfl
theorem stB (D : Nat) {f : Nat → Int32} {S c o p : Nat} {h : zm_H} (hp : p ≤ S) (r : mdS f S c o p h) : cmpM D h = stM (fM_isS (D + 2)) (fun h => some (some (.int 1), h)) (D + 1) 2 p h (opl (sgn f S p)) := by
  unfold cmpM
  rw [signM (D + 1) r hp, bI, cN]
  by_cases e : sgn f S p = 60
  · rw [e, cT rfl, cT (by decide), r.2.2.2.1, iN_addr]
    simp only [codes_1]
    show _ = zb_I _ _
    simp only [cN]; rfl
  · rw [cF e, signM (D + 1) r hp, bI, cN]
    by_cases e2 : sgn f S p = 61
    · rw [e2, cT rfl, cT (by decide), r.2.2.2.1, iN_addr]
      simp only [codes_1]
      show _ = zb_I _ _
      simp only [cN]; rfl
    · rw [cF e2, signM (D + 1) r hp, bI, cN]
      by_cases e3 : sgn f S p = 62
      · rw [e3, cT rfl, cT (by decide), r.2.2.2.1, iN_addr]
        simp only [codes_1]
        show _ = zb_I _ _
        simp only [cN]; rfl
      · rw [cF e3, cF (by decide), stM_no (fun l c hl hz => by rcases (opl_in hl).2.2.1 hz with w | w | w <;> contradiction)]
