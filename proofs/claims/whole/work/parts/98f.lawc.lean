/-! a law read: the class -/
theorem tx_ok {f : Nat → Int32} {S : Nat} : ∀ (k p : Nat) (ls : List (List Nat × List Nat)), p ≤ S → (lcl ls).length ≤ p → 2 * ls.length ≤ p → (∀ x ∈ ls, lok x) → (tx f S k p ls).1 ≤ S ∧ ∀ R, (tx f S k p ls).2 = some R → R ≠ [] ∧ 2 * R.length ≤ S + 1 ∧ (lcl R).length ≤ S + 1 ∧ ∀ x ∈ R, lok x := by
  intro k
  induction k with
  | zero => intro p ls h _ _ _; rw [tx_0]; exact ⟨h, fun R hR => absurd hR (by simp)⟩
  | succ k ih =>
    intro p ls hp h1 h2 h3
    have G := ln_ok (f := f) hp
    rw [tx_s]
    generalize ln f S p = r at G
    obtain ⟨q, t⟩ := r
    obtain ⟨g1, g2⟩ := G
    cases t with
    | none => exact ⟨g1, fun R hR => by cases hR⟩
    | some l =>
      obtain ⟨g3, g4, g5, g6⟩ := g2 l rfl
      simp only at g1 g3 g4
      have e1 : (lcl (ls ++ [l])).length = (lcl ls).length + (cdl l).length + 1 := by rw [lcl_app]; simp only [List.length_append, List.length_singleton]; omega
      have e2 : (ls ++ [l]).length = ls.length + 1 := by rw [List.length_append, List.length_singleton]
      have e3 : ∀ x ∈ ls ++ [l], lok x := fun x hx => by
        rw [List.mem_append, List.mem_singleton] at hx
        rcases hx with hx | rfl
        · exact h3 x hx
        · exact g6
      simp only [tx2]
      by_cases e : sgn f S q = 59
      · have hq := sgn_lt (f := f) (S := S) (p := q) (by rw [e]; decide)
        rw [if_pos e]
        exact ih (q + 1) _ (by omega) (by omega) (by omega) e3
      · rw [if_neg e]
        by_cases e4 : q = S
        · rw [if_pos e4]
          refine ⟨g1, fun R hR => ?_⟩
          cases hR
          exact ⟨by simp, by omega, by omega, e3⟩
        · rw [if_neg e4]
          exact ⟨g1, fun R hR => absurd hR (by simp)⟩
def xtC (h : zm_H) (call : zm_R) (r : Nat × Option (List (List Nat × List Nat))) : Prop := ∃ K, frP h K ∧ K.1 8 3 = iN r.1 ∧ match r.2 with
  | none => call = some (some (.int 0), K)
  | some R => call = some (some (.int 1), K) ∧ K.1 8 4 = iN (lcl R).length ∧ atL (K.1 10) 0 (lcl R)
theorem xtC_n {q : Nat} {h K : zm_H} {call : zm_R} (e : frP h K) (e3 : K.1 8 3 = iN q) (hc : call = some (some (.int 0), K)) : xtC h call (q, none) := ⟨K, e, e3, hc⟩
theorem textC (d : Nat) {f : Nat → Int32} {S : Nat} {h0 : zm_H} : ∀ (k p : Nat) (ls : List (List Nat × List Nat)) (h : zm_H), S + 1 ≤ p + k → p ≤ S → (lcl ls).length ≤ p → 2 * ls.length ≤ p → rdS f S (lcl ls).length p h → frP h0 h → atL (h.1 10) 0 (lcl ls) → xtC h0 (fRe_readText_c12 (d + 90) (iN ls.length) h) (tx f S k p ls) := by
  intro k
  induction k with
  | zero => intro p ls h h1 h2; omega
  | succ k ih =>
    intro p ls h hk hp hc hn r fr rt
    have hS := r.1
    have G := ln_ok (f := f) hp
    have R := lineC d hp hc r
    rw [fRe_readText_c12_eq, r.2.1, cF (by rw [iN_lt (by omega) (by omega)]; omega), tx_s]
    generalize ln f S p = res at G R
    obtain ⟨q, t⟩ := res
    obtain ⟨K, k1, k2, k3⟩ := R
    obtain ⟨g1, g2⟩ := G
    cases t with
    | none =>
      simp only at k3
      exact xtC_n (frP_t fr k1) k2 (by rw [k3, bI, cN, cT rfl])
    | some l =>
      obtain ⟨j1, j2, j3, j4⟩ := k3
      obtain ⟨g3, g4, g5, g6⟩ := g2 l rfl
      simp only at g1 g3 g4 k2
      have e1 : (lcl (ls ++ [l])).length = (lcl ls).length + (cdl l).length + 1 := by rw [lcl_app]; simp only [List.length_append, List.length_singleton]; omega
      have e2 : (ls ++ [l]).length = ls.length + 1 := by rw [List.length_append, List.length_singleton]
      rw [j1, bI, cN, cF (by decide), emitC (d + 88) _ j2 (by omega), bI]
      have f2 : frP h (zm_ui (zm_ui K 10 ((lcl ls).length + (cdl l).length) (-59)) 8 4 (iN ((lcl ls).length + (cdl l).length + 1))) := frP_t k1 (frP_e _ _ _ _)
      have r2 : rdS f S (lcl (ls ++ [l])).length q (zm_ui (zm_ui K 10 ((lcl ls).length + (cdl l).length) (-59)) 8 4 (iN ((lcl ls).length + (cdl l).length + 1))) := rdS_P r f2 (by rw [ui_k (by omega), ui_c (by omega)]; exact k2) (by rw [ui_s, e1])
      have a2 : atL ((zm_ui (zm_ui K 10 ((lcl ls).length + (cdl l).length) (-59)) 8 4 (iN ((lcl ls).length + (cdl l).length + 1))).1 10) 0 (lcl (ls ++ [l])) := by
        rw [lcl_app, atL_app, atL_app, Nat.zero_add]
        refine ⟨atL_k _ _ (fun i h1 h2 => ?_) rt, atL_k _ _ (fun i h1 h2 => ?_) j4, ?_, trivial⟩
        · rw [ui_c (by omega), ui_k (by omega), j3 i (by omega)]
        · rw [ui_c (by omega), ui_k (by omega)]
        · rw [ui_c (by omega), ui_s]
      generalize zm_ui (zm_ui K 10 ((lcl ls).length + (cdl l).length) (-59)) 8 4 (iN ((lcl ls).length + (cdl l).length + 1)) = Z at *
      rw [goesC (d + 87) 59 r2 g1]
      simp only [tx2]
      by_cases e : sgn f S q = 59
      · have hq := sgn_lt (f := f) (S := S) (p := q) (by rw [e]; decide)
        rw [cT e, if_pos e, bI, cN, cF (by decide), iN_addr, ← e2]
        exact ih (q + 1) (ls ++ [l]) _ (by omega) (by omega) (by omega) (by omega) (rdS_3 r2) (frP_t (frP_t fr f2) (frP_3 _ _)) (by rw [ui_f (by omega)]; exact a2)
      · rw [cF e, if_neg e, bI, cN, cT rfl, cN, r2.2.2.2.1, r2.2.1]
        by_cases e4 : q = S
        · rw [if_pos e4, cT (by rw [e4])]
          exact ⟨Z, frP_t fr f2, r2.2.2.2.1, rfl, r2.2.2.2.2, a2⟩
        · rw [if_neg e4, cF (by rw [iN_eq (by omega) (by omega)]; exact e4)]
          exact xtC_n (frP_t fr f2) r2.2.2.2.1 rfl
theorem becomeC (d : Nat) {l : List Int32} : ∀ (n i : Nat) (h : zm_H), i + n = l.length → l.length ≤ 128 → h.1 11 2 = iN l.length → atL (h.1 10) 0 l → ∃ K, fLa_become_c16 (d + 1) (iN i) h = some (none, K) ∧ (∀ a, a ≠ 12 → K.1 a = h.1 a) ∧ K.2 = h.2 ∧ (∀ j, j < l.length → i ≤ j → K.1 12 j = h.1 10 j) ∧ (∀ j, j < i → K.1 12 j = h.1 12 j) := by
  intro n
  induction n with
  | zero =>
    intro i h hi hl e r
    obtain rfl : i = l.length := by omega
    refine ⟨h, ?_, fun _ _ => rfl, rfl, fun p h1 h2 => absurd h1 (by omega), fun _ _ => rfl⟩
    rw [fLa_become_c16_eq, e, cT (by rw [iN_le (by omega) (by omega)]; omega)]
  | succ n ih =>
    intro i h hi hl e r
    obtain ⟨K, f, k1, k2, k3, k4⟩ := ih (i + 1) (zm_ui h 12 i (h.1 10 i)) (by omega) hl (by rw [ui_c (by omega)]; exact e) (by rw [ui_f (by omega)]; exact r)
    refine ⟨K, ?_, ?_, k2, ?_, ?_⟩
    · rw [fLa_become_c16_eq, e, cF (by rw [iN_le (by omega) (by omega)]; omega), gR_10 (by omega), gW_12 (by omega), iN_c (by omega), iN_addr]; exact f
    · intro a h1; rw [k1 a h1, ui_f h1]
    · intro p h1 h2
      by_cases e : p = i
      · subst e; rw [k4 p (by omega), ui_s]
      · rw [k3 p h1 (by omega), ui_c (by omega)]
    · intro p h1
      rw [k4 p (by omega), ui_k (by omega)]
def rawC (h : zm_H) (call : zm_R) (r : Nat × Option (List (List Nat × List Nat))) : Prop := ∃ K, (∀ a, a ≠ 8 → a ≠ 10 → a ≠ 11 → a ≠ 12 → K.1 a = h.1 a) ∧ (∀ b, b ≠ 2 → K.1 11 b = h.1 11 b) ∧ K.2 = h.2 ∧ K.1 8 2 = 0 ∧ match r.2 with
  | none => call = some (some (.int (-100 - iN r.1)), K) ∧ K.1 11 2 = h.1 11 2 ∧ K.1 12 = h.1 12
  | some R => call = some (some (.int 1), K) ∧ K.1 11 2 = iN (lcl R).length ∧ atL (K.1 12) 0 (lcl R)
theorem lawC (d : Nat) {S : Nat} {h : zm_H} (hS : S ≤ 120) (e2 : h.1 8 2 = iN S) (k : Nat) (hk : S + 1 ≤ k) : rawC h (fE_law (d + 92) h) (tx (h.1 9) S k 0 []) := by
  have G := tx_ok (f := h.1 9) (S := S) k 0 [] (by omega) (by simp [lcl]) (by simp) (fun x hx => absurd hx (by simp))
  have R := textC (d + 1) (f := h.1 9) (S := S) (h0 := h) k 0 [] (zm_ui (zm_ui h 8 3 0) 8 4 0) (by omega) (by omega) (by simp [lcl]) (by simp) ⟨hS, by rw [ui_k (by omega), ui_k (by omega)]; exact e2, fun i _ => by rw [ui_c (by omega), ui_c (by omega)], by rw [ui_k (by omega), ui_s]; rfl, by rw [ui_s]; rfl⟩ (frP_t (frP_3 _ _) ⟨fun a h1 h2 => ui_f h1, fun b h1 h2 => ui_k h2, rfl⟩) trivial
  rw [fE_law_eq, fRe_readText_eq]
  rw [show iN ([] : List (List Nat × List Nat)).length = 0 from rfl] at R
  generalize tx (h.1 9) S k 0 [] = res at G R
  obtain ⟨q, t⟩ := res
  obtain ⟨K, k1, k2, k3⟩ := R
  obtain ⟨g1, g2⟩ := G
  cases t with
  | none =>
    simp only at k3 k2
    refine ⟨zm_ui K 8 2 0, fun a h1 h2 h3 h4 => by rw [ui_f h1]; exact k1.1 a h1 h2, fun b hb => by rw [ui_c (by omega), k1.1 11 (by omega) (by omega)], k1.2.2, ui_s _ _ _ _, ?_, by rw [ui_c (by omega), k1.1 11 (by omega) (by omega)], by rw [ui_f (by omega), k1.1 12 (by omega) (by omega)]⟩
    rw [show fRe_readText_c12 (d + 90 + 1) 0 (zm_ui (zm_ui h 8 3 0) 8 4 0) = some (some (.int 0), K) from k3, bI, cT rfl, fRe_empty_eq, bV, k2]
  | some R =>
    obtain ⟨j1, j2, j3⟩ := k3
    obtain ⟨g3, g4, g5, g6⟩ := g2 R rfl
    have hm : zm_min (K.1 8 4) 128 = iN (lcl R).length := by
      rw [j2, show (128 : Int32) = iN 128 from rfl, zm_min_iN (by omega) (by omega), Nat.min_eq_left (by omega)]
    obtain ⟨M, m1, m2, m3, m4, m5⟩ := becomeC (d + 90) (l := lcl R) (lcl R).length 0 (zm_ui K 11 2 (iN (lcl R).length)) (by omega) (by omega) (ui_s _ _ _ _) (by rw [ui_f (by omega)]; exact j3)
    refine ⟨zm_ui M 8 2 0, fun a h1 h2 h3 h4 => by rw [ui_f h1, m2 a h4, ui_f h3]; exact k1.1 a h1 h2, fun b hb => by rw [ui_c (by omega), m2 11 (by omega), ui_k hb, k1.1 11 (by omega) (by omega)], by rw [ui_2, m3, ui_2, k1.2.2], ui_s _ _ _ _, ?_, by rw [ui_c (by omega), m2 11 (by omega), ui_s], ?_⟩
    · rw [show fRe_readText_c12 (d + 90 + 1) 0 (zm_ui (zm_ui h 8 3 0) 8 4 0) = some (some (.int 1), K) from j1, bI, cF (by decide), fLa_become_eq, hm]
      rw [show fLa_become_c16 (d + 90 + 1) 0 (zm_ui K 11 2 (iN (lcl R).length)) = some (none, M) from m1, bV, fRe_empty_eq, bV]
    · rw [ui_f (by omega)]
      refine atL_k _ _ (fun i h1 h2 => ?_) j3
      rw [m4 i (by omega) (by omega), ui_c (by omega)]
