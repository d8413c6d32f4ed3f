/-! a law read: lines and text, the class -/
def pe (f : Nat → Int32) (S p : Nat) : Nat × Option (List Nat) := pz f S 42 0 0 p
theorem pe_ok {f : Nat → Int32} {S p : Nat} (h : p ≤ S) : okP S 36 p (pe f S p) := pz_ok f S 42 0 0 p (by omega) (by omega) (by omega) h
theorem readE (d : Nat) {f : Nat → Int32} {S p c : Nat} {h : zm_H} (hp : p ≤ S) (hc : c ≤ p) (r : rdS f S c p h) : reC f S c h (fRe_readLevel (d + 88) 0 0 h) (pe f S p) := (readC f S 42).1 0 0 p c h d (by omega) (by omega) (by omega) hp hc r
def ln3 (a : List Nat) : Nat × Option (List Nat) → Nat × Option (List Nat × List Nat)
  | (q2, none) => (q2, none)
  | (q2, some s) => (q2, some (a, s))
def ln2 (f : Nat → Int32) (S : Nat) : Nat × Option (List Nat) → Nat × Option (List Nat × List Nat)
  | (q, none) => (q, none)
  | (q, some a) => if sgn f S q = 63 then ln3 a (pe f S (q + 1)) else (q, some ([], a))
def ln (f : Nat → Int32) (S p : Nat) : Nat × Option (List Nat × List Nat) := ln2 f S (pe f S p)
def cdl (l : List Nat × List Nat) : List Int32 := (if l.1 = [] then [] else l.1.map cc ++ [-63]) ++ l.2.map cc
def tx2 (go : Nat → List (List Nat × List Nat) → Nat × Option (List (List Nat × List Nat))) (f : Nat → Int32) (S : Nat) (ls : List (List Nat × List Nat)) : Nat × Option (List Nat × List Nat) → Nat × Option (List (List Nat × List Nat))
  | (q, none) => (q, none)
  | (q, some l) => if sgn f S q = 59 then go (q + 1) (ls ++ [l]) else if q = S then (q, some (ls ++ [l])) else (q, none)
def tx (f : Nat → Int32) (S : Nat) : Nat → Nat → List (List Nat × List Nat) → Nat × Option (List (List Nat × List Nat))
  | 0, p, _ => (p, none)
  | k + 1, p, ls => tx2 (tx f S k) f S ls (ln f S p)
theorem tx_0 (f : Nat → Int32) (S p : Nat) (ls : List (List Nat × List Nat)) : tx f S 0 p ls = (p, none) := rfl
theorem tx_s (f : Nat → Int32) (S k p : Nat) (ls : List (List Nat × List Nat)) : tx f S (k + 1) p ls = tx2 (tx f S k) f S ls (ln f S p) := rfl
theorem lcl_app (ls : List (List Nat × List Nat)) (l : List Nat × List Nat) : lcl (ls ++ [l]) = lcl ls ++ (cdl l ++ [-59]) := by
  induction ls with
  | nil => obtain ⟨a, s⟩ := l; simp [lcl, cdl]
  | cons x ls ih => obtain ⟨a, s⟩ := x; rw [List.cons_append, lcl, ih, lcl]; simp
def okL (S p : Nat) (r : Nat × Option (List Nat × List Nat)) : Prop := r.1 ≤ S ∧ ∀ l, r.2 = some l → p + (cdl l).length ≤ r.1 ∧ p + 1 ≤ r.1 ∧ p + l.1.length + l.2.length ≤ r.1 ∧ lok l
theorem okL_n {S p q : Nat} (h : q ≤ S) : okL S p (q, none) := ⟨h, fun l hl => by cases hl⟩
theorem ln_ok {f : Nat → Int32} {S p : Nat} (hp : p ≤ S) : okL S p (ln f S p) := by
  have G := pe_ok (f := f) hp
  unfold ln
  generalize pe f S p = r at G
  obtain ⟨q, t⟩ := r
  obtain ⟨g1, g2, g3⟩ := G
  cases t with
  | none => exact okL_n g1
  | some a =>
    obtain ⟨g4, g5, g6, g7⟩ := g3 a rfl
    simp only at g1 g2 g5
    have d1 : dep 36 0 a = some 1 := by
      have := g7 0 [] (by omega)
      rw [List.append_nil] at this; exact this
    show okL S p (if sgn f S q = 63 then ln3 a (pe f S (q + 1)) else (q, some ([], a)))
    by_cases e : sgn f S q = 63
    · have hq := sgn_lt (f := f) (S := S) (p := q) (by rw [e]; decide)
      have G := pe_ok (f := f) (S := S) (p := q + 1) (by omega)
      rw [if_pos e]
      generalize pe f S (q + 1) = r at G
      obtain ⟨q2, t⟩ := r
      obtain ⟨b1, b2, b3⟩ := G
      cases t with
      | none => exact okL_n b1
      | some s =>
        obtain ⟨b4, b5, b6, b7⟩ := b3 s rfl
        simp only at b1 b2 b5
        show okL S p (q2, some (a, s))
        refine ⟨b1, ?_⟩
        intro l hl
        cases hl
        have d2 : dep 36 0 s = some 1 := by
          have := b7 0 [] (by omega)
          rw [List.append_nil] at this; exact this
        refine ⟨?_, by simp only; omega, by simp only; omega, ⟨.inr d1, d2, g6, b6⟩⟩
        unfold cdl
        simp only
        rw [if_neg (by intro e; rw [e] at g4; simp at g4)]
        simp only [List.length_append, List.length_map, List.length_singleton]
        omega
    · rw [if_neg e]
      refine ⟨g1, ?_⟩
      intro l hl
      cases hl
      refine ⟨?_, by simp only; omega, by simp only [List.length_nil]; omega, ⟨.inl rfl, d1, fun c hc => absurd hc (by simp), g6⟩⟩
      unfold cdl
      simp only [if_true, List.nil_append, List.length_map]
      omega
/-- a line, the class -/
def rlC (c : Nat) (h : zm_H) (call : zm_R) (r : Nat × Option (List Nat × List Nat)) : Prop := ∃ K, frP h K ∧ K.1 8 3 = iN r.1 ∧ match r.2 with
  | none => call = some (some (.int 0), K)
  | some l => call = some (some (.int 1), K) ∧ K.1 8 4 = iN (c + (cdl l).length) ∧ (∀ i, i < c → K.1 10 i = h.1 10 i) ∧ atL (K.1 10) c (cdl l)
theorem rlC_n {c q : Nat} {h K : zm_H} {call : zm_R} (e : frP h K) (e3 : K.1 8 3 = iN q) (hc : call = some (some (.int 0), K)) : rlC c h call (q, none) := ⟨K, e, e3, hc⟩
theorem lineC (d : Nat) {f : Nat → Int32} {S p c : Nat} {h : zm_H} (hp : p ≤ S) (hc : c ≤ p) (r : rdS f S c p h) : rlC c h (fRe_readLine (d + 89) h) (ln f S p) := by
  have hS := r.1
  have G := pe_ok (f := f) hp
  have R := readE d hp hc r
  rw [fRe_readLine_eq]
  unfold ln
  generalize pe f S p = res at G R
  obtain ⟨q, t⟩ := res
  obtain ⟨g1, g2, g3⟩ := G
  obtain ⟨K, k1, k2, k3⟩ := R
  cases t with
  | none =>
    simp only at k3
    exact rlC_n k1 k2 (by rw [k3, bI, cN, cT rfl])
  | some a =>
    obtain ⟨g4, g5, g6, g7⟩ := g3 a rfl
    obtain ⟨j1, j2, j3, j4⟩ := k3
    simp only at g1 g2 g5 k2
    have rK := rdS_P r k1 k2 j2
    rw [j1, bI, cN, cF (by decide), goesC (d + 86) 63 rK g1]
    show rlC c h _ (if sgn f S q = 63 then ln3 a (pe f S (q + 1)) else (q, some ([], a)))
    by_cases e : sgn f S q = 63
    · have hq := sgn_lt (f := f) (S := S) (p := q) (by rw [e]; decide)
      rw [cT e, if_pos e, bI, cN, cF (by decide), emitC (d + 87) _ (c := c + a.length) (by rw [ui_k (by omega)]; exact j2) (by omega), bI]
      have f2 : frP h (zm_ui (zm_ui (zm_ui K 8 3 (iN (q + 1))) 10 (c + a.length) (-63)) 8 4 (iN (c + a.length + 1))) := frP_t (frP_t k1 (frP_3 _ _)) (frP_e _ _ _ _)
      have r2 : rdS f S (c + a.length + 1) (q + 1) (zm_ui (zm_ui (zm_ui K 8 3 (iN (q + 1))) 10 (c + a.length) (-63)) 8 4 (iN (c + a.length + 1))) := rdS_P r f2 (by rw [ui_k (by omega), ui_c (by omega), ui_s]) (ui_s _ _ _ _)
      have lo10 : ∀ i, i < c + a.length → (zm_ui (zm_ui (zm_ui K 8 3 (iN (q + 1))) 10 (c + a.length) (-63)) 8 4 (iN (c + a.length + 1))).1 10 i = K.1 10 i := fun i hi => by rw [ui_c (by omega), ui_k (by omega), ui_c (by omega)]
      have at10 : (zm_ui (zm_ui (zm_ui K 8 3 (iN (q + 1))) 10 (c + a.length) (-63)) 8 4 (iN (c + a.length + 1))).1 10 (c + a.length) = -63 := by rw [ui_c (by omega), ui_s]
      generalize zm_ui (zm_ui (zm_ui K 8 3 (iN (q + 1))) 10 (c + a.length) (-63)) 8 4 (iN (c + a.length + 1)) = Z at *
      have R := readE d (by omega : q + 1 ≤ S) (by omega) r2
      have G := pe_ok (f := f) (S := S) (p := q + 1) (by omega)
      generalize pe f S (q + 1) = res at G R
      obtain ⟨q2, t⟩ := res
      obtain ⟨M, m1, m2, m3⟩ := R
      cases t with
      | none =>
        simp only at m3
        exact rlC_n (frP_t f2 m1) m2 (by rw [m3]; rfl)
      | some s =>
        obtain ⟨w1, w2, w3, w4⟩ := m3
        have ea : cdl (a, s) = a.map cc ++ [-63] ++ s.map cc := by
          unfold cdl
          simp only
          rw [if_neg (by intro e; rw [e] at g4; simp at g4)]
        refine ⟨M, frP_t f2 m1, m2, ?_⟩
        show _ = some (some (Value.int 1), M) ∧ M.1 8 4 = iN (c + (cdl (a, s)).length) ∧ (∀ i, i < c → M.1 10 i = h.1 10 i) ∧ atL (M.1 10) c (cdl (a, s))
        rw [ea]
        refine ⟨by rw [w1]; rfl, by rw [w2]; simp only [List.length_append, List.length_map, List.length_singleton]; exact congrArg iN (by omega), ?_, ?_⟩
        · intro i hi; rw [w3 i (by omega), lo10 i (by omega), j3 i hi]
        · rw [atL_app, atL_app, List.length_append, List.length_map, List.length_singleton]
          refine ⟨⟨atL_k _ _ (fun i h1 h2 => ?_) j4, ?_, trivial⟩, ?_⟩
          · rw [List.length_map] at h2
            rw [w3 i (by omega), lo10 i (by omega)]
          · rw [w3 _ (by omega), at10]
          · rw [← Nat.add_assoc]; exact w4
    · rw [cF e, if_neg e, bI, cN, cT rfl]
      refine ⟨K, k1, k2, rfl, ?_, j3, ?_⟩
      · rw [j2]; unfold cdl; simp only [if_true, List.nil_append, List.length_map]
      · unfold cdl; simp only [if_true, List.nil_append]; exact j4
