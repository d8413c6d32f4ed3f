/-! a law read: the class's levels -/
def reC (f : Nat → Int32) (S c : Nat) (h : zm_H) (call : zm_R) (r : Nat × Option (List Nat)) : Prop := ∃ K, frP h K ∧ K.1 8 3 = iN r.1 ∧ match r.2 with
  | none => call = some (some (.int 0), K)
  | some t => call = some (some (.int 1), K) ∧ K.1 8 4 = iN (c + t.length) ∧ (∀ i, i < c → K.1 10 i = h.1 10 i) ∧ atL (K.1 10) c (t.map cc)
theorem reC_none {f : Nat → Int32} {S c p : Nat} {h K : zm_H} {call : zm_R} (e : frP h K) (e3 : K.1 8 3 = iN p) (hc : call = some (some (.int 0), K)) : reC f S c h call (p, none) := ⟨K, e, e3, hc⟩
theorem atL_k {f g : Nat → Int32} : ∀ (l : List Int32) (p : Nat), (∀ i, p ≤ i → i < p + l.length → g i = f i) → atL f p l → atL g p l := by
  intro l
  induction l with
  | nil => intro p _ _; trivial
  | cons x l ih =>
    intro p h r
    rw [List.length_cons] at h
    exact ⟨by rw [h p (by omega) (by omega)]; exact r.1, ih (p + 1) (fun i h1 h2 => h i (by omega) (by omega)) r.2⟩
/-- one code more -/
theorem atL_e {h : zm_H} {c x : Nat} {t : List Nat} (r : atL (h.1 10) c (t.map cc)) (v : Int32) : atL ((zm_ui (zm_ui h 10 (c + t.length) (cc x)) 8 4 v).1 10) c ((t ++ [x]).map cc) := by
  rw [List.map_append, atL_app, List.length_map]
  refine ⟨atL_k _ _ (fun i h1 h2 => ?_) r, ?_, trivial⟩
  · rw [List.length_map] at h2
    rw [ui_c (by omega), ui_k (by omega)]
  · rw [ui_c (by omega), ui_s]
theorem loopC (D lvl o : Nat) {f : Nat → Int32} {S E : Nat} (hl : lvl ≤ 4) {g : Nat → Nat × Option (List Nat)} (hg : ∀ p, p ≤ S → okP S E p (g p)) (sub : ∀ p c h, p ≤ S → c ≤ p → rdS f S c p h → reC f S c h (fRe_readLevel (D + 2) (iN lvl + 1) (iN o) h) (g p)) {h0 : zm_H} {c0 : Nat} :
    ∀ (k x p : Nat) (t : List Nat) (h : zm_H), x + k ≤ 120 → p ≤ S → c0 + t.length ≤ p → rdS f S (c0 + t.length) p h → frP h0 h → (∀ i, i < c0 → h.1 10 i = h0.1 10 i) → atL (h.1 10) c0 (t.map cc) → reC f S c0 h0 (fRe_readLevel_c39 (D + 3) (iN lvl) (iN o) (iN (x + k)) (iN x) h) (lpz g f S lvl k p t) := by
  intro k
  induction k with
  | zero =>
    intro x p t h hx hp hc r fr r10 rt
    refine ⟨h, fr, r.2.2.2.1, ?_, r.2.2.2.2, r10, rt⟩
    rw [fRe_readLevel_c39_eq, cT (by rw [iN_le (by omega) (by omega)]; omega)]
  | succ k ih =>
    intro x p t h hx hp hc r fr r10 rt
    have hS := r.1
    have stop : lpz g f S lvl (k + 1) p t = (p, some t) → ¬ lvo (sgn f S p) = iN lvl → reC f S c0 h0 (fRe_readLevel_c39 (D + 3) (iN lvl) (iN o) (iN (x + (k + 1))) (iN x) h) (lpz g f S lvl (k + 1) p t) := by
      intro e q
      rw [e]
      refine ⟨h, fr, r.2.2.2.1, ?_, r.2.2.2.2, r10, rt⟩
      rw [fRe_readLevel_c39_eq, cF (by rw [iN_le (by omega) (by omega)]; omega), aheadC (D + 1) r hp, bI, levelC (D + 1), bI, cN, cF q]
    cases q : opl (sgn f S p) with
    | none =>
      refine stop (by rw [lpz, q]) ?_
      unfold lvo; rw [q]
      show ¬ (-1 : Int32) = iN lvl
      intro e
      have : ¬ iN lvl < 0 := iN_lt0 (by omega)
      rw [← e] at this
      exact absurd (by decide) this
    | some lc =>
      obtain ⟨l, x2⟩ := lc
      obtain ⟨o1, o2, o3, o4, o5⟩ := opl_c q
      have hp2 := sgn_lt o5
      by_cases e : l = lvl
      · subst e
        have G := hg (p + 1) (by omega)
        obtain ⟨K, k1, k2, k3⟩ := sub (p + 1) (c0 + t.length) (zm_ui h 8 3 (iN (p + 1))) (by omega) (by omega) (rdS_3 r)
        have hd : fRe_readLevel_c39 (D + 3) (iN l) (iN o) (iN (x + (k + 1))) (iN x) h = zb_I (fRe_readLevel (D + 2) (iN l + 1) (iN o) (zm_ui h 8 3 (iN (p + 1)))) (fun v8 h7 => cond (!(decide (v8 = 0))) (zb_I (fRe_emit (D + 2) (cc x2) h7) (fun v10 h9 => fRe_readLevel_c39 (D + 3) (iN l) (iN o) (iN (x + 1 + k)) (iN (x + 1)) h9)) (some (some (.int ((0 : Int32))), h7))) := by
          rw [fRe_readLevel_c39_eq, cF (by rw [iN_le (by omega) (by omega)]; omega), aheadC (D + 1) r hp, bI, levelC (D + 1), bI, cN, cT (by unfold lvo; rw [q]), aheadC (D + 1) r hp, bI, r.2.2.2.1, o4, show x + (k + 1) = x + 1 + k by omega]
          simp only [iN_addr]
        rw [hd, lpz, q]
        show reC f S c0 h0 _ (if l = l then (match g (p + 1) with
          | (q, none) => (q, none)
          | (q, some t') => lpz g f S l k q (t ++ t' ++ [x2])) else (p, some t))
        rw [if_pos rfl]
        generalize g (p + 1) = res at *
        obtain ⟨p2, t2⟩ := res
        cases t2 with
        | none =>
          simp only at k3
          exact reC_none (frP_t (frP_t fr (frP_3 _ _)) k1) k2 (by rw [k3, bI, cN, cT rfl])
        | some t2 =>
          obtain ⟨j1, j2, j3, j4⟩ := k3
          obtain ⟨g1, g2, g3⟩ := G
          obtain ⟨g4, g5, g6, g7⟩ := g3 t2 rfl
          simp only at g1 g2 g5 k2
          have lenE : (t ++ t2 ++ [x2]).length = t.length + t2.length + 1 := by simp only [List.length_append, List.length_singleton]
          have lenF : (t ++ t2).length = t.length + t2.length := List.length_append
          rw [j1, bI, cN, cF (by decide), emitC (D + 1) _ j2 (by omega), bI]
          have a2 : atL (K.1 10) c0 ((t ++ t2).map cc) := by
            rw [List.map_append, atL_app, List.length_map]
            refine ⟨atL_k _ _ (fun i h1 h2 => ?_) rt, j4⟩
            rw [List.length_map] at h2
            rw [j3 i (by omega), ui_c (by omega)]
          have a3 := atL_e (x := x2) a2 (iN (c0 + t.length + t2.length + 1))
          rw [lenF, ← Nat.add_assoc] at a3
          refine ih (x + 1) p2 (t ++ t2 ++ [x2]) _ (by omega) g1 (by rw [lenE]; omega) ?_ (frP_t (frP_t (frP_t fr (frP_3 _ _)) k1) (frP_e _ _ _ _)) ?_ a3
          · rw [lenE]
            refine rdS_P (rdS_3 r (q := p + 1)) (frP_t k1 (frP_e _ _ _ _)) (by rw [ui_k (by omega), ui_c (by omega)]; exact k2) ((ui_s _ _ _ _).trans (congrArg iN (by omega)))
          · intro i hi
            rw [ui_c (by omega), ui_k (by omega), j3 i (by omega), ui_c (by omega)]; exact r10 i hi
      · refine stop (by rw [lpz, q]; exact if_neg e) ?_
        unfold lvo; rw [q]
        show ¬ iN l = iN lvl
        rw [iN_eq (by omega) (by omega)]; exact e
