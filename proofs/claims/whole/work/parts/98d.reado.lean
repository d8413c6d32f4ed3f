/-! a law read: the class's level and operand -/
theorem reC_one {f : Nat → Int32} {S c p x : Nat} {h K : zm_H} {call : zm_R} (e : frP h K) (e3 : K.1 8 3 = iN p) (e4 : K.1 8 4 = iN c) (e10 : K.1 10 = h.1 10) (hc : call = some (some (.int 1), zm_ui (zm_ui K 10 c (cc x)) 8 4 (iN (c + 1)))) : reC f S c h call (p, some [x]) := by
  refine ⟨zm_ui (zm_ui K 10 c (cc x)) 8 4 (iN (c + 1)), frP_t e (frP_e _ _ _ _), by rw [ui_k (by omega), ui_c (by omega)]; exact e3, hc, ui_s _ _ _ _, ?_, ?_, trivial⟩
  · intro i hi; rw [ui_c (by omega), ui_k (by omega), e10]
  · rw [ui_c (by omega), ui_s]
theorem reC_un {f : Nat → Int32} {S c x D : Nat} {h h0 : zm_H} {call : zm_R} {r : Nat × Option (List Nat)} (R : reC f S c h call r) (fr : frP h0 h) (f10 : h.1 10 = h0.1 10) (hb : ∀ t, r.2 = some t → c + t.length < 128) : reC f S c h0 (zb_I call (fun v h17 => cond (decide (v = 0)) (some (some (.int 0), h17)) (zb_I (fRe_emit (D + 1) (cc x) h17) (fun v20 h19 => cond (decide (v20 = 0)) (some (some (.int 0), h19)) (some (some (.int 1), h19)))))) (un x r) := by
  obtain ⟨p, t⟩ := r
  obtain ⟨K, k1, k2, k3⟩ := R
  cases t with
  | none =>
    simp only at k3
    exact reC_none (frP_t fr k1) k2 (by rw [k3, bI, cT rfl])
  | some t =>
    obtain ⟨j1, j2, j3, j4⟩ := k3
    have := hb t rfl
    refine ⟨zm_ui (zm_ui K 10 (c + t.length) (cc x)) 8 4 (iN (c + t.length + 1)), frP_t (frP_t fr k1) (frP_e _ _ _ _), by rw [ui_k (by omega), ui_c (by omega)]; exact k2, ?_, ?_, ?_, atL_e j4 _⟩
    · rw [j1, bI, cF (by decide), emitC D _ j2 this, bI, cF (by decide)]
    · rw [ui_s, List.length_append, List.length_singleton, Nat.add_assoc]
    · intro i hi; rw [ui_c (by omega), ui_k (by omega), j3 i hi, f10]
theorem reC_id {f : Nat → Int32} {S c : Nat} {h : zm_H} {call : zm_R} {r : Nat × Option (List Nat)} (R : reC f S c h call r) : reC f S c h (zb_I call (fun v4 h3 => cond (cond (decide (v4 = 0)) true (decide (v4 = 1))) (some (some (.int v4), h3)) none)) r := by
  obtain ⟨p, t⟩ := r
  obtain ⟨K, k1, k2, k3⟩ := R
  cases t with
  | none => simp only at k3; exact ⟨K, k1, k2, by simp only; rw [k3]; rfl⟩
  | some t => exact ⟨K, k1, k2, by rw [k3.1]; rfl, k3.2⟩
theorem reC_br {f : Nat → Int32} {S c D : Nat} {h h0 : zm_H} {call : zm_R} {r : Nat × Option (List Nat)} (hS : S ≤ 120) (r2 : h.1 8 2 = iN S) (r9 : ∀ i, i < S → h.1 9 i = f i) (R : reC f S c h call r) (hp : r.1 ≤ S) (fr : frP h0 h) (f10 : h.1 10 = h0.1 10) : reC f S c h0 (zb_I call (fun v h21 => cond (decide (v = 0)) (some (some (.int 0), h21)) (zb_I (fRe_goesOnWith (D + 2) 41 h21) (fun v24 h23 => cond (decide (v24 = 0)) (some (some (.int 0), h23)) (some (some (.int 1), h23)))))) (br f S r) := by
  obtain ⟨p, t⟩ := r
  obtain ⟨K, k1, k2, k3⟩ := R
  cases t with
  | none =>
    simp only at k3
    exact reC_none (frP_t fr k1) k2 (by rw [k3, bI, cT rfl])
  | some t =>
    obtain ⟨j1, j2, j3, j4⟩ := k3
    have rK : rdS f S (c + t.length) p K := ⟨hS, by rw [k1.2.1 2 (by omega) (by omega)]; exact r2, fun i hi => by rw [k1.1 9 (by omega) (by omega)]; exact r9 i hi, k2, j2⟩
    have hG := goesC D 41 rK hp
    simp only [br]
    by_cases q : sgn f S p = 41
    · rw [if_pos q]
      rw [cT q] at hG
      refine ⟨zm_ui K 8 3 (iN (p + 1)), frP_t (frP_t fr k1) (frP_3 _ _), ui_s _ _ _ _, ?_, ?_, ?_, ?_⟩
      · rw [j1, bI, cF (by decide), hG, bI, cF (by decide)]
      · rw [ui_k (by omega)]; exact j2
      · intro i hi; rw [ui_c (by omega), j3 i hi, f10]
      · rw [ui_f (by omega)]; exact j4
    · rw [if_neg q]
      rw [cF q] at hG
      exact reC_none (frP_t fr k1) k2 (by rw [j1, bI, cF (by decide), hG, bI, cT rfl])
theorem cc_v (v : Nat) : cc (18 + v) = iN v := by
  rw [Nat.add_comm]; rfl
theorem readC (f : Nat → Int32) (S : Nat) : ∀ n, (∀ lvl o p c h d, 6 * (6 - o) + (6 - lvl) ≤ n → lvl ≤ 5 → o ≤ 6 → p ≤ S → c ≤ p → rdS f S c p h → reC f S c h (fRe_readLevel (d + 2 * n + 4) (iN lvl) (iN o) h) (pz f S n lvl o p)) ∧ (∀ o p c h d, 6 * (6 - o) + 1 ≤ n → o ≤ 6 → p ≤ S → c ≤ p → rdS f S c p h → reC f S c h (fRe_readOperand (d + 2 * n + 3) (iN o) h) (pz f S n 5 o p)) := by
  intro n
  induction n with
  | zero => exact ⟨fun lvl o p c h d h1 h2 => absurd h1 (by omega), fun o p c h d h1 => absurd h1 (by omega)⟩
  | succ n ih =>
    have A : ∀ o p c h d, 6 * (6 - o) + 1 ≤ n + 1 → o ≤ 6 → p ≤ S → c ≤ p → rdS f S c p h → reC f S c h (fRe_readOperand (d + 2 * (n + 1) + 3) (iN o) h) (pz f S (n + 1) 5 o p) := by
      intro o p c h d h1 h2 hp hc r
      have hS := r.1
      rw [pz, if_neg (by omega), show d + 2 * (n + 1) + 3 = d + 2 * n + 4 + 1 by omega, fRe_readOperand_eq, aheadC (d + 2 * n + 3) r hp, bI, isDigitC (d + 2 * n + 3), bI, zi_0]
      unfold opd
      cases qd : isD (sgn f S p)
      · rw [if_neg (by decide), Bool.not_false, Bool.cond_true, isNameC (d + 2 * n + 3), bI, zi_0]
        cases qn : nm (sgn f S p) with
        | some x =>
          obtain ⟨c1, c2, c3⟩ := nm_c qn
          have := sgn_lt c3
          rw [show (!(some x : Option Nat).isSome) = false from rfl, Bool.cond_false, r.2.2.2.1, iN_addr, ← c2, emitC (d + 2 * n + 3) _ (c := c) (by rw [ui_k (by omega)]; exact r.2.2.2.2) (by omega), bI]
          exact reC_one (K := zm_ui h 8 3 (iN (p + 1))) (frP_3 _ _) (ui_s _ _ _ _) (by rw [ui_k (by omega)]; exact r.2.2.2.2) (ui_f (by omega)) rfl
        | none =>
          rw [show (!(none : Option Nat).isSome) = true from rfl, Bool.cond_true]
          simp only []
          by_cases qo : o < 6
          · rw [if_pos qo, cT (by rw [show (6 : Int32) = iN 6 from rfl, iN_lt (by omega) (by omega)]; exact qo), goesC (d + 2 * n + 2) 40 r hp]
            by_cases q40 : sgn f S p = 40
            · have hs := sgn_lt (f := f) (S := S) (p := p) (by rw [q40]; decide)
              have r1 := rdS_3 r (q := p + 1)
              have G := pz_ok f S n 0 (o + 1) (p + 1) (by omega) (by omega) (by omega) (by omega)
              rw [cT q40, if_neg (by rw [q40]; decide), if_neg (by rw [q40]; decide), if_pos q40, bI, cF (by decide), iN_addr]
              exact reC_br (D := d + 2 * n + 2) hS r1.2.1 r1.2.2.1 (ih.1 0 (o + 1) (p + 1) c _ d (by omega) (by omega) (by omega) (by omega) (by omega) r1) G.1 (frP_3 _ _) (ui_f (by omega))
            · rw [cF q40, bI, cT rfl, goesC (d + 2 * n + 2) 33 r hp, if_neg q40]
              by_cases q33 : sgn f S p = 33
              · have hs := sgn_lt (f := f) (S := S) (p := p) (by rw [q33]; decide)
                have r1 := rdS_3 r (q := p + 1)
                have G := pz_ok f S n 5 (o + 1) (p + 1) (by omega) (by omega) (by omega) (by omega)
                rw [cT q33, if_pos q33, bI, cF (by decide), iN_addr]
                have R := ih.2 (o + 1) (p + 1) c _ (d + 1) (by omega) (by omega) (by omega) (by omega) r1
                rw [show d + 1 + 2 * n + 3 = d + 2 * n + 4 by omega] at R
                exact reC_un (D := d + 2 * n + 3) (x := 16) R (frP_3 _ _) (ui_f (by omega)) (fun t ht => by have := (G.2.2 t ht).2.1; have := G.1; omega)
              · rw [cF q33, bI, cT rfl, goesC (d + 2 * n + 2) 45 r hp, if_neg q33]
                by_cases q45 : sgn f S p = 45
                · have hs := sgn_lt (f := f) (S := S) (p := p) (by rw [q45]; decide)
                  have r1 := rdS_3 r (q := p + 1)
                  have G := pz_ok f S n 5 (o + 1) (p + 1) (by omega) (by omega) (by omega) (by omega)
                  rw [cT q45, if_pos q45, bI, cF (by decide), iN_addr]
                  have R := ih.2 (o + 1) (p + 1) c _ (d + 1) (by omega) (by omega) (by omega) (by omega) r1
                  rw [show d + 1 + 2 * n + 3 = d + 2 * n + 4 by omega] at R
                  exact reC_un (D := d + 2 * n + 3) (x := 17) R (frP_3 _ _) (ui_f (by omega)) (fun t ht => by have := (G.2.2 t ht).2.1; have := G.1; omega)
                · rw [cF q45, if_neg q45, bI, cT rfl]
                  exact reC_none (frP_r h) r.2.2.2.1 rfl
          · rw [if_neg qo, cF (by rw [show (6 : Int32) = iN 6 from rfl, iN_lt (by omega) (by omega)]; exact qo)]
            exact reC_none (frP_r h) r.2.2.2.1 rfl
      · rw [if_pos rfl, Bool.not_true, Bool.cond_false, fRe_number_eq]
        obtain ⟨K, k1, k2, k3, k4, k5⟩ := numC (d + 2 * n + 2) 4 p 0 h (by omega) hp r
        have n1 := num_ok f S 4 p 0 hp
        rw [show fRe_number_c4 (d + 2 * n + 3 + 1) 0 0 h = some (some (.int (iN (num f S 4 p 0).2)), K) from k1, bI, ← cc_v, emitC (d + 2 * n + 3) _ k3 (by omega), bI]
        exact reC_one k4 k2 k3 k5 rfl
    refine ⟨?_, A⟩
    intro lvl o p c h d h1 h2 h3 hp hc r
    have hS := r.1
    rw [show d + 2 * (n + 1) + 4 = d + 2 * n + 5 + 1 by omega, fRe_readLevel_eq]
    by_cases q : lvl < 5
    · rw [cT (by rw [show (5 : Int32) = iN 5 from rfl, iN_lt (by omega) (by omega)]; exact q), pz, if_pos q, iN_addr]
      have R := ih.1 (lvl + 1) o p c h (d + 1) (by omega) (by omega) h3 hp hc r
      have G := pz_ok f S n (lvl + 1) o p (by omega) (by omega) h3 hp
      rw [show d + 1 + 2 * n + 4 = d + 2 * n + 5 by omega] at R
      have sub : ∀ p c h, p ≤ S → c ≤ p → rdS f S c p h → reC f S c h (fRe_readLevel (d + 2 * n + 3 + 2) (iN lvl + 1) (iN o) h) (pz f S n (lvl + 1) o p) := by
        intro p c h hp hc r
        have R := ih.1 (lvl + 1) o p c h (d + 1) (by omega) (by omega) h3 hp hc r
        rw [show d + 1 + 2 * n + 4 = d + 2 * n + 3 + 2 by omega] at R
        rw [iN_addr]; exact R
      have gg : ∀ p, p ≤ S → okP S (5 * (6 - o) + (5 - (lvl + 1)) + 1) p (pz f S n (lvl + 1) o p) := fun p hp => pz_ok f S n (lvl + 1) o p (by omega) (by omega) h3 hp
      have lp := fun k => loopC (d + 2 * n + 3) lvl o (by omega) gg sub (h0 := h) (c0 := c) k 0
      generalize pz f S n (lvl + 1) o p = res at R G
      obtain ⟨p1, t⟩ := res
      obtain ⟨K, k1, k2, k3⟩ := R
      cases t with
      | none =>
        simp only at k3
        exact reC_none k1 k2 (by rw [k3, bI, cN, cT rfl])
      | some t =>
        obtain ⟨j1, j2, j3, j4⟩ := k3
        obtain ⟨g1, g2, g3⟩ := G
        obtain ⟨g4, g5, g6, g7⟩ := g3 t rfl
        simp only at g1 g2 g5 k2
        rw [j1, bI, cN, cF (by decide), cN]
        by_cases q2 : lvl = 2
        · have L := lp 1 p1 t K (by omega) g1 (by omega) (rdS_P r k1 k2 j2) k1 j3 j4
          rw [cT (by rw [q2]; rfl)]
          simp only [q2, if_true] at L ⊢
          exact L
        · have L := lp 120 p1 t K (by omega) g1 (by omega) (rdS_P r k1 k2 j2) k1 j3 j4
          rw [cF (by rw [show (2 : Int32) = iN 2 from rfl, iN_eq (by omega) (by omega)]; exact q2)]
          simp only [q2, if_false]
          exact L
    · obtain rfl : lvl = 5 := by omega
      rw [cF (by decide)]
      have R := A o p c h d (by omega) h3 hp hc r
      rw [show d + 2 * (n + 1) + 3 = d + 2 * n + 5 by omega] at R
      exact reC_id R
