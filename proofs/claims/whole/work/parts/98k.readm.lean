/-! a law read: the reference reads alike -/
theorem readM (f : Nat → Int32) (S : Nat) : ∀ n lvl o p c h d, 6 * (6 - o) + (6 - lvl) ≤ n → lvl ≤ 5 → o ≤ 6 → p ≤ S → c ≤ p → mdS f S c o p h → reM c o h (lvM lvl (d + n + 2) h) (pz f S n lvl o p) := by
  intro n
  induction n with
  | zero => intro lvl o p c h d h1 h2; omega
  | succ n ih =>
    intro lvl o p c h d h1 h2 h3 hp hc r
    have hS := r.1
    by_cases q : lvl < 5
    · rw [pz, if_pos q, show d + (n + 1) + 2 = d + n + 3 by omega, lvM_s (d + n) q]
      have R := ih (lvl + 1) o p c h d (by omega) (by omega) h3 hp hc r
      have G := pz_ok f S n (lvl + 1) o p (by omega) (by omega) h3 hp
      have sub : ∀ p c h, p ≤ S → c ≤ p → mdS f S c o p h → reM c o h (lvM (lvl + 1) (d + n + 2) h) (pz f S n (lvl + 1) o p) := fun p c h hp hc r => ih (lvl + 1) o p c h d (by omega) (by omega) h3 hp hc r
      have gg : ∀ p, p ≤ S → okP S (5 * (6 - o) + (5 - (lvl + 1)) + 1) p (pz f S n (lvl + 1) o p) := fun p hp => pz_ok f S n (lvl + 1) o p (by omega) (by omega) h3 hp
      have lp := fun k => loopM (D := d + n + 1) (okR S lvl) (fun k p q => okR_s) (fun p c h ok hp r => lpM_z (d + n) q ok hp r) (fun k p c h ok hp r => lpM_s (d + n) q ok hp r) gg sub (h0 := h) (c0 := c) k
      generalize pz f S n (lvl + 1) o p = res at R G
      obtain ⟨p1, t⟩ := res
      obtain ⟨K, k1, k2, k3⟩ := R
      cases t with
      | none =>
        simp only at k3
        exact reM_n k1 k2 (by rw [k3, bI, cN, cT rfl])
      | some t =>
        obtain ⟨j1, j2, j5, j3, j4⟩ := k3
        obtain ⟨g1, g2, g3⟩ := G
        obtain ⟨g4, g5, g6, g7⟩ := g3 t rfl
        simp only at g1 g2 g5 k2
        rw [j1, bI, cN, cF (by decide)]
        exact lp (rep lvl) p1 t K (okR_0 hS) g1 (by omega) (mdS_P r k1 k2 j5 j2) k1 j3 j4
    · obtain rfl : lvl = 5 := by omega
      rw [pz, if_neg (by omega)]
      show reM c o h (fM_isO (d + n + 2 + 1) h) (opd (pz f S n) f S o p)
      rw [fM_isO_eq, isDigitM (d + n) r hp, bI, zi_0]
      unfold opd
      cases qd : isD (sgn f S p)
      · rw [if_neg (by decide), Bool.not_false, Bool.cond_true, signM (d + n + 1) r hp, bI, nameM (d + n + 1), bI]
        cases qn : nm (sgn f S p) with
        | some x =>
          obtain ⟨c1, c2, c3⟩ := nm_c qn
          have := sgn_lt c3
          have hn : nmo (sgn f S p) = iN x := by unfold nmo; rw [qn]
          rw [hn, cF (iN_lt0 (by omega)), r.2.2.2.1, iN_addr, codesM (d + n + 1) _ (c := c) (by rw [ui_k (by omega)]; exact r.2.2.2.2.2) (by omega), bI]
          exact reM_one (K := zm_ui h 45 23 (iN (p + 1))) (frN_u _ (by omega) _) (ui_s _ _ _ _) (by rw [ui_k (by omega)]; exact r.2.2.2.2.1) (ui_f (by omega)) rfl
        | none =>
          have hn : nmo (sgn f S p) = -1 := by unfold nmo; rw [qn]
          rw [hn, cT (by decide), r.2.2.2.2.1, cN]
          simp only []
          by_cases qo : o < 6
          · have r4 := mdS_4 r (q := o + 1)
            rw [if_pos qo, cF (by rw [show (6 : Int32) = iN 6 from rfl, iN_eq (by omega) (by omega)]; omega), iN_addr, isM (d + n) 33 r4 hp]
            by_cases q33 : sgn f S p = 33
            · have hs := sgn_lt (f := f) (S := S) (p := p) (by rw [q33]; decide)
              have G := pz_ok f S n 5 (o + 1) (p + 1) (by omega) (by omega) (by omega) (by omega)
              rw [cT q33, if_pos q33, bI, cF (by decide)]
              exact reM_un (D := d + n + 1) (x := 16) (ih 5 (o + 1) (p + 1) c _ d (by omega) (by omega) (by omega) (by omega) (by omega) (mdS_3 r4)) (frN_t (frN_u h (b := 24) (by omega) (iN (o + 1))) (frN_u _ (b := 23) (by omega) _)) (by rw [ui_f (by omega), ui_f (by omega)]) (fun t ht => by have := (G.2.2 t ht).2.1; have := G.1; omega)
            · rw [cF q33, bI, cT rfl, isM (d + n) 45 r4 hp, if_neg q33]
              by_cases q45 : sgn f S p = 45
              · have hs := sgn_lt (f := f) (S := S) (p := p) (by rw [q45]; decide)
                have G := pz_ok f S n 5 (o + 1) (p + 1) (by omega) (by omega) (by omega) (by omega)
                rw [cT q45, if_pos q45, bI, cF (by decide)]
                exact reM_un (D := d + n + 1) (x := 17) (ih 5 (o + 1) (p + 1) c _ d (by omega) (by omega) (by omega) (by omega) (by omega) (mdS_3 r4)) (frN_t (frN_u h (b := 24) (by omega) (iN (o + 1))) (frN_u _ (b := 23) (by omega) _)) (by rw [ui_f (by omega), ui_f (by omega)]) (fun t ht => by have := (G.2.2 t ht).2.1; have := G.1; omega)
              · rw [cF q45, bI, cT rfl, isM (d + n) 40 r4 hp, if_neg q45]
                by_cases q40 : sgn f S p = 40
                · have hs := sgn_lt (f := f) (S := S) (p := p) (by rw [q40]; decide)
                  have G := pz_ok f S n 0 (o + 1) (p + 1) (by omega) (by omega) (by omega) (by omega)
                  have r5 := mdS_3 r4 (q := p + 1)
                  rw [cT q40, if_pos q40, bI, cF (by decide)]
                  exact reM_br (D := d + n) hS r5.2.1 r5.2.2.1 (ih 0 (o + 1) (p + 1) c _ d (by omega) (by omega) (by omega) (by omega) (by omega) r5) G.1 (frN_t (frN_u h (b := 24) (by omega) (iN (o + 1))) (frN_u _ (b := 23) (by omega) _)) (by rw [ui_f (by omega), ui_f (by omega)])
                · rw [cF q40, bI, cT rfl, if_neg q40]
                  exact reM_n (frN_t (frN_u h (b := 24) (by omega) (iN (o + 1))) (frN_u _ (b := 24) (by omega) _)) (by rw [ui_k (by omega), ui_k (by omega)]; exact r.2.2.2.1) rfl
          · rw [if_neg qo, cT (by rw [show (6 : Int32) = iN 6 from rfl, iN_eq (by omega) (by omega)]; omega)]
            exact reM_n (frN_r h) r.2.2.2.1 rfl
      · rw [if_pos rfl, Bool.not_true, Bool.cond_false]
        obtain ⟨K, k1, k2, k3, k4⟩ := numM (d + n) 4 p 0 h (by omega) hp r
        rw [show fM_isO_c11 (d + n + 2 + 1) 0 0 h = _ from k1, iN_addl, codesM (d + n + 1) _ k2.2.2.2.2.2 (by omega), bI]
        exact reM_one k3 k2.2.2.2.1 k2.2.2.2.2.1 k4 rfl
