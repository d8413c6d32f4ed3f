/-! a law read: the reference's operand -/
theorem numM (D : Nat) {f : Nat → Int32} {S c o : Nat} : ∀ (k p v : Nat) (h : zm_H), k ≤ 4 → p ≤ S → mdS f S c o p h → ∃ K, fM_isO_c11 (D + 3) (iN v) (iN (4 - k)) h = zb_I (fM_codes (D + 2) (18 + iN (num f S k p v).2) K) (fun v2 h1 => cond (cond (decide (v2 = 0)) true (decide (v2 = 1))) (some (some (.int v2), h1)) none) ∧ mdS f S c o (num f S k p v).1 K ∧ frN h K ∧ K.1 64 = h.1 64 := by
  intro k
  induction k with
  | zero =>
    intro p v h hk hp r
    refine ⟨h, ?_, r, frN_r h, rfl⟩
    rw [fM_isO_c11_eq, cT (by decide)]; rfl
  | succ k ih =>
    intro p v h hk hp r
    rw [fM_isO_c11_eq, cF (by rw [show (4 : Int32) = iN 4 from rfl, iN_le (by omega) (by omega)]; omega), isDigitM D r hp, bI, zi_0, num]
    cases q : isD (sgn f S p)
    · exact ⟨h, rfl, r, frN_r h, rfl⟩
    · obtain ⟨w, hw, e⟩ := isD_v q
      have hs := sgn_d q
      have hS := r.1
      have ef : sgn f S p = f p := if_pos hs
      obtain ⟨K, k1, k2, k3, k4⟩ := ih (p + 1) (10 * v + (48 + w - 48)) (zm_ui h 45 23 (iN (p + 1))) (by omega) (by omega) (mdS_3 r)
      rw [e, iN_c (by omega), if_pos rfl]
      refine ⟨K, ?_, k2, frN_t (frN_u _ (by omega) _) k3, by rw [k4, ui_f (by omega)]⟩
      rw [Bool.not_true, Bool.cond_false, r.2.2.2.1, gR_56 (by omega), iN_c (by omega), r.2.2.1 p hs, ← ef, e, Bool.cond_true, iN_addr, iN_addr, iN_mull, iN_add, iN_subr (by omega : 48 ≤ _)]
      rw [show 10 * v + (48 + w) - 48 = 10 * v + (48 + w - 48) by omega, show 4 - (k + 1) + 1 = 4 - k by omega]
      exact k1
theorem reM_one {c o p x : Nat} {h K : zm_H} {call : zm_R} (e : frN h K) (e3 : K.1 45 23 = iN p) (e4 : K.1 45 24 = iN o) (e10 : K.1 64 = h.1 64) (hc : call = some (some (.int 1), zm_ui (zm_ui K 45 25 (iN (c + 1))) 64 c (iN x))) : reM c o h call (p, some [x]) := by
  refine ⟨zm_ui (zm_ui K 45 25 (iN (c + 1))) 64 c (iN x), frN_t e (frN_e _ _ _ _), by rw [ui_c (by omega), ui_k (by omega)]; exact e3, hc, by rw [ui_c (by omega), ui_s]; rfl, by rw [ui_c (by omega), ui_k (by omega)]; exact e4, ?_, ?_, trivial⟩
  · intro i hi; rw [ui_k (by omega), ui_c (by omega), e10]
  · rw [ui_s]
theorem reM_un {c o x D : Nat} {h h0 : zm_H} {call : zm_R} {r : Nat × Option (List Nat)} (R : reM c (o + 1) h call r) (fr : frN h0 h) (f10 : h.1 64 = h0.1 64) (hb : ∀ t, r.2 = some t → c + t.length < 128) : reM c o h0 (zb_I call (fun v h17 => cond (decide (v = 0)) (some (some (.int 0), zm_ui h17 45 24 (h17.1 45 24 - 1))) (zb_I (fM_codes (D + 1) (iN x) h17) (fun v20 h19 => cond (decide (v20 = 0)) (some (some (.int 0), zm_ui h19 45 24 (h19.1 45 24 - 1))) (some (some (.int 1), zm_ui h19 45 24 (h19.1 45 24 - 1))))))) (un x r) := by
  obtain ⟨p, t⟩ := r
  obtain ⟨K, k1, k2, k3⟩ := R
  cases t with
  | none =>
    simp only at k3 k2
    exact reM_n (frN_t (frN_t fr k1) (frN_u K (b := 24) (by omega) (K.1 45 24 - 1))) (by rw [ui_k (by omega)]; exact k2) (by rw [k3, bI, cT rfl])
  | some t =>
    obtain ⟨j1, j2, j5, j3, j4⟩ := k3
    have hb := hb t rfl
    simp only at k2
    refine ⟨zm_ui (zm_ui (zm_ui K 45 25 (iN (c + t.length + 1))) 64 (c + t.length) (iN x)) 45 24 (iN o), frN_t (frN_t (frN_t fr k1) (frN_e _ _ _ _)) (frN_u _ (by omega) _), by rw [ui_k (by omega), ui_c (by omega), ui_k (by omega)]; exact k2, ?_, ?_, ui_s _ _ _ _, ?_, ?_⟩
    · rw [j1, bI, cF (by decide), codesM D _ j2 (by omega), bI, cF (by decide), ui_c (by omega), ui_k (by omega), j5, iN_subr (show 1 ≤ o + 1 by omega)]; rfl
    · rw [ui_k (by omega), ui_c (by omega), ui_s, List.length_append, List.length_singleton, Nat.add_assoc]
    · intro i hi; rw [ui_c (by omega), ui_k (by omega), ui_c (by omega), j3 i hi, f10]
    · rw [List.map_append, atL_app, List.length_map]
      refine ⟨atL_k _ _ (fun i h1 h2 => ?_) j4, ?_, trivial⟩
      · rw [List.length_map] at h2
        rw [ui_c (by omega), ui_k (by omega), ui_c (by omega)]
      · rw [ui_c (by omega), ui_s]
theorem reM_br {f : Nat → Int32} {S c o D : Nat} {h h0 : zm_H} {call : zm_R} {r : Nat × Option (List Nat)} (hS : S ≤ 120) (r2 : h.1 45 15 = iN S) (r9 : ∀ i, i < S → h.1 56 i = f i) (R : reM c (o + 1) h call r) (hp : r.1 ≤ S) (fr : frN h0 h) (f10 : h.1 64 = h0.1 64) : reM c o h0 (zb_I call (fun v h21 => cond (decide (v = 0)) (some (some (.int 0), zm_ui h21 45 24 (h21.1 45 24 - 1))) (zb_I (fM_is (D + 2) 41 h21) (fun v24 h23 => cond (decide (v24 = 0)) (some (some (.int 0), zm_ui h23 45 24 (h23.1 45 24 - 1))) (some (some (.int 1), zm_ui h23 45 24 (h23.1 45 24 - 1))))))) (br f S r) := by
  obtain ⟨p, t⟩ := r
  obtain ⟨K, k1, k2, k3⟩ := R
  cases t with
  | none =>
    simp only at k3 k2
    exact reM_n (frN_t (frN_t fr k1) (frN_u K (b := 24) (by omega) (K.1 45 24 - 1))) (by rw [ui_k (by omega)]; exact k2) (by rw [k3, bI, cT rfl])
  | some t =>
    obtain ⟨j1, j2, j5, j3, j4⟩ := k3
    simp only at k2 hp
    have rK : mdS f S (c + t.length) (o + 1) p K := ⟨hS, by rw [k1.2.1 15 (by omega) (by omega) (by omega)]; exact r2, fun i hi => by rw [k1.1 56 (by omega) (by omega)]; exact r9 i hi, k2, j5, j2⟩
    have hG := isM D 41 rK hp
    simp only [br]
    by_cases q : sgn f S p = 41
    · rw [if_pos q]
      rw [cT q] at hG
      refine ⟨zm_ui (zm_ui K 45 23 (iN (p + 1))) 45 24 (iN o), frN_t (frN_t (frN_t fr k1) (frN_u _ (by omega) _)) (frN_u _ (by omega) _), by rw [ui_k (by omega), ui_s], ?_, ?_, ui_s _ _ _ _, ?_, ?_⟩
      · rw [j1, bI, cF (by decide), hG, bI, cF (by decide), ui_k (by omega), j5, iN_subr (show 1 ≤ o + 1 by omega)]; rfl
      · rw [ui_k (by omega), ui_k (by omega)]; exact j2
      · intro i hi; rw [ui_c (by omega), ui_c (by omega), j3 i hi, f10]
      · rw [ui_f (by omega), ui_f (by omega)]; exact j4
    · rw [if_neg q]
      rw [cF q] at hG
      exact reM_n (frN_t (frN_t fr k1) (frN_u K (b := 24) (by omega) (K.1 45 24 - 1))) (by rw [ui_k (by omega)]; exact k2) (by rw [j1, bI, cF (by decide), hG, bI, cT rfl])
