/-! a law told -/
theorem RR_law {L : Nat} {xs : Nat → Int32} {h K : zm_H} (r : RR L xs h) (e1 : ∀ a, (a < 8 ∨ a = 9 ∨ (12 < a ∧ a < 45) ∨ (45 < a ∧ a < 57) ∨ 64 < a) → K.1 a = h.1 a) (e2 : ∀ b, (b < 15 ∨ b = 16 ∨ (18 < b ∧ b < 23) ∨ 26 < b) → K.1 45 b = h.1 45 b) (e3 : K.2 = h.2) (s1 : K.1 8 2 = 0) (s2 : K.1 45 15 = 0) (l : rL K) : RR L xs K := by
  obtain ⟨T, P, D, A, S, B, Q, W, N, C, T', Lw, G, I, Bd, Sh⟩ := r
  refine ⟨T, P, D, A, 0, B, Q, rW_d ?_ W, rN_d ?_ N, rC_d ?_ C, ⟨by omega, s1, s2, fun i hi => absurd hi (by omega)⟩, l, rG_d ?_ G, rI_d ?_ I, rB_d ?_ Bd, rS_d ?_ Sh⟩
  · simp (disch := omega) only [dW, e1, and_self]
  · simp (disch := omega) only [dN, e1, e2, and_self]
  · simp (disch := omega) only [dC, e1, e2, and_self]
  · simp (disch := omega) only [dG, e1, and_self]
  · simp (disch := omega) only [dI, e1, e2, and_self]
  · simp (disch := omega) only [dB, e1, e2, and_self]
  · simp (disch := omega) only [dS, e1, e3, and_self]
theorem K_law (d : Nat) {L : Nat} {xs : Nat → Int32} {h : zm_H} (r : RR L xs h) : okC L xs (fE_law (d + 92)) (fM_law (d + 92)) h := by
  have r0 := r
  obtain ⟨T, P, D, A, S, B, Q, W, N, C, T', Lw, G, I, Bd, Sh⟩ := r
  obtain ⟨hS, t1, t2, t3⟩ := T'
  have GO := tx_ok (f := h.1 9) (S := S) (S + 1) 0 [] (by omega) (by simp [lcl]) (by simp) (fun x hx => absurd hx (by simp))
  obtain ⟨K, k1, k2, k3, k4, k5⟩ := lawC d hS t1 (S + 1) (Nat.le_refl _)
  have hM := fM_law_eq (d + 46 + 45) K
  have RM := textM (d + 46) (f := h.1 9) (S := S) (h0 := K) (S + 1) 0 [] (zm_ui (zm_ui (zm_ui (zm_ui K 45 23 0) 45 24 0) 45 25 0) 45 26 0) (by omega) (by omega) (by simp [tkn]) (by simp) ⟨hS, by rw [ui_k (by omega), ui_k (by omega), ui_k (by omega), ui_k (by omega), k1 45 (by omega) (by omega) (by omega) (by omega)]; exact t2, fun i hi => by rw [ui_c (by omega), ui_c (by omega), ui_c (by omega), ui_c (by omega), k1 56 (by omega) (by omega) (by omega) (by omega)]; exact (t3 i hi).1.symm, by rw [ui_k (by omega), ui_k (by omega), ui_k (by omega), ui_s]; rfl, by rw [ui_k (by omega), ui_k (by omega), ui_s]; rfl, by rw [ui_k (by omega), ui_s]; rfl⟩ (by rw [ui_s]; rfl) (frX_t (frX_t (frX_t (frX_4 _ (b := 23) (by omega) _) (frX_4 _ (b := 24) (by omega) _)) (frX_4 _ (b := 25) (by omega) _)) (frX_4 _ (b := 26) (by omega) _)) trivial
  obtain ⟨M, m1, m2⟩ := RM
  generalize tx (h.1 9) S (S + 1) 0 [] = res at GO k5 m2
  obtain ⟨q, t⟩ := res
  obtain ⟨g1, g2⟩ := GO
  have g1 : q ≤ S := g1
  cases t with
  | none =>
    simp only at k5 m2
    obtain ⟨j1, j2, j3⟩ := k5
    refine ⟨_, K, _, j1, hM.trans m2, RR_law r0 (fun a ha => ?_) (fun b hb => ?_) ?_ ?_ ?_ ?_⟩
    · rw [ui_f (by omega), m1.1 a (by omega) (by omega)]; exact k1 a (by omega) (by omega) (by omega) (by omega)
    · rw [ui_k (by omega), m1.2.1 b (by omega), k1 45 (by omega) (by omega) (by omega) (by omega)]
    · rw [ui_2, m1.2.2]; exact k3
    · rw [ui_c (by omega), m1.1 8 (by omega) (by omega)]; exact k4
    · exact ui_s _ _ _ _
    · refine rL_d ⟨?_, ?_, ?_, ?_, ?_, ?_, ?_, ?_⟩ Lw
      · rw [ui_k (by omega), m1.2.1 17 (by omega), k1 45 (by omega) (by omega) (by omega) (by omega)]
      · rw [ui_k (by omega), m1.2.1 18 (by omega), k1 45 (by omega) (by omega) (by omega) (by omega)]
      · rw [ui_c (by omega), m1.1 11 (by omega) (by omega)]; exact j2
      · rw [ui_f (by omega), m1.1 12 (by omega) (by omega)]; exact j3
      · rw [ui_f (by omega), m1.1 57 (by omega) (by omega)]; exact k1 57 (by omega) (by omega) (by omega) (by omega)
      · rw [ui_f (by omega), m1.1 58 (by omega) (by omega)]; exact k1 58 (by omega) (by omega) (by omega) (by omega)
      · rw [ui_f (by omega), m1.1 59 (by omega) (by omega)]; exact k1 59 (by omega) (by omega) (by omega) (by omega)
      · rw [ui_f (by omega), m1.1 60 (by omega) (by omega)]; exact k1 60 (by omega) (by omega) (by omega) (by omega)
  | some R =>
    simp only at k5 m2
    obtain ⟨j1, j2, j3⟩ := k5
    obtain ⟨n1, n2, n3, n4⟩ := m2
    obtain ⟨g3, g4, g5, g6⟩ := g2 R rfl
    have n4 : tkn R ≤ q := n4
    obtain ⟨H1, hH⟩ : ∃ H1 : zm_H, H1 = zm_ui (zm_ui (zm_ui M 45 15 0) 45 17 1) 45 18 (iN R.length) := ⟨_, rfl⟩
    rw [← hH] at n1
    have x18 : H1.1 45 18 = iN R.length := by rw [hH, ui_s]
    have x25 : H1.1 45 25 = iN (tkn R) := by rw [hH, ui_k (by omega), ui_k (by omega), ui_k (by omega)]; exact n3
    have x15 : H1.1 45 15 = 0 := by rw [hH, ui_k (by omega), ui_k (by omega), ui_s]
    have x17 : H1.1 45 17 = 1 := by rw [hH, ui_k (by omega), ui_s]
    have xa : ∀ a, a ≠ 45 → H1.1 a = M.1 a := fun a ha => by rw [hH, ui_f ha, ui_f ha, ui_f ha]
    have xb : ∀ b, b ≠ 15 → b ≠ 17 → b ≠ 18 → H1.1 45 b = M.1 45 b := fun b h1 h2 h3 => by rw [hH, ui_k h3, ui_k h2, ui_k h1]
    have x2 : H1.2 = M.2 := by rw [hH, ui_2, ui_2, ui_2]
    obtain ⟨K1, u1, u2, u3, u4, -⟩ := copyM (d + 46 + 45) (N := R.length) (by omega) R.length 0 H1 (by omega) x18
    obtain ⟨K2, v1, v2, v3, v4, -⟩ := copyT (d + 46 + 45) (N := tkn R) (by omega) (tkn R) 0 K1 (by omega) (by rw [u2 45 (by omega) (by omega) (by omega)]; exact x25)
    have f0 : ∀ a, a ≠ 57 → a ≠ 58 → a ≠ 59 → a ≠ 60 → K2.1 a = H1.1 a := fun a h1 h2 h3 h4 => (v2 a h4).trans (u2 a h1 h2 h3)
    refine ⟨1, K, K2, j1, hM.trans (n1.trans (u1.trans v1)), RR_law r0 (fun a ha => ?_) (fun b hb => ?_) ?_ ?_ ?_ ?_⟩
    · rw [f0 a (by omega) (by omega) (by omega) (by omega), xa a (by omega), m1.1 a (by omega) (by omega)]; exact k1 a (by omega) (by omega) (by omega) (by omega)
    · rw [f0 45 (by omega) (by omega) (by omega) (by omega), xb b (by omega) (by omega) (by omega), m1.2.1 b (by omega), k1 45 (by omega) (by omega) (by omega) (by omega)]
    · rw [v3, u3, x2, m1.2.2]; exact k3
    · rw [f0 8 (by omega) (by omega) (by omega) (by omega), xa 8 (by omega), m1.1 8 (by omega) (by omega)]; exact k4
    · rw [f0 45 (by omega) (by omega) (by omega) (by omega)]; exact x15
    · refine Or.inr ⟨by rw [f0 45 (by omega) (by omega) (by omega) (by omega)]; exact x17, R, g3, by omega, by omega, ?_, ?_, by rw [f0 45 (by omega) (by omega) (by omega) (by omega)]; exact x18, ?_, g6⟩
      · rw [f0 11 (by omega) (by omega) (by omega) (by omega), xa 11 (by omega), m1.1 11 (by omega) (by omega)]; exact j2
      · rw [f0 12 (by omega) (by omega) (by omega) (by omega), xa 12 (by omega), m1.1 12 (by omega) (by omega)]; exact j3
      · refine lml_r (h := M) R 0 0 R.length (tkn R) (by omega) (by omega) (fun j hj => ?_) (fun j hj => ?_) n2
        · obtain ⟨w1, w2, w3⟩ := u4 j hj (by omega)
          rw [v2 57 (by omega), v2 58 (by omega), v2 59 (by omega), w1, w2, w3, xa 61 (by omega), xa 62 (by omega), xa 63 (by omega)]
          exact ⟨rfl, rfl, rfl⟩
        · rw [v4 j hj (by omega), u2 64 (by omega) (by omega) (by omega), xa 64 (by omega)]
