/-! tieOn, drawn -/
theorem K_tieOn (d : Nat) {L : Nat} {xs : Nat → Int32} {h : zm_H} (r : RR L xs h) (a b : Int32) : okC L xs (fE_tieOn (d + 20) a b) (fM_tieOn (d + 20) a b) h := by
  have r0 := r
  obtain ⟨T, P, D, A, S, B, Q, W, N, C, T', Lw, G, I, Bd, Sh⟩ := r
  have N0 := N
  obtain ⟨⟨hT, hP, n1, n2, n3, n4⟩, N1, N2, N3⟩ := N
  obtain ⟨lw, l1, l2⟩ := rL_lw Lw
  cases q : tkB T a
  · refine okC_same r0 (-2000000000) ?_ ?_
    · rw [fE_tieOn_eq, tkE (d + 16) a n1 n3, q, bI, cT (by decide)]
    · rw [fM_tieOn_eq, tkM (d + 16) hT a n2, q, bI, cT (by decide)]
  · obtain ⟨t, k, ht, hk, e1, e2⟩ := tk_ex hT q
    cases q2 : (decide (0 ≤ b) && decide (b ≤ 200))
    · refine okC_same r0 (-2000000000) ?_ ?_
      · rw [fE_tieOn_eq, tkE (d + 16) a n1 n3, q, bI, cF (by decide), isBeginning_s, q2, bI, cN, cT (by decide)]
      · rw [fM_tieOn_eq, tkM (d + 16) hT a n2, q, bI, cF (by decide), isPlace_s, q2, bI, cN, cT (by decide)]
    · obtain ⟨K, k1, k2, k3⟩ := hung_s (d + 14) e1 e2 hT hP n1 n3 ht hk
      obtain ⟨K2, c1, c2⟩ := clothC (d + 15) (frH_lwC k3 l1) k2 b
      have f2 := frH_t k3 (frH_C c2)
      have E2 := cE_f c2 k2
      generalize hbr : b - clo lw (gOf h t k) b = br at *
      generalize hrg : rgt (gOf h t k) b br = rg at *
      have K2_1 : K2.1 1 = h.1 1 := f2.1 1 (by omega) (by omega) (by omega)
      have K2_2 : K2.1 2 = h.1 2 := f2.1 2 (by omega) (by omega) (by omega)
      have K2_23 : K2.1 23 = h.1 23 := f2.1 23 (by omega) (by omega) (by omega)
      -- the class
      have hE : fE_tieOn (d + 20) a b h = some (some (.int br), zm_ui (zm_ui (zm_ui (zm_ui (zm_ui K2 23 2 (h.1 23 2 + 1)) 23 3 (h.1 23 3 + zi rg)) 23 5 br) 2 (4 * 8 + t) (zm_min 99 (h.1 2 (4 * 8 + t) + 1))) 2 (12 * 8 + t) (h.1 2 (12 * 8 + t) + 1)) := by
        have E3 : cE (gOf h t k) (zm_ui K2 23 2 (h.1 23 2 + 1)) := fun i h1 h2 => by rw [ui_c (by omega)]; exact E2 i h1 h2
        have rr : fHa_isRight (d + 19) b br (zm_ui K2 23 2 (h.1 23 2 + 1)) = some (some (.int (zi rg)), zm_ui K2 23 2 (h.1 23 2 + 1)) := by
          rw [rightC (d + 17) E3, hrg]
        rw [fE_tieOn_eq, tkE (d + 16) a n1 n3, q, bI, cF (by decide), isBeginning_s, q2, bI, cN, cF (by decide), k1, bQ, c1, bI, hbr, K2_23, rr, bI, zi_0]
        have fin : ∀ (y : Int32), zb_I (fNu_read (d + 19) 4 (a / 10) (zm_ui (zm_ui (zm_ui K2 23 2 (h.1 23 2 + 1)) 23 3 y) 23 5 br)) (fun v11 h10 =>
     zb_V (fNu_write (d + 19) (4 : Int32) (a / (10 : Int32)) (zm_min (99 : Int32) (v11 + (1 : Int32))) h10) (fun h12 =>
     zb_I (fNu_read (d + 19) (12 : Int32) (a / (10 : Int32)) h12) (fun v14 h13 =>
     zb_V (fNu_write (d + 19) (12 : Int32) (a / (10 : Int32)) (v14 + (1 : Int32)) h13) (fun h15 =>
     some (some (.int br), h15))))) = some (some (.int br), zm_ui (zm_ui (zm_ui (zm_ui (zm_ui K2 23 2 (h.1 23 2 + 1)) 23 3 y) 23 5 br) 2 (4 * 8 + t) (zm_min 99 (h.1 2 (4 * 8 + t) + 1))) 2 (12 * 8 + t) (h.1 2 (12 * 8 + t) + 1)) := by
          intro y
          rw [e1, read_s (d + 16) (T := T) (P := P) hT (by omega) (by simp (disch := omega) only [ui_c, K2_1]; exact n1) (by simp (disch := omega) only [ui_c, K2_1]; exact n3) (x := 4) (w := 4) rfl (by omega) ht, bI]
          rw [write_s (d + 16) (T := T) (P := P) hT (by omega) (by simp (disch := omega) only [ui_c, K2_1]; exact n1) (by simp (disch := omega) only [ui_c, K2_1]; exact n3) (x := 4) (w := 4) rfl (by omega) ht, bV]
          rw [read_s (d + 16) (T := T) (P := P) hT (by omega) (by simp (disch := omega) only [ui_c, K2_1]; exact n1) (by simp (disch := omega) only [ui_c, K2_1]; exact n3) (x := 12) (w := 12) rfl (by omega) ht, bI]
          rw [write_s (d + 16) (T := T) (P := P) hT (by omega) (by simp (disch := omega) only [ui_c, K2_1]; exact n1) (by simp (disch := omega) only [ui_c, K2_1]; exact n3) (x := 12) (w := 12) rfl (by omega) ht, bV]
          simp (disch := omega) only [ui_c, ui_k, K2_2]
        have e23 : (zm_ui K2 23 2 (h.1 23 2 + 1)).1 23 3 = h.1 23 3 := by rw [ui_k (by omega), K2_23]
        cases rg
        · rw [Bool.not_false, Bool.cond_true, e23]; exact fin _
        · rw [Bool.not_true, Bool.cond_false, e23]; exact fin _
      -- the reference
      have w4 := N2 4 t (by omega) ht
      have p50 : h.1 50 t = h.1 2 (4 * 8 + t) := N1 4 t (by omega) ht
      have p51 : h.1 51 t = h.1 2 (12 * 8 + t) := N1 12 t (by omega) ht
      have G0 := G
      obtain ⟨g1, g2, g3, g4⟩ := G
      generalize hX : zm_ui (zm_ui (zm_ui (zm_ui (zm_ui K2 23 2 (h.1 23 2 + 1)) 23 3 (h.1 23 3 + zi rg)) 23 5 br) 2 (4 * 8 + t) (zm_min 99 (h.1 2 (4 * 8 + t) + 1))) 2 (12 * 8 + t) (h.1 2 (12 * 8 + t) + 1) = X at hE
      have xa : ∀ y, y ≠ 2 → y ≠ 11 → y ≠ 13 → y ≠ 14 → y ≠ 23 → X.1 y = h.1 y := by
        intro y y1 y2 y3 y4 y5
        rw [← hX]; simp (disch := omega) only [ui_f]; exact f2.1 y y2 y3 y4
      have x11 : ∀ y, y ≠ 3 → X.1 11 y = h.1 11 y := by
        intro y y1
        rw [← hX]; simp (disch := omega) only [ui_c]; exact f2.2.1 y y1
      have x23 : X.1 23 2 = h.1 23 2 + 1 ∧ X.1 23 3 = h.1 23 3 + zi rg ∧ X.1 23 4 = h.1 23 4 ∧ X.1 23 5 = br := by
        rw [← hX]; simp (disch := omega) only [ui_s, ui_c, ui_k, K2_23, and_self]
      have x2 : X.1 2 (4 * 8 + t) = zm_min 99 (h.1 2 (4 * 8 + t) + 1) ∧ X.1 2 (12 * 8 + t) = h.1 2 (12 * 8 + t) + 1 ∧ ∀ y, y ≠ 4 * 8 + t → y ≠ 12 * 8 + t → X.1 2 y = h.1 2 y := by
        rw [← hX]
        refine ⟨by simp (disch := omega) only [ui_s, ui_k], by simp (disch := omega) only [ui_s, ui_k], fun y y1 y2 => ?_⟩
        simp (disch := omega) only [ui_k, ui_c, K2_2]
      have x0 : X.2 = h.2 := by rw [← hX]; exact f2.2.2
      have lwX : lwM lw X := by
        cases lw with
        | none => unfold lwM at *; rw [xa 45 (by omega) (by omega) (by omega) (by omega) (by omega)]; exact l2
        | some ls => exact ⟨by rw [xa 45 (by omega) (by omega) (by omega) (by omega) (by omega)]; exact l2.1, l2.2.1, l2.2.2.1, by rw [xa 45 (by omega) (by omega) (by omega) (by omega) (by omega)]; exact l2.2.2.2.1, lml_d (xa 57 (by omega) (by omega) (by omega) (by omega) (by omega)) (xa 58 (by omega) (by omega) (by omega) (by omega) (by omega)) (xa 59 (by omega) (by omega) (by omega) (by omega) (by omega)) (xa 60 (by omega) (by omega) (by omega) (by omega) (by omega)) ls _ _ l2.2.2.2.2.1, l2.2.2.2.2.2⟩
      have mX : mE (gOf h t k) t k X := by
        have := mE_of N0 ht hk
        unfold mE at *
        rw [xa 46 (by omega) (by omega) (by omega) (by omega) (by omega), xa 47 (by omega) (by omega) (by omega) (by omega) (by omega), xa 48 (by omega) (by omega) (by omega) (by omega) (by omega), xa 49 (by omega) (by omega) (by omega) (by omega) (by omega), xa 50 (by omega) (by omega) (by omega) (by omega) (by omega), xa 52 (by omega) (by omega) (by omega) (by omega) (by omega), xa 45 (by omega) (by omega) (by omega) (by omega) (by omega)]; exact this
      obtain ⟨M, m1, m2⟩ := clothM (d + 14) (t := t) (k := k) (by omega) hk lwX mX b
      have m66 : M.1 66 = h.1 66 := by rw [m2.1 66 (by omega), xa 66 (by omega) (by omega) (by omega) (by omega) (by omega)]
      have m50 : M.1 50 = h.1 50 := by rw [m2.1 50 (by omega), xa 50 (by omega) (by omega) (by omega) (by omega) (by omega)]
      have m51 : M.1 51 = h.1 51 := by rw [m2.1 51 (by omega), xa 51 (by omega) (by omega) (by omega) (by omega) (by omega)]
      have hM : ∃ Z, fM_tieOn (d + 20) a b X = some (some (.int br), Z) ∧ (∀ y, y ≠ 50 → y ≠ 51 → y ≠ 66 → Z.1 y = M.1 y) ∧ Z.2 = M.2 ∧ Z.1 50 t = zm_min 99 (h.1 50 t + 1) ∧ Z.1 51 t = h.1 51 t + 1 ∧ (∀ y, y ≠ t → Z.1 50 y = h.1 50 y ∧ Z.1 51 y = h.1 51 y) ∧
          Z.1 66 0 = h.1 66 0 + 1 ∧ Z.1 66 1 = h.1 66 1 + zi rg ∧ Z.1 66 2 = h.1 66 2 ∧ Z.1 66 3 = br := by
        have E3 : mE (gOf h t k) t k (zm_ui M 66 0 (h.1 66 0 + 1)) := by
          have := mE_f m2 mX
          unfold mE at *
          simp (disch := omega) only [ui_c]; exact this
        have c3 : Int32.toNatClampNeg 3 = 3 := rfl
        have c1' : Int32.toNatClampNeg 1 = 1 := rfl
        rw [fM_tieOn_eq, tkM (d + 16) hT a (by rw [xa 45 (by omega) (by omega) (by omega) (by omega) (by omega)]; exact n2), q, bI, cF (by decide), isPlace_s, q2, bI, cN, cF (by decide), e2, e1, m1, bI, hbr]
        rw [hR_66 (by decide), hW_66 (by decide), c_0, m66, Bool.cond_true, Bool.cond_true, rightM (d + 17) (by omega) E3, hrg, bI, zi_0]
        cases rg
        · refine ⟨zm_ui (zm_ui (zm_ui (zm_ui M 66 0 (h.1 66 0 + 1)) 66 3 br) 50 t (zm_min 99 (h.1 50 t + 1))) 51 t (h.1 51 t + 1), ?_, ?_, rfl, ?_, ?_, ?_, ?_, ?_, ?_, ?_⟩
          · simp (disch := omega) only [Bool.not_false, Bool.cond_true, hW_66, hR_66, gR_50, gW_50, gR_51, gW_51, iN_c, ui_s, ui_k, ui_c, m50, m51, c3]
          · intro y y1 y2 y3; simp (disch := omega) only [ui_f]
          · simp (disch := omega) only [ui_s, ui_k, ui_c]
          · simp (disch := omega) only [ui_s, ui_k, ui_c]
          · intro y y1; simp (disch := omega) only [ui_s, ui_k, ui_c, m50, m51, and_self]
          · simp (disch := omega) only [ui_s, ui_k, ui_c]
          · simp (disch := omega) only [ui_s, ui_k, ui_c, m66]; show _ = h.1 66 1 + 0; rw [Int32.add_zero]
          · simp (disch := omega) only [ui_s, ui_k, ui_c, m66]
          · simp (disch := omega) only [ui_s, ui_k, ui_c]
        · refine ⟨zm_ui (zm_ui (zm_ui (zm_ui (zm_ui M 66 0 (h.1 66 0 + 1)) 66 1 (h.1 66 1 + 1)) 66 3 br) 50 t (zm_min 99 (h.1 50 t + 1))) 51 t (h.1 51 t + 1), ?_, ?_, rfl, ?_, ?_, ?_, ?_, ?_, ?_, ?_⟩
          · simp (disch := omega) only [Bool.not_true, Bool.cond_true, Bool.cond_false, hW_66, hR_66, gR_50, gW_50, gR_51, gW_51, iN_c, ui_s, ui_k, ui_c, m50, m51, m66, c3, c1']
          · intro y y1 y2 y3; simp (disch := omega) only [ui_f]
          · simp (disch := omega) only [ui_s, ui_k, ui_c]
          · simp (disch := omega) only [ui_s, ui_k, ui_c]
          · intro y y1; simp (disch := omega) only [ui_s, ui_k, ui_c, m50, m51, and_self]
          · simp (disch := omega) only [ui_s, ui_k, ui_c]
          · simp (disch := omega) only [ui_s, ui_k, ui_c]; rfl
          · simp (disch := omega) only [ui_s, ui_k, ui_c, m66]
          · simp (disch := omega) only [ui_s, ui_k, ui_c]
      obtain ⟨Z, z1, z2, z3, z4, z5, z6, z7, z8, z9, z10⟩ := hM
      have za : ∀ y, y ≠ 2 → y ≠ 11 → y ≠ 13 → y ≠ 14 → y ≠ 23 → y ≠ 50 → y ≠ 51 → y ≠ 65 → y ≠ 66 → Z.1 y = h.1 y := by
        intro y y1 y2 y3 y4 y5 y6 y7 y8 y9
        rw [z2 y y6 y7 y9, m2.1 y y8, xa y y1 y2 y3 y4 y5]
      have z11 : ∀ y, y ≠ 3 → Z.1 11 y = h.1 11 y := fun y y1 => by rw [z2 11 (by omega) (by omega) (by omega), m2.1 11 (by omega), x11 y y1]
      have z23 : Z.1 23 = X.1 23 := by rw [z2 23 (by omega) (by omega) (by omega), m2.1 23 (by omega)]
      have z22 : Z.1 2 = X.1 2 := by rw [z2 2 (by omega) (by omega) (by omega), m2.1 2 (by omega)]
      have z0 : Z.2 = h.2 := by rw [z3, m2.2, x0]
      refine ⟨br, X, Z, hE, z1, T, P, D, A, S, B, Q, rW_d ?_ W, rN_wt N0 ?_ ?_ ?_ ?_ ?_ ?_, rC_d ?_ C, rT_d ?_ T', rL_d ?_ Lw, ⟨?_, ?_, ?_, ?_⟩, rI_d ?_ I, rB_d ?_ Bd, rS_d ?_ Sh⟩
      · simp (disch := omega) only [dW, za, and_self]
      · exact za 1 (by omega) (by omega) (by omega) (by omega) (by omega) (by omega) (by omega) (by omega) (by omega)
      · intro y y1 y2
        rw [z22, x2.2.2 y (by omega) (by omega)]
      · intro y hy
        rw [z22]
        by_cases e : y = t
        · subst e
          rw [z4, z5, show 32 + y = 4 * 8 + y by omega, show 96 + y = 12 * 8 + y by omega, x2.1, x2.2.1, p50, p51]; exact ⟨rfl, rfl⟩
        · rw [(z6 y e).1, (z6 y e).2, x2.2.2 _ (by omega) (by omega), x2.2.2 _ (by omega) (by omega)]
          exact ⟨N1 4 y (by omega) hy, N1 12 y (by omega) hy⟩
      · intro y h1 h2
        rw [z22, x2.2.2 _ (by omega) (by omega), x2.2.2 _ (by omega) (by omega)]
        exact N3 y h1 h2
      · intro y hy
        rw [z22]
        by_cases e : y = t
        · subst e
          rw [show 32 + y = 4 * 8 + y by omega, x2.1]
          obtain ⟨w1, w2⟩ := w4
          rw [show lo 4 = 0 from rfl] at w1
          rw [show hi 4 = 99 from rfl] at w2
          unfold zm_min
          generalize h.1 2 (4 * 8 + y) = v at *
          grind
        · rw [x2.2.2 _ (by omega) (by omega)]
          exact N2 4 y (by omega) hy
      · intro y h1 h2 h3 h4
        exact za y (by omega) (by omega) (by omega) (by omega) (by omega) (by omega) (by omega) (by omega) (by omega)
      · simp (disch := omega) only [dC, za, and_self]
      · simp (disch := omega) only [dT, za, and_self]
      · simp (disch := omega) only [dL, za, z11, and_self]
      · rw [z7, z23, x23.1, g1]
      · rw [z8, z23, x23.2.1, g2]
      · rw [z9, z23, x23.2.2.1, g3]
      · rw [z10, z23, x23.2.2.2]
      · simp (disch := omega) only [dI, za, and_self]
      · simp (disch := omega) only [dB, za, and_self]
      · simp (disch := omega) only [dS, za, z0, and_self]
