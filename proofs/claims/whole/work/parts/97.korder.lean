/-! order -/
theorem orderCl (d : Nat) {N m : Nat} (hN0 : 1 ≤ N) (hN : N ≤ 7) (hm : m ≤ 6) {mt : Nat → Nat → Nat} (hmt : ∀ w x, mt w x ≤ 600) {tl : List Nat} {h : zm_H} (e7 : h.1 15 7 = iN m) (e21 : ∀ w y, w < N → y < m → h.1 21 (w * 6 + y) = iN (mt w (tl.getD y 0))) :
    ∃ K, fDr_firstDone (d + 4) (iN N) h = some (some (.int (iN (bs (dlo mt N tl m) m 119 (fun p => p) (dlo mt N tl m (fun p => p)) (fun p => p)).1)), K) ∧ rwf 18 m (bs (dlo mt N tl m) m 119 (fun p => p) (dlo mt N tl m (fun p => p)) (fun p => p)).2 K ∧ (∀ a, a ≠ 17 → a ≠ 18 → a ≠ 19 → a ≠ 20 → a ≠ 22 → K.1 a = h.1 a) ∧ K.2 = h.2 := by
  obtain ⟨A, a1, a2, a3, a4, a5⟩ := places_s (d + 2) 6 0 h (by omega)
  obtain ⟨B, b1, b2, b3⟩ := doneO d hN0 hN hm hmt (tl := tl) (f := fun p => p) (fun p hp => hp) (h := A) (by rw [a2 15 (by omega)]; exact e7) (fun p hp => a4 p (by omega) (by omega)) (fun w y h1 h2 => by rw [a2 21 (by omega)]; exact e21 w y h1 h2)
  obtain ⟨C, c1, c2, c3, c4, c5⟩ := keepC (d + 2) 6 0 B (by omega)
  have r20 : rwf 20 m (fun p => p) C := fun p hp => by rw [c2 20 (by omega), b2 20 (by omega) (by omega) (by omega)]; exact a4 p (by omega) (by omega)
  have r18 : rwf 18 m (fun p => p) C := fun p hp => by rw [c4 p (by omega) (by omega), b2 20 (by omega) (by omega) (by omega)]; exact a4 p (by omega) (by omega)
  have gl := dlo_le (mt := mt) (N := N) hm hmt tl (fun p => p)
  have C7 : C.1 15 7 = iN m := by rw [c2 15 (by omega), b2 15 (by omega) (by omega) (by omega), a2 15 (by omega)]; exact e7
  have C21 : ∀ w y, w < N → y < m → C.1 21 (w * 6 + y) = iN (mt w (tl.getD y 0)) := fun w y h1 h2 => by rw [c2 21 (by omega), b2 21 (by omega) (by omega) (by omega), a2 21 (by omega)]; exact e21 w y h1 h2
  have gen : ∀ n i, i + n = 120 → ∃ K, fDr_firstDone_c16 (d + 4) (iN N) (iN (dlo mt N tl m (fun p => p))) (iN i) C = some (some (.int (iN (bs (dlo mt N tl m) m n (fun p => p) (dlo mt N tl m (fun p => p)) (fun p => p)).1)), K) ∧ rwf 18 m (bs (dlo mt N tl m) m n (fun p => p) (dlo mt N tl m (fun p => p)) (fun p => p)).2 K ∧ (∀ a, a ≠ 17 → a ≠ 18 → a ≠ 19 → a ≠ 20 → a ≠ 22 → K.1 a = C.1 a) ∧ K.2 = C.2 := fun n i hn =>
    ordC d hN0 hN hm hmt n i (fun p => p) (fun p => p) _ C hn (fun p hp => hp) gl r20 r18 C7 C21
  obtain ⟨K, k1, k2, k3, k4⟩ := gen 119 1 (by omega)
  refine ⟨K, ?_, k2, fun a h1 h2 h3 h4 h5 => by rw [k3 a h1 h2 h3 h4 h5, c2 a h2, b2 a h1 h3 h5, a2 a h4], by rw [k4, c3, b3, a3]⟩
  rw [fDr_firstDone_eq, fDr_layPlaces_eq, show fDr_layPlaces_c2 (d + 2 + 1) 0 h = some (none, A) from a1, bV, b1, bI, fDr_keepOrder_eq, show fDr_keepOrder_c2 (d + 2 + 1) 0 B = some (none, C) from c1, bV]
  exact k1
theorem frG_lwC {lw : Option (List (List Nat × List Nat))} {h K : zm_H} (e : frG h K) (r : lwC lw h) : lwC lw K := by
  cases lw with
  | none => exact (e.2.1 2 (by omega)).trans r
  | some ls => exact ⟨r.1, r.2.1, (e.2.1 2 (by omega)).trans r.2.2.1, by rw [e.1 12 (by omega) (by omega)]; exact r.2.2.2.1, r.2.2.2.2⟩
theorem fmn_G {lw : Option (List (List Nat × List Nat))} {h K : zm_H} {k : Nat} (e : K.1 2 = h.1 2) : fmn lw K k = fmn lw h k := by
  funext w t; unfold fmn gOf; rw [e]
theorem K_order (d : Nat) {L : Nat} {xs : Nat → Int32} {h : zm_H} (r : RR L xs h) (z kn q : Int32) : okC L xs (fE_order (d + 20) z kn q) (fM_order (d + 20) z kn q) h := by
  have r0 := r
  obtain ⟨T, P, D, A, S, B, Q, W, N, C, T', Lw, G, I, Bd, Sh⟩ := r
  have hB := Bd.1
  have N0 := N
  obtain ⟨⟨hT, hP, n1, n2, n3, n4⟩, N1, N2, N3⟩ := N
  obtain ⟨lw, l1, l2⟩ := rL_lw Lw
  have bad : ∀ (x : Int32), fE_refusalOfDressing (d + 19) z kn x h = some (some (.int (-1)), h) → ∀ (X : zm_H → zm_R), zb_I (fE_refusalOfDressing (d + 19) z kn x h) (fun v h3 => cond (decide (v = 0)) (X h3) (some (some (.int v), h3))) = some (some (.int (-1)), h) := fun x e X => by rw [e]; rfl
  by_cases qz : z < 0 ∨ 6 ≤ z
  · refine okC_same r0 (-1) ?_ ?_
    · rw [fE_order_eq, bad 0 (refDr_z _ qz _ _ _), bad 1 (refDr_z _ qz _ _ _)]
      cases decide (q < -1) <;> rfl
    · rw [fM_order_eq, isShelfM_s, le5_n qz, bI, cT (by decide)]
  · have qz1 := le5_6 qz
    obtain ⟨z, hz, rfl⟩ := iN_exn 6 rfl (by decide) qz
    obtain ⟨c, kk, n, V, X⟩ := shv_of hB (Sh z hz)
    cases qk : (decide (0 ≤ kn) && decide (kn ≤ 4))
    · refine okC_same r0 (-1) ?_ ?_
      · rw [fE_order_eq, bad 0 (refDr_k _ _ qk _ _), bad 1 (refDr_k _ _ qk _ _)]
        cases decide (q < -1) <;> rfl
      · rw [fM_order_eq, isShelfM_s, qz1, bI, cF (by decide), isKnot_s, qk, bI, cT (by decide)]
    · by_cases qq : q < -1
      · refine okC_same r0 (-1) ?_ ?_
        · rw [fE_order_eq, cT qq, bad 0 (refDr_0 _ _ _ _)]
        · rw [fM_order_eq, isShelfM_s, qz1, bI, cF (by decide), isKnot_s, qk, bI, cF (by decide), cF (by grind)]
      · have qq2 : -1 ≤ q := by grind
        by_cases hc : c = 2 ∧ kk = 0
        · obtain ⟨rfl, rfl⟩ := hc
          have X := X rfl
          obtain ⟨v, -⟩ | ⟨v, -⟩ | ⟨-, v0, v1, v2, v3, v4, v5, v6⟩ := id V
          · exact absurd v (by omega)
          · exact absurd v (by omega)
          obtain ⟨k, hk, rfl⟩ := iN_exn (x := kn) (c := 5) 5 rfl (by decide) (by grind)
          have go := gth_ok (h.2 (39 + z)) n hT 7 [] (by simp) (fun j hj => absurd hj (by simp))
          obtain ⟨K0, a1, a2, a3, a4, a5⟩ := drG (d + 16) hz v1 hT (h := h) v4
          have f0 : frG h K0 := ⟨fun a h1 h2 => a4 a (by omega) (by omega), fun b _ => by rw [a4 11 (by omega) (by omega)], a5⟩
          have e1 := f0.1 1 (by omega) (by omega)
          have e2 := f0.1 2 (by omega) (by omega)
          obtain ⟨K1, b1, b2, b3, b4, b5⟩ := gathE (d + 11) (lw := lw) hz v1 hT hP hk (h := K0) (by unfold pOk; rw [e2]; exact pOk_of N0) (by rw [e1]; exact n1) (by rw [e1]; exact n3) (frG_lwC f0 l1) (by rw [f0.1 (33 + z) (by omega) (by omega)]; exact v4)
          rw [a5] at b3 b4 b5
          rw [fmn_G e2] at b5
          have fG1 := frG_t f0 b2
          have hE : fE_order (d + 20) (iN z) (iN k) q h = cond (decide ((K0.1 15 7) ≤ (5 : Int32))) (cond (!(decide (iN P = 0))) (zb_I (fDr_firstDone (d + 19) (iN P) K1) (fun v12 h11 => cond (decide (0 ≤ q)) (cond (decide ((h11.1 15 7) ≤ q)) (some (some (.int ((-2 : Int32))), h11)) (cond (zm_inR h11 18 q) (cond (zm_inR h11 16 (h11.1 18 (q).toNatClampNeg)) (some (some (.int ((h11.1 16 ((h11.1 18 (q).toNatClampNeg)).toNatClampNeg))), h11)) none) none)) (some (some (.int v12), h11)))) (some (some (.int ((-2 : Int32))), K0))) (some (some (.int ((-5 : Int32))), K0)) := by
            rw [fE_order_eq, cF qq, refDr (d + 15) hz V qk, rfv_0 rfl rfl, bI, cT rfl, gQ_32 hz, iN_c (by omega), rt32 hz, n1, Bool.cond_true, a1, bV, show K0.1 1 2 = iN P by rw [e1]; exact n3, b1, bV, show K1.1 1 2 = iN P by rw [fG1.1 1 (by omega) (by omega)]; exact n3]
          have hM : ∀ Z, frG h Z → ∃ M1, fM_order (d + 20) (iN z) (iN k) q Z = cond (decide (iN (gth (h.2 (39 + z)) n T 7 []).length ≤ (5 : Int32))) (cond (decide (iN P = 0)) (some (some (.int ((-2 : Int32))), M1)) (cond (decide (q < iN (gth (h.2 (39 + z)) n T 7 []).length)) (fM_order_c74 (d + 20) (iN k) q ((0 : Int32)) M1) (some (some (.int ((-2 : Int32))), M1)))) (some (some (.int ((-5 : Int32))), M1)) ∧ frRd Z M1 ∧ M1.1 45 49 = iN (gth (h.2 (39 + z)) n T 7 []).length ∧ rowN (M1.1 76) (gth (h.2 (39 + z)) n T 7 []) ∧ M1.1 45 11 = iN P := by
            intro Z fZ
            obtain ⟨M1, m1, m2, m3, m4, m5, m6⟩ := rdM (d + 16) hz v1 hT (f := h.2 (39 + z)) (h := Z) (by rw [fZ.1 74 (by omega) (by omega)]; exact v6) (by rw [fZ.1 45 (by omega) (by omega)]; exact n2) (fun i hi => by rw [fZ.2.2]; exact (X i hi).1)
            have m7 : M1.1 45 11 = iN P := by rw [m5 11 (by omega), fZ.1 45 (by omega) (by omega)]; exact n4
            refine ⟨M1, ?_, ⟨m4, m5, m6⟩, m2, m3, m7⟩
            rw [fM_order_eq, isShelfM_s, qz1, bI, cF (by decide), isKnot_s, qk, bI, cF (by decide), cT qq2]
            rw [show fM_noRow (d + 19) (iN z) 0 Z = some (some (.int (rfv 2 0 0)), Z) from noRow (d + 18) (q := 0) hz (by omega) (shv_G hz fZ V), rfv_0 rfl rfl, bI, cT (by decide), m1, bV, m2, m7]
          generalize gth (h.2 (39 + z)) n T 7 [] = l at *
          rw [a2] at hE
          by_cases h5 : l.length ≤ 5
          · have c5 : iN l.length ≤ 5 := by rw [show (5 : Int32) = iN 5 from rfl, iN_le (by omega) (by omega)]; exact h5
            by_cases hP0 : P = 0
            · subst hP0
              obtain ⟨M1, g1, g2, -⟩ := hM K0 f0
              refine ⟨-2, K0, M1, ?_, ?_, RR_q r0 (frQ_t (frQ_G f0) (frQ_Rd g2))⟩
              · rw [hE, cT c5, cN, cT (show iN 0 = 0 from rfl)]
              · rw [g1, cT c5, cT (show iN 0 = 0 from rfl)]
            · have nP : ¬ iN P = 0 := by simp (disch := omega) only [iN_add, iN_addl, iN_addr, iN_mul, iN_mull, iN_mulr, iN_sub, iN_subl, iN_subr, iN_c, iN_lt, iN_ltl, iN_ltr, iN_le, iN_lel, iN_ler, iN_eq, iN_eql, iN_eqr]; exact hP0
              obtain ⟨K2, o1, o2, o3, o4⟩ := orderCl (d + 15) (show 1 ≤ P by omega) (by omega) (by omega : l.length ≤ 6) (fmn_le lw h k) (tl := l) b3 b5
              have fG2 : frG K1 K2 := ⟨fun a h1 h2 => o3 a (by omega) (by omega) (by omega) (by omega) (by omega), fun b _ => by rw [o3 11 (by omega) (by omega) (by omega) (by omega) (by omega)], o4⟩
              have fG := frG_t fG1 fG2
              obtain ⟨M1, g1, g2, g3, g4, g5⟩ := hM K2 fG
              have K7 : K2.1 15 7 = iN l.length := by rw [o3 15 (by omega) (by omega) (by omega) (by omega) (by omega)]; exact b3
              have TK : TKO (d + 18) P l.length (fmn lw h k) (iN k) M1 l := fun w t K hw h8 hj fK => by
                obtain ⟨j, hj, e⟩ := hj
                have := go.2 j hj
                obtain ⟨p1, p2, p3⟩ := pOk_of N0 w hw
                exact takesM (d + 11) (b := h.1 2 (11 * 8 + w)) (by omega : t < 8) hk (by omega : w < 7) p1 p2 p3 (frO_lwM fK (frRd_lwM g2 (frG_lwM fG l2))) (frO_mE fK (frRd_mE g2 (frG_mE fG (mE_of N0 (by omega) hk)))) (by rw [fK.1 53 (by omega) (by omega) (by omega), g2.1 53 (by omega) (by omega), fG.1 53 (by omega) (by omega)]; exact N1 9 w (by omega) hw) (by rw [fK.1 54 (by omega) (by omega) (by omega), g2.1 54 (by omega) (by omega), fG.1 54 (by omega) (by omega)]; exact N1 10 w (by omega) hw) (by rw [fK.1 55 (by omega) (by omega) (by omega), g2.1 55 (by omega) (by omega), fG.1 55 (by omega) (by omega)]; exact N1 11 w (by omega) hw)
              obtain ⟨M2, s1, s2, s3⟩ := orderM (d + 17) (show 1 ≤ P by omega) (by omega) h5 (fmn_le lw h k) (kn := iN k) (Z := M1) (tl := l) (fun j hj => by have := go.2 j hj; omega) TK g5 q g3 g4
              have bb : ∀ n, ∀ p, p < l.length → (bs (dlo (fmn lw h k) P l l.length) l.length n (fun p => p) (dlo (fmn lw h k) P l l.length (fun p => p)) (fun p => p)).2 p < l.length := fun n => bs_bd n _ _ _ (fun p hp => hp) (fun p hp => hp)
              have b119 := bb 119
              generalize bs (dlo (fmn lw h k) P l l.length) l.length 119 (fun p => p) (dlo (fmn lw h k) P l l.length (fun p => p)) (fun p => p) = R at *
              have RQ := RR_q r0 (frQ_t (frQ_t (frQ_G fG) (frQ_Rd g2)) (frQ_O s2))
              by_cases q0 : 0 ≤ q
              · obtain ⟨y, hy, rfl⟩ : ∃ k, k < 2147483648 ∧ q = iN k := ⟨_, iN_bd q, iN_of q0⟩
                by_cases hy2 : y < l.length
                · have by2 := b119 y hy2
                  refine ⟨iN (l.getD (R.2 y) 0), K2, M2, ?_, ?_, RQ⟩
                  · rw [hE, cT c5, cN, cF nP, o1, bI, cT q0, K7, cF (by rw [iN_le (by omega) (by omega)]; omega), gR_18 (by omega), iN_c hy, o2 y hy2, gR_16 (by omega), iN_c (by omega), o3 16 (by omega) (by omega) (by omega) (by omega) (by omega), b4 _ by2]; rfl
                  · rw [g1, cT c5, cF nP, cT (by rw [iN_lt (by omega) (by omega)]; exact hy2), s1, fM_order_c121_eq, cT rfl, cT q0, gR_80 (by omega), iN_c hy, s3 y hy2]; rfl
                · refine ⟨-2, K2, M1, ?_, ?_, RR_q r0 (frQ_t (frQ_G fG) (frQ_Rd g2))⟩
                  · rw [hE, cT c5, cN, cF nP, o1, bI, cT q0, K7, cT (by rw [iN_le (by omega) (by omega)]; omega)]
                  · rw [g1, cT c5, cF nP, cF (by rw [iN_lt (by omega) (by omega)]; exact hy2)]
              · refine ⟨iN R.1, K2, M2, ?_, ?_, RQ⟩
                · rw [hE, cT c5, cN, cF nP, o1, bI, cF q0]
                · have ql : q < iN l.length := by
                    have : (0 : Int32) ≤ iN l.length := by rw [show (0 : Int32) = iN 0 from rfl, iN_le (by omega) (by omega)]; omega
                    generalize iN l.length = x at this
                    grind
                  rw [g1, cT c5, cF nP, cT ql, s1, fM_order_c121_eq, cT rfl, cF q0]
          · have c5 : ¬ iN l.length ≤ 5 := by rw [show (5 : Int32) = iN 5 from rfl, iN_le (by omega) (by omega)]; exact h5
            obtain ⟨M1, g1, g2, -⟩ := hM K0 f0
            refine ⟨-5, K0, M1, ?_, ?_, RR_q r0 (frQ_t (frQ_G f0) (frQ_Rd g2))⟩
            · rw [hE, cF c5]
            · rw [g1, cF c5]
        · refine okC_same r0 (rfv c kk 0) ?_ ?_
          · rw [fE_order_eq, cF qq, refDr (d + 15) hz V qk, bI, cF (by rcases rfv_n hc with e | e <;> rw [e] <;> decide)]
          · rw [fM_order_eq, isShelfM_s, qz1, bI, cF (by decide), isKnot_s, qk, bI, cF (by decide), cT qq2]
            rw [show fM_noRow (d + 19) (iN z) 0 h = some (some (.int (rfv c kk 0)), h) from noRow (d + 18) (q := 0) hz (by omega) V, bI, cF (by rcases rfv_n hc with e | e <;> rw [e] <;> decide)]
