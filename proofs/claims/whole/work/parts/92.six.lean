/-! six, taxi -/
theorem refDr (d : Nat) {B : Nat} {h : zm_H} {s c k n : Nat} (hs : s < 6) (r : shv B h s c k n) {kn : Int32} (hk : (decide (0 ≤ kn) && decide (kn ≤ 4)) = true) : fE_refusalOfDressing (d + 4) (iN s) kn 1 h = some (some (.int (rfv c k 0)), h) := by
  rw [fE_refusalOfDressing_eq, isShelf_s, le5_6 (by simp (disch := omega) only [iN_add, iN_addl, iN_addr, iN_mul, iN_mull, iN_mulr, iN_sub, iN_subl, iN_subr, iN_c, iN_lt, iN_ltl, iN_ltr, iN_le, iN_lel, iN_ler, iN_eq, iN_eql, iN_eqr]; omega), bI, cF (by decide), isKnotE_s, hk, bI, cF (by decide), cN, cF (by decide), show (0 : Int32) = iN 0 from rfl, refRow d hs (by omega) r, bI]
theorem refDr_0 (d : Nat) (a kn : Int32) (h : zm_H) : fE_refusalOfDressing (d + 2) a kn 0 h = some (some (.int (-1)), h) := by
  rw [fE_refusalOfDressing_eq, isShelf_s, bI, zi_0, isKnotE_s, bI, zi_0]
  cases (decide (0 ≤ a) && decide (a ≤ 5)) <;> cases (decide (0 ≤ kn) && decide (kn ≤ 4)) <;> rfl
theorem refDr_z (d : Nat) {a : Int32} (q : a < 0 ∨ 6 ≤ a) (kn x : Int32) (h : zm_H) : fE_refusalOfDressing (d + 2) a kn x h = some (some (.int (-1)), h) := by
  rw [fE_refusalOfDressing_eq, isShelf_s, le5_n q, bI, cT (by decide)]
theorem refDr_k (d : Nat) (a : Int32) {kn : Int32} (q : (decide (0 ≤ kn) && decide (kn ≤ 4)) = false) (x : Int32) (h : zm_H) : fE_refusalOfDressing (d + 2) a kn x h = some (some (.int (-1)), h) := by
  rw [fE_refusalOfDressing_eq, isShelf_s, bI, zi_0, isKnotE_s, q]
  cases (decide (0 ≤ a) && decide (a ≤ 5)) <;> rfl
theorem rdM (d : Nat) {z n T : Nat} (hz : z < 6) (hn : n ≤ 60) (hT : T ≤ 8) {f : Nat → Int64} {h : zm_H} (e3 : h.1 74 z = iN n) (eT : h.1 45 0 = iN T) (ef : ∀ i, i < n → h.2 75 (60 * z + i) = f i) :
    ∃ K, fM_reads (d + 3) (iN z) h = some (none, K) ∧ K.1 45 49 = iN (gth f n T 7 []).length ∧ rowN (K.1 76) (gth f n T 7 []) ∧ (∀ a, a ≠ 45 → a ≠ 76 → K.1 a = h.1 a) ∧ (∀ b, b ≠ 49 → K.1 45 b = h.1 45 b) ∧ K.2 = h.2 := by
  obtain ⟨K, k1, k2, k3, k4, k5, k6⟩ := readsM d hz hn hT (f := f) 7 [] (zm_ui h 45 49 0) (by simp) (by simp) (fun j hj => absurd hj (by simp)) (ui_s _ _ _ _) (fun j hj => absurd hj (by simp)) (by rw [ui_c (by omega)]; exact e3) (by rw [ui_k (by omega)]; exact eT) ef
  exact ⟨K, by rw [fM_reads_eq]; exact k1, k2, k3, fun a h1 h2 => by rw [k4 a h1 h2, ui_f h1], fun b h1 => by rw [k5 b h1, ui_k h1], k6⟩
theorem frQ_D {h K : zm_H} (e : frD h K) : frQ h K := ⟨fun a h1 h2 h3 h4 h5 => e.1 a (by omega) h3 (by omega), fun b _ => by rw [e.1 11 (by omega) (by omega) (by omega)], fun b _ h2 _ => e.2.1 b h2, e.2.2⟩
theorem frD_lwM {lw : Option (List (List Nat × List Nat))} {h K : zm_H} (e : frD h K) (r : lwM lw h) : lwM lw K := by
  cases lw with
  | none => exact (e.2.1 17 (by omega)).trans r
  | some ls => exact ⟨(e.2.1 17 (by omega)).trans r.1, r.2.1, r.2.2.1, (e.2.1 18 (by omega)).trans r.2.2.2.1, lml_d (e.1 57 (by omega) (by omega) (by omega)) (e.1 58 (by omega) (by omega) (by omega)) (e.1 59 (by omega) (by omega) (by omega)) (e.1 60 (by omega) (by omega) (by omega)) ls _ _ r.2.2.2.2.1, r.2.2.2.2.2⟩
theorem frD_mE {g : Nat → Int32} {t k : Nat} {h K : zm_H} (e : frD h K) (r : mE g t k h) : mE g t k K := by
  unfold mE at *
  rw [e.1 46 (by omega) (by omega) (by omega), e.1 47 (by omega) (by omega) (by omega), e.1 48 (by omega) (by omega) (by omega), e.1 49 (by omega) (by omega) (by omega), e.1 50 (by omega) (by omega) (by omega), e.1 52 (by omega) (by omega) (by omega), e.2.1 8 (by omega), e.2.1 9 (by omega), e.2.1 10 (by omega)]; exact r
/-- behind the reading of a row -/
def frRd (h K : zm_H) : Prop := (∀ a, a ≠ 45 → a ≠ 76 → K.1 a = h.1 a) ∧ (∀ b, b ≠ 49 → K.1 45 b = h.1 45 b) ∧ K.2 = h.2
theorem frQ_Rd {h K : zm_H} (e : frRd h K) : frQ h K := ⟨fun a h1 h2 h3 h4 h5 => e.1 a h3 (by omega), fun b _ => by rw [e.1 11 (by omega) (by omega)], fun b _ _ h3 => e.2.1 b h3, e.2.2⟩
theorem frRd_lwM {lw : Option (List (List Nat × List Nat))} {h K : zm_H} (e : frRd h K) (r : lwM lw h) : lwM lw K := by
  cases lw with
  | none => exact (e.2.1 17 (by omega)).trans r
  | some ls => exact ⟨(e.2.1 17 (by omega)).trans r.1, r.2.1, r.2.2.1, (e.2.1 18 (by omega)).trans r.2.2.2.1, lml_d (e.1 57 (by omega) (by omega)) (e.1 58 (by omega) (by omega)) (e.1 59 (by omega) (by omega)) (e.1 60 (by omega) (by omega)) ls _ _ r.2.2.2.2.1, r.2.2.2.2.2⟩
theorem frRd_mE {g : Nat → Int32} {t k : Nat} {h K : zm_H} (e : frRd h K) (r : mE g t k h) : mE g t k K := by
  unfold mE at *
  rw [e.1 46 (by omega) (by omega), e.1 47 (by omega) (by omega), e.1 48 (by omega) (by omega), e.1 49 (by omega) (by omega), e.1 50 (by omega) (by omega), e.1 52 (by omega) (by omega), e.2.1 8 (by omega), e.2.1 9 (by omega), e.2.1 10 (by omega)]; exact r
theorem frG_mE {g : Nat → Int32} {t k : Nat} {h K : zm_H} (e : frG h K) (r : mE g t k h) : mE g t k K := by
  unfold mE at *
  rw [e.1 46 (by omega) (by omega), e.1 47 (by omega) (by omega), e.1 48 (by omega) (by omega), e.1 49 (by omega) (by omega), e.1 50 (by omega) (by omega), e.1 52 (by omega) (by omega), e.1 45 (by omega) (by omega)]; exact r
theorem tk_of (d : Nat) {lw : Option (List (List Nat × List Nat))} {T P k w t : Nat} {h M K : zm_H} (N : rN T P h) (hw : w < P) (ht : t < T) (hk : k < 5) (l2 : lwM lw M) (mM : mE (gOf h t k) t k M) (e5 : ∀ a, a = 53 ∨ a = 54 ∨ a = 55 → M.1 a = h.1 a) (fr : frD M K) : ∃ K', fM_takesFor (d + 7) (iN w) (iN t) (iN k) K = some (some (.int (iN (fmn lw h k w t))), K') ∧ frT K K' := by
  have N0 := N
  obtain ⟨⟨hT, hP, n1, n2, n3, n4⟩, N1, N2, N3⟩ := N
  obtain ⟨o1, o2, o3⟩ := pOk_of N0 w hw
  exact takesM d (by omega) hk (by omega) o1 o2 o3 (frD_lwM fr l2) (frD_mE fr mM) (by rw [fr.1 53 (by omega) (by omega) (by omega), e5 53 (by omega)]; exact N1 9 w (by omega) hw) (by rw [fr.1 54 (by omega) (by omega) (by omega), e5 54 (by omega)]; exact N1 10 w (by omega) hw) (by rw [fr.1 55 (by omega) (by omega) (by omega), e5 55 (by omega)]; exact N1 11 w (by omega) hw)
theorem fmn_le (lw : Option (List (List Nat × List Nat))) (H : zm_H) (k w t : Nat) : fmn lw H k w t ≤ 600 := mnN_le _ _ _ _ _
/-- both dress: what comes -/
theorem dressB (d : Nat) {lw : Option (List (List Nat × List Nat))} {T P k z n : Nat} {h : zm_H} (N : rN T P h) (hP1 : 1 ≤ P) (hz : z < 6) (hn : n ≤ 60) (hk : k < 5) (l1 : lwC lw h) (l2 : lwM lw h) (e3 : h.1 (33 + z) 3 = iN n) (e74 : h.1 74 z = iN n) (ef : ∀ i, i < n → h.2 75 (60 * z + i) = h.2 (39 + z) i) :
    ∃ l : List Nat, l.length ≤ 6 ∧ ∃ R : Nat × List Nat × List Nat, R.2.1.length = l.length ∧ R.2.2.length = l.length ∧ (∃ K1 K2, fE_gather (d + 19) (iN z) (iN k) h = some (none, K1) ∧ K1.1 1 = h.1 1 ∧ fDr_allDone (d + 19) (iN P) K1 = some (some (.int (iN R.1)), K2) ∧ K2.1 15 7 = iN l.length ∧ rowN (K2.1 17) R.2.1 ∧ rowN (K2.1 19) R.2.2 ∧ frG h K2) ∧
      (∀ Z, frG h Z → ∃ M1, fM_reads (d + 19) (iN z) Z = some (none, M1) ∧ M1.1 45 49 = iN l.length ∧ M1.1 45 11 = iN P ∧ frRd Z M1 ∧ ∃ M2, fM_dresses (d + 19) (iN k) (iN P) M1 = some (some (.int (iN R.1)), M2) ∧ rowN (M2.1 77) R.2.1 ∧ rowN (M2.1 78) R.2.2 ∧ M2.1 45 49 = iN l.length ∧ frQ Z M2) := by
  have N0 := N
  obtain ⟨⟨hT, hP, n1, n2, n3, n4⟩, N1, N2, N3⟩ := N
  have go := gth_ok (h.2 (39 + z)) n hT 7 [] (by simp) (fun j hj => absurd hj (by simp))
  obtain ⟨K1, k1, k2, k3, k4, k5⟩ := gathE (d + 11) (lw := lw) hz hn hT hP hk (pOk_of N0) n1 n3 l1 e3
  have dl := dn_len (fmn lw h k) P (gth (h.2 (39 + z)) n T 7 []) (fun _ => 0) 0
  obtain ⟨K2, d1, d2, d3, d4, d5⟩ := allDoneC (d + 15) hP1 (by omega) (fmn_le lw h k) go.1 k3 k5
  refine ⟨gth (h.2 (39 + z)) n T 7 [], go.1, dn (fmn lw h k) P (gth (h.2 (39 + z)) n T 7 []) (fun _ => 0) 0, dl.1, dl.2, ⟨K1, K2, k1, k2.1 1 (by omega) (by omega), d1, ?_, d2, d3, frG_t k2 ⟨fun a h1 h2 => d4 a (by omega) (by omega) (by omega) (by omega), fun b _ => by rw [d4 11 (by omega) (by omega) (by omega) (by omega)], d5⟩⟩, ?_⟩
  · rw [d4 15 (by omega) (by omega) (by omega) (by omega)]; exact k3
  · intro Z fZ
    obtain ⟨M1, m1, m2, m3, m4, m5, m6⟩ := rdM (d + 16) hz hn hT (f := h.2 (39 + z)) (h := Z) (by rw [fZ.1 74 (by omega) (by omega)]; exact e74) (by rw [fZ.1 45 (by omega) (by omega)]; exact n2) (fun i hi => by rw [fZ.2.2]; exact ef i hi)
    have fr : frRd Z M1 := ⟨m4, m5, m6⟩
    obtain ⟨M2, r1, r2, r3, r4⟩ := dressM (d + 18) hP1 (by omega : P ≤ 7) (mt := fmn lw h k) (fun w x _ => fmn_le lw h k w x) (kn := iN k) (h0 := M1) go.1 (fun x hx => by
      obtain ⟨j, hj, e⟩ := List.getElem_of_mem hx
      have := go.2 j hj
      have e2 : (gth (h.2 (39 + z)) n T 7 []).getD j 0 = x := by rw [← e]; simp [List.getD, hj]
      omega) (fun w t K hw ht8 hj fK => by
      obtain ⟨j, hj, e⟩ := hj
      have b := go.2 j hj
      rw [m3 j hj, iN_eq (by omega) (by omega)] at e
      exact tk_of (d + 11) N0 hw (by omega : t < T) hk (frRd_lwM fr (frG_lwM fZ l2)) (frRd_mE fr (frG_mE fZ (mE_of N0 (by omega) hk))) (fun a ha => by rw [m4 a (by omega) (by omega), fZ.1 a (by omega) (by omega)]) fK) m2 m3
    exact ⟨M1, m1, m2, by rw [m5 11 (by omega), fZ.1 45 (by omega) (by omega)]; exact n4, fr, M2, r1, r2, r3, by rw [r4.2.1 49 (by omega)]; exact m2, frQ_t (frQ_Rd fr) (frQ_D r4)⟩
theorem shv_G {B : Nat} {h K : zm_H} {s c k n : Nat} (hs : s < 6) (e : frG h K) (r : shv B h s c k n) : shv B K s c k n := by
  unfold shv at *
  rw [e.1 (33 + s) (by omega) (by omega), e.1 73 (by omega) (by omega), e.1 74 (by omega) (by omega)]; exact r
theorem K_six (d : Nat) {L : Nat} {xs : Nat → Int32} {h : zm_H} (r : RR L xs h) (z kn q : Int32) : okC L xs (fE_six (d + 20) z kn q) (fM_six (d + 20) z kn q) h := by
  have r0 := r
  obtain ⟨T, P, D, A, S, B, Q, W, N, C, T', Lw, G, I, Bd, Sh⟩ := r
  have hB := Bd.1
  have N0 := N
  obtain ⟨⟨hT, hP, n1, n2, n3, n4⟩, N1, N2, N3⟩ := N
  obtain ⟨lw, l1, l2⟩ := rL_lw Lw
  have bad : ∀ (x : Int32), fE_refusalOfDressing (d + 19) z kn x h = some (some (.int (-1)), h) → ∀ (X : zm_H → zm_R), zb_I (fE_refusalOfDressing (d + 19) z kn x h) (fun v h3 => cond (decide (v = 0)) (X h3) (some (some (.int v), h3))) = some (some (.int (-1)), h) := fun x e X => by rw [e]; rfl
  by_cases qz : z < 0 ∨ 6 ≤ z
  · refine okC_same r0 (-1) ?_ ?_
    · rw [fE_six_eq, bad 0 (refDr_z _ qz _ _ _), bad 1 (refDr_z _ qz _ _ _)]
      cases decide (q < -1) <;> rfl
    · rw [fM_six_eq, isShelfM_s, le5_n qz, bI, cT (by decide)]
  · have qz1 := le5_6 qz
    obtain ⟨z, hz, rfl⟩ := iN_exn 6 rfl (by decide) qz
    obtain ⟨c, kk, n, V, X⟩ := shv_of hB (Sh z hz)
    cases qk : (decide (0 ≤ kn) && decide (kn ≤ 4))
    · refine okC_same r0 (-1) ?_ ?_
      · rw [fE_six_eq, bad 0 (refDr_k _ _ qk _ _), bad 1 (refDr_k _ _ qk _ _)]
        cases decide (q < -1) <;> rfl
      · rw [fM_six_eq, isShelfM_s, qz1, bI, cF (by decide), isKnot_s, qk, bI, cT (by decide)]
    · by_cases qq : q < -1
      · refine okC_same r0 (-1) ?_ ?_
        · rw [fE_six_eq, cT qq, bad 0 (refDr_0 _ _ _ _)]
        · rw [fM_six_eq, isShelfM_s, qz1, bI, cF (by decide), isKnot_s, qk, bI, cF (by decide), cF (by grind)]
      · have qq2 : -1 ≤ q := by grind
        by_cases hc : c = 2 ∧ kk = 0
        · obtain ⟨rfl, rfl⟩ := hc
          have X := X rfl
          obtain ⟨v, -⟩ | ⟨v, -⟩ | ⟨-, v0, v1, v2, v3, v4, v5, v6⟩ := id V
          · exact absurd v (by omega)
          · exact absurd v (by omega)
          have hE : fE_six (d + 20) (iN z) kn q h = cond (!(decide (iN P = 0))) (zb_V (fE_gather (d + 19) (iN z) kn h) (fun h8 => zb_I (fDr_allDone (d + 19) (h8.1 1 2) h8) (fun v10 h9 =>
     cond (decide (0 ≤ q))
     (cond (decide ((h9.1 15 7) ≤ q))
      (some (some (.int ((-2 : Int32))), h9))
      (cond (zm_inR h9 17 q) (some (some (.int ((h9.1 17 (q).toNatClampNeg))), h9)) none))
     (some (some (.int v10), h9))))) (some (some (.int (-2)), h)) := by
            rw [fE_six_eq, cF qq, refDr (d + 15) hz V qk, rfv_0 rfl rfl, bI, cT rfl, n3]
          have hM : ∀ Z, frG h Z → fM_six (d + 20) (iN z) kn q Z = zb_V (fM_reads (d + 19) (iN z) Z) (fun h7 =>
      cond (decide ((h7.1 45 11) = 0))
      (some (some (.int ((-2 : Int32))), h7))
      (cond (decide (q < (h7.1 45 49)))
       (zb_I (fM_dresses (d + 19) kn (h7.1 45 11) h7) (fun v9 h8 =>
        cond (decide (0 ≤ q))
        (cond (zm_inR h8 77 q) (some (some (.int ((h8.1 77 (q).toNatClampNeg))), h8)) none)
        (some (some (.int v9), h8))))
       (some (some (.int ((-2 : Int32))), h7)))) := by
            intro Z fZ
            rw [fM_six_eq, isShelfM_s, qz1, bI, cF (by decide), isKnot_s, qk, bI, cF (by decide), cT qq2, show (0 : Int32) = iN 0 from rfl, noRow (d + 18) hz (by omega) (shv_G hz fZ V), rfv_0 rfl rfl, bI, cT (by decide)]
          obtain ⟨k, hk, rfl⟩ := iN_exn (x := kn) (c := 5) 5 rfl (by decide) (by grind)
          have frr : frG h h := ⟨fun _ _ _ => rfl, fun _ _ => rfl, rfl⟩
          by_cases hP0 : P = 0
          · subst hP0
            obtain ⟨M1, m1, m2, m3, m4, m5, m6⟩ := rdM (d + 16) hz v1 hT (f := h.2 (39 + z)) (h := h) v6 n2 (fun i hi => (X i hi).1)
            refine ⟨-2, h, M1, ?_, ?_, RR_q r0 (frQ_Rd ⟨m4, m5, m6⟩)⟩
            · rw [hE, cN, cT (show iN 0 = 0 from rfl)]
            · rw [hM h frr, m1, bV, m5 11 (by omega), n4, cT (show iN 0 = 0 from rfl)]
          · obtain ⟨l, hl, R, R1, R2, ⟨K1, K2, k1, k2, k3, k4, k5, k6, k7⟩, hZ⟩ := dressB d N0 (by omega) hz v1 hk l1 l2 v4 v6 (fun i hi => (X i hi).1)
            obtain ⟨M1, m1, m2, m3, m4, M2, m5, m6, m7, m8, m9⟩ := hZ K2 k7
            have nP : ¬ iN P = 0 := by simp (disch := omega) only [iN_add, iN_addl, iN_addr, iN_mul, iN_mull, iN_mulr, iN_sub, iN_subl, iN_subr, iN_c, iN_lt, iN_ltl, iN_ltr, iN_le, iN_lel, iN_ler, iN_eq, iN_eql, iN_eqr]; exact hP0
            by_cases q0 : 0 ≤ q
            · obtain ⟨y, hy, rfl⟩ : ∃ k, k < 2147483648 ∧ q = iN k := ⟨_, iN_bd q, iN_of q0⟩
              by_cases hy2 : y < l.length
              · refine ⟨iN (R.2.1.getD y 0), K2, M2, ?_, ?_, RR_q r0 (frQ_t (frQ_G k7) m9)⟩
                · rw [hE, cN, cF nP, k1, bV, k2, n3, k3, bI, cT q0, k4, cF (by rw [iN_le (by omega) (by omega)]; omega), gR_17 (by omega), iN_c hy, k5 y (by omega)]; rfl
                · rw [hM K2 k7, m1, bV, m3, cF nP, m2, cT (by rw [iN_lt (by omega) (by omega)]; exact hy2), m5, bI, cT q0, gR_77 (by omega), iN_c hy, m6 y (by omega)]; rfl
              · refine ⟨-2, K2, M1, ?_, ?_, RR_q r0 (frQ_t (frQ_G k7) (frQ_Rd m4))⟩
                · rw [hE, cN, cF nP, k1, bV, k2, n3, k3, bI, cT q0, k4, cT (by rw [iN_le (by omega) (by omega)]; omega)]
                · rw [hM K2 k7, m1, bV, m3, cF nP, m2, cF (by rw [iN_lt (by omega) (by omega)]; exact hy2)]
            · refine ⟨iN R.1, K2, M2, ?_, ?_, RR_q r0 (frQ_t (frQ_G k7) m9)⟩
              · rw [hE, cN, cF nP, k1, bV, k2, n3, k3, bI, cF q0]
              · have ql : q < iN l.length := by
                  have : (0 : Int32) ≤ iN l.length := by rw [show (0 : Int32) = iN 0 from rfl, iN_le (by omega) (by omega)]; omega
                  generalize iN l.length = x at this
                  grind
                rw [hM K2 k7, m1, bV, m3, cF nP, m2, cT ql, m5, bI, cF q0]
        · refine okC_same r0 (rfv c kk 0) ?_ ?_
          · rw [fE_six_eq, cF qq, refDr (d + 15) hz V qk, bI, cF (by rcases rfv_n hc with e | e <;> rw [e] <;> decide)]
          · rw [fM_six_eq, isShelfM_s, qz1, bI, cF (by decide), isKnot_s, qk, bI, cF (by decide), cT qq2, show (0 : Int32) = iN 0 from rfl, noRow (d + 18) hz (by omega) V, bI, cF (by rcases rfv_n hc with e | e <;> rw [e] <;> decide)]
/-! taxi -/
def dby (l : List Nat) (m : Int32) : Nat → Nat → Nat → Nat
  | 0, _, s => s
  | k + 1, i, s => cond (decide (m < iN (l.getD i 0))) (dby l m k (i + 1) s) (dby l m k (i + 1) (s + 1))
theorem doneByC (d : Nat) (m : Int32) {l : List Nat} (hl : l.length ≤ 6) {h : zm_H} (e7 : h.1 15 7 = iN l.length) (er : rowN (h.1 19) l) : ∀ (k i s : Nat), i + k = l.length → fDr_doneBy_c4 (d + 1) m (iN s) (iN i) h = some (some (.int (iN (dby l m k i s))), h) := by
  intro k
  induction k with
  | zero =>
    intro i s hi
    rw [fDr_doneBy_c4_eq, e7, cT (by simp (disch := omega) only [iN_add, iN_addl, iN_addr, iN_mul, iN_mull, iN_mulr, iN_sub, iN_subl, iN_subr, iN_c, iN_lt, iN_ltl, iN_ltr, iN_le, iN_lel, iN_ler, iN_eq, iN_eql, iN_eqr]; omega)]; rfl
  | succ k ih =>
    intro i s hi
    rw [fDr_doneBy_c4_eq, e7, cF (by simp (disch := omega) only [iN_add, iN_addl, iN_addr, iN_mul, iN_mull, iN_mulr, iN_sub, iN_subl, iN_subr, iN_c, iN_lt, iN_ltl, iN_ltr, iN_le, iN_lel, iN_ler, iN_eq, iN_eql, iN_eqr]; omega), gR_19 (by omega), iN_c (by omega), er i (by omega), Bool.cond_true, iN_addr, iN_addr, iN_addr, dby]
    cases decide (m < iN (l.getD i 0))
    · exact ih (i + 1) (s + 1) (by omega)
    · exact ih (i + 1) s (by omega)
theorem taxiM (d : Nat) (m : Int32) {l : List Nat} (hl : l.length ≤ 6) {h : zm_H} (e7 : h.1 45 49 = iN l.length) (er : rowN (h.1 78) l) : ∀ (k i s : Nat), i + k = l.length → fM_taxi_c74 (d + 1) m (iN s) (iN i) h = some (some (.int (iN (dby l m k i s))), h) := by
  intro k
  induction k with
  | zero =>
    intro i s hi
    rw [fM_taxi_c74_eq, e7, cT (by simp (disch := omega) only [iN_add, iN_addl, iN_addr, iN_mul, iN_mull, iN_mulr, iN_sub, iN_subl, iN_subr, iN_c, iN_lt, iN_ltl, iN_ltr, iN_le, iN_lel, iN_ler, iN_eq, iN_eql, iN_eqr]; omega)]; rfl
  | succ k ih =>
    intro i s hi
    rw [fM_taxi_c74_eq, e7, cF (by simp (disch := omega) only [iN_add, iN_addl, iN_addr, iN_mul, iN_mull, iN_mulr, iN_sub, iN_subl, iN_subr, iN_c, iN_lt, iN_ltl, iN_ltr, iN_le, iN_lel, iN_ler, iN_eq, iN_eql, iN_eqr]; omega), gR_78 (by omega), iN_c (by omega), er i (by omega), Bool.cond_true, iN_addr, iN_addr, dby]
    cases decide (m < iN (l.getD i 0))
    · exact ih (i + 1) (s + 1) (by omega)
    · exact ih (i + 1) s (by omega)
theorem K_taxi (d : Nat) {L : Nat} {xs : Nat → Int32} {h : zm_H} (r : RR L xs h) (z kn q : Int32) : okC L xs (fE_taxi (d + 20) z kn q) (fM_taxi (d + 20) z kn q) h := by
  have r0 := r
  obtain ⟨T, P, D, A, S, B, Q, W, N, C, T', Lw, G, I, Bd, Sh⟩ := r
  have hB := Bd.1
  have N0 := N
  obtain ⟨⟨hT, hP, n1, n2, n3, n4⟩, N1, N2, N3⟩ := N
  obtain ⟨lw, l1, l2⟩ := rL_lw Lw
  have bad : ∀ (x : Int32), fE_refusalOfDressing (d + 19) z kn x h = some (some (.int (-1)), h) → ∀ (X : zm_H → zm_R), zb_I (fE_refusalOfDressing (d + 19) z kn x h) (fun v h3 => cond (decide (v = 0)) (X h3) (some (some (.int v), h3))) = some (some (.int (-1)), h) := fun x e X => by rw [e]; rfl
  by_cases qz : z < 0 ∨ 6 ≤ z
  · refine okC_same r0 (-1) ?_ ?_
    · rw [fE_taxi_eq, bad 0 (refDr_z _ qz _ _ _), bad 1 (refDr_z _ qz _ _ _)]
      cases decide (q < 0) <;> cases decide (9999 < q) <;> rfl
    · rw [fM_taxi_eq, isShelfM_s, le5_n qz, bI, cT (by decide)]
  · have qz1 := le5_6 qz
    obtain ⟨z, hz, rfl⟩ := iN_exn 6 rfl (by decide) qz
    obtain ⟨c, kk, n, V, X⟩ := shv_of hB (Sh z hz)
    cases qk : (decide (0 ≤ kn) && decide (kn ≤ 4))
    · refine okC_same r0 (-1) ?_ ?_
      · rw [fE_taxi_eq, bad 0 (refDr_k _ _ qk _ _), bad 1 (refDr_k _ _ qk _ _)]
        cases decide (q < 0) <;> cases decide (9999 < q) <;> rfl
      · rw [fM_taxi_eq, isShelfM_s, qz1, bI, cF (by decide), isKnot_s, qk, bI, cT (by decide)]
    · by_cases qq : q < 0 ∨ 9999 < q
      · refine okC_same r0 (-1) ?_ ?_
        · rw [fE_taxi_eq, bad 0 (refDr_0 _ _ _ _)]
          by_cases e : q < 0
          · rw [cT e]
          · rw [cF e, cT (by grind)]
        · rw [fM_taxi_eq, isShelfM_s, qz1, bI, cF (by decide), isKnot_s, qk, bI, cF (by decide), within_s, show (decide (0 ≤ q) && decide (q ≤ 9999)) = false by grind, bI, cN, cT (by decide)]
      · have qq1 : ¬ q < 0 := by grind
        have qq2 : ¬ 9999 < q := by grind
        have qq3 : (decide (0 ≤ q) && decide (q ≤ 9999)) = true := by grind
        by_cases hc : c = 2 ∧ kk = 0
        · obtain ⟨rfl, rfl⟩ := hc
          have X := X rfl
          obtain ⟨v, -⟩ | ⟨v, -⟩ | ⟨-, v0, v1, v2, v3, v4, v5, v6⟩ := id V
          · exact absurd v (by omega)
          · exact absurd v (by omega)
          obtain ⟨k, hk, rfl⟩ := iN_exn (x := kn) (c := 5) 5 rfl (by decide) (by grind)
          have hM : ∀ Z, frG h Z → fM_taxi (d + 20) (iN z) (iN k) q Z = cond (!(decide ((Z.1 45 11) = 0)))
                (zb_V (fM_reads (d + 19) (iN z) Z) (fun h9 =>
       zb_I (fM_dresses (d + 19) (iN k) (h9.1 45 11) h9) (fun v11 h10 =>
       fM_taxi_c74 (d + 20) q ((0 : Int32)) ((0 : Int32)) h10)))
                (some (some (.int ((-2 : Int32))), Z)) := by
            intro Z fZ
            rw [fM_taxi_eq, isShelfM_s, qz1, bI, cF (by decide), isKnot_s, qk, bI, cF (by decide), within_s, qq3, bI, cN, cF (by decide)]
            rw [show fM_noRow (d + 19) (iN z) 0 Z = some (some (.int (rfv 2 0 0)), Z) from noRow (d + 18) hz (by omega) (shv_G hz fZ V), rfv_0 rfl rfl, bI, cT (by decide)]
          by_cases hP0 : P = 0
          · subst hP0
            refine okC_same r0 (-2) ?_ ?_
            · rw [fE_taxi_eq, cF qq1, cF qq2, refDr (d + 15) hz V qk, rfv_0 rfl rfl, bI, cT rfl, n3, cN, cT (show iN 0 = 0 from rfl)]
            · rw [hM h ⟨fun _ _ _ => rfl, fun _ _ => rfl, rfl⟩, n4, cN, cT (show iN 0 = 0 from rfl)]
          · obtain ⟨l, hl, R, R1, R2, ⟨K1, K2, k1, k2, k3, k4, k5, k6, k7⟩, hZ⟩ := dressB d N0 (by omega) hz v1 hk l1 l2 v4 v6 (fun i hi => (X i hi).1)
            obtain ⟨M1, m1, m2, m3, m4, M2, m5, m6, m7, m8, m9⟩ := hZ K2 k7
            have nP : ¬ iN P = 0 := by simp (disch := omega) only [iN_add, iN_addl, iN_addr, iN_mul, iN_mull, iN_mulr, iN_sub, iN_subl, iN_subr, iN_c, iN_lt, iN_ltl, iN_ltr, iN_le, iN_lel, iN_ler, iN_eq, iN_eql, iN_eqr]; exact hP0
            refine ⟨iN (dby R.2.2 q R.2.2.length 0 0), K2, M2, ?_, ?_, RR_q r0 (frQ_t (frQ_G k7) m9)⟩
            · rw [fE_taxi_eq, cF qq1, cF qq2, refDr (d + 15) hz V qk, rfv_0 rfl rfl, bI, cT rfl, n3, cN, cF nP, k1, bV, k2, n3, k3, bI, fDr_doneBy_eq]
              rw [show fDr_doneBy_c4 (d + 18 + 1) q 0 0 K2 = _ from doneByC (d + 18) q (l := R.2.2) (by omega) (by rw [R2]; exact k4) k6 R.2.2.length 0 0 (by omega), bI]
            · rw [hM K2 k7, show K2.1 45 11 = iN P by rw [k7.1 45 (by omega) (by omega)]; exact n4, cN, cF nP, m1, bV, m3, m5, bI]
              exact taxiM (d + 19) q (l := R.2.2) (by omega) (by rw [R2]; exact m8) m7 R.2.2.length 0 0 (by omega)
        · refine okC_same r0 (rfv c kk 0) ?_ ?_
          · rw [fE_taxi_eq, cF qq1, cF qq2, refDr (d + 15) hz V qk, bI, cF (by rcases rfv_n hc with e | e <;> rw [e] <;> decide)]
          · rw [fM_taxi_eq, isShelfM_s, qz1, bI, cF (by decide), isKnot_s, qk, bI, cF (by decide), within_s, qq3, bI, cN, cF (by decide)]
            rw [show fM_noRow (d + 19) (iN z) 0 h = some (some (.int (rfv c kk 0)), h) from noRow (d + 18) (q := 0) hz (by omega) V, bI, cF (by rcases rfv_n hc with e | e <;> rw [e] <;> decide)]
