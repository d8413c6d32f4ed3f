/-! drawn -/
def drz (z : Int32) : Int32 := z * 1103515245 + 12345
def drd (z : Int32) : Int32 := (z.toUInt32 >>> ((8 : Int32).toUInt32 &&& Int32.toUInt32 31)).toInt32 - (z.toUInt32 >>> ((8 : Int32).toUInt32 &&& Int32.toUInt32 31)).toInt32 / 3 * 3
def drb (lw : Option (List (List Nat × List Nat))) (g : Nat → Int32) (b z : Int32) : Int32 := b - zm_max 0 (clo lw g b + drd z - 1)
def drt (lw : Option (List (List Nat × List Nat))) (g : Nat → Int32) (s : Int32) : Nat → Int32 → Int32 → Bool × Nat × Int32
  | 0, _, z => (false, 0, z)
  | n + 1, b, z => cond (rgt g b (drb lw g b (drz z))) (true, 1, drz z) ((drt lw g s n (nxt g b (drb lw g b (drz z)) s) (drz z)).1, (drt lw g s n (nxt g b (drb lw g b (drz z)) s) (drz z)).2.1 + 1, (drt lw g s n (nxt g b (drb lw g b (drz z)) s) (drz z)).2.2)
theorem drt_c (lw : Option (List (List Nat × List Nat))) (g : Nat → Int32) (s : Int32) : ∀ (n : Nat) (b z : Int32), (drt lw g s n b z).2.1 ≤ n ∧ ((drt lw g s n b z).1 = false → (drt lw g s n b z).2.1 = n) := by
  intro n
  induction n with
  | zero => intro b z; exact ⟨Nat.le_refl _, fun _ => rfl⟩
  | succ n ih =>
    intro b z
    rw [drt]
    obtain ⟨i1, i2⟩ := ih (nxt g b (drb lw g b (drz z)) s) (drz z)
    cases rgt g b (drb lw g b (drz z))
    · exact ⟨by show _ + 1 ≤ n + 1; omega, fun e => by show _ + 1 = n + 1; rw [i2 e]⟩
    · exact ⟨by show 1 ≤ n + 1; omega, fun e => absurd e (by simp)⟩
theorem drb_e (lw : Option (List (List Nat × List Nat))) (g : Nat → Int32) (b z : Int32) : b - zm_max 0 (clo lw g b + ((z.toUInt32 >>> ((8 : Int32).toUInt32 &&& Int32.toUInt32 31)).toInt32 - (z.toUInt32 >>> ((8 : Int32).toUInt32 &&& Int32.toUInt32 31)).toInt32 / 3 * 3) - 1) = drb lw g b z := rfl
theorem drawnC_l (d : Nat) {lw : Option (List (List Nat × List Nat))} {g : Nat → Int32} {s : Int32} (hs : ¬ s = 0) : ∀ (n i : Nat) (b z : Int32) (h : zm_H), i + n = 61 → 1 ≤ i → h.1 14 11 = z → lwC lw h → cE g h →
    ∃ K, fHa_drawnTries_c5 (d + 5) s b (iN i) h = some (some (.int (cond (drt lw g s n b z).1 (iN (i - 1 + (drt lw g s n b z).2.1)) (-2))), K) ∧ frH h K ∧ cE g K ∧ K.1 14 11 = (drt lw g s n b z).2.2 := by
  intro n
  induction n with
  | zero =>
    intro i b z h hi _ ez _ rE
    refine ⟨h, ?_, frH_r h, rE, ez⟩
    rw [fHa_drawnTries_c5_eq, cT (by simp (disch := omega) only [iN_add, iN_addl, iN_addr, iN_mul, iN_mull, iN_mulr, iN_sub, iN_subl, iN_subr, iN_c, iN_lt, iN_ltl, iN_ltr, iN_le, iN_lel, iN_ler, iN_eq, iN_eql, iN_eqr]; omega)]; rfl
  | succ n ih =>
    intro i b z h hi h1 ez rl rE
    have rE1 : cE g (zm_ui h 14 11 (drz z)) := fun j j1 j2 => by rw [ui_k (by omega)]; exact rE j j1 j2
    obtain ⟨K, k1, k2⟩ := clothC d (frH_lwC (frH_14 h 11 (drz z)) rl) rE1 b
    have f1 : frH h K := frH_t (frH_14 _ _ _) (frH_C k2)
    have e11 : K.1 14 11 = drz z := by rw [k2.1 14 (by omega) (by omega), ui_s]
    rw [fHa_drawnTries_c5_eq, cF (by simp (disch := omega) only [iN_add, iN_addl, iN_addr, iN_mul, iN_mull, iN_mulr, iN_sub, iN_subl, iN_subr, iN_c, iN_lt, iN_ltl, iN_ltr, iN_le, iN_lel, iN_ler, iN_eq, iN_eql, iN_eqr]; omega), ez, show z * 1103515245 + 12345 = drz z from rfl, k1, bI, e11]
    rw [drb_e, rightC (d + 2) (cE_f k2 rE1), bI, zi_0, drt]
    cases rgt g b (drb lw g b (drz z))
    · obtain ⟨M, m1, m2, m3, m4⟩ := ih (i + 1) (nxt g b (drb lw g b (drz z)) s) (drz z) K (by omega) (by omega) e11 (frH_lwC f1 rl) (cE_f k2 rE1)
      refine ⟨M, ?_, frH_t f1 m2, m3, m4⟩
      rw [Bool.not_false, Bool.cond_true, corrC (d + 3) (cE_f k2 rE1) b _ hs, bI, iN_addr, m1]
      show _ = (some (some (.int (cond (drt lw g s n (nxt g b (drb lw g b (drz z)) s) (drz z)).1 (iN (i - 1 + ((drt lw g s n (nxt g b (drb lw g b (drz z)) s) (drz z)).2.1 + 1))) (-2))), M) : zm_R)
      rw [show i - 1 + ((drt lw g s n (nxt g b (drb lw g b (drz z)) s) (drz z)).2.1 + 1) = i + 1 - 1 + (drt lw g s n (nxt g b (drb lw g b (drz z)) s) (drz z)).2.1 by omega]
    · refine ⟨K, ?_, f1, cE_f k2 rE1, e11⟩
      show (some (some (.int (iN i)), K) : zm_R) = some (some (.int (iN (i - 1 + 1))), K)
      rw [show i - 1 + 1 = i by omega]
theorem drawnC (d : Nat) {lw : Option (List (List Nat × List Nat))} {g : Nat → Int32} {s : Int32} (hs : ¬ s = 0) (b z : Int32) {h : zm_H} (ez : h.1 14 11 = z) (rl : lwC lw h) (rE : cE g h) :
    ∃ K, fHa_drawnTries (d + 5) b s h = some (some (.int (cond (drt lw g s 60 b z).1 (iN (drt lw g s 60 b z).2.1) (-2))), K) ∧ frH h K ∧ cE g K ∧ K.1 14 11 = (drt lw g s 60 b z).2.2 := by
  obtain ⟨K, k1, k2⟩ := drawnC_l d hs 60 1 b z h (by omega) (by omega) ez rl rE
  refine ⟨K, ?_, k2⟩
  rw [fHa_drawnTries_eq]
  rw [show 1 - 1 + (drt lw g s 60 b z).2.1 = (drt lw g s 60 b z).2.1 by omega] at k1
  exact k1
/-- the mornings -/
def drs (R : Int32 → Bool × Nat × Int32) : Nat → Int32 → Nat → Nat → Nat × Nat
  | 0, _, A, V => (A, V)
  | n + 1, z, A, V => drs R n (R z).2.2 (A + (R z).2.1) (V + cond (R z).1 0 1)
theorem drawnE (d : Nat) {lw : Option (List (List Nat × List Nat))} {g : Nat → Int32} {bs nw b s : Int32} {m : Nat} (hm : m ≤ 50) (e1 : bs / 10 = b) (e2 : bs - bs / 10 * 10 = s) (hs : ¬ s = 0) (en : nw / 10 = iN m) : ∀ (n i A V : Nat) (z : Int32) (h : zm_H), i + n = m → A ≤ 60 * i → V ≤ i → h.1 14 11 = z → lwC lw h → cE g h →
    ∃ K, fE_drawn_c65 (d + 6) bs nw (iN A) (iN V) (iN i) h = some (some (.int (cond (!(decide (nw - nw / 10 * 10 = 0))) (iN (drs (drt lw g s 60 b) n z A V).2) (iN (drs (drt lw g s 60 b) n z A V).1))), K) ∧ frH h K := by
  have C : ∀ (z : Int32) (h : zm_H), h.1 14 11 = z → lwC lw h → cE g h → ∃ K, fHa_drawnTries (d + 5) b s h = some (some (.int (cond (drt lw g s 60 b z).1 (iN (drt lw g s 60 b z).2.1) (-2))), K) ∧ frH h K ∧ cE g K ∧ K.1 14 11 = (drt lw g s 60 b z).2.2 := fun z h ez rl rE => drawnC d hs b z ez rl rE
  have tc := drt_c lw g s 60 b
  generalize drt lw g s 60 b = R at C tc ⊢
  intro n
  induction n with
  | zero =>
    intro i A V z h hi _ _ _ _ _
    obtain rfl : i = m := by omega
    refine ⟨h, ?_, frH_r h⟩
    rw [fE_drawn_c65_eq, cT (by rw [en, iN_le (by omega) (by omega)]; omega), cI]; rfl
  | succ n ih =>
    intro i A V z h hi hA hV ez rl rE
    obtain ⟨K, k1, k2, k3, k4⟩ := C z h ez rl rE
    obtain ⟨t1, t2⟩ := tc z
    rw [fE_drawn_c65_eq, cF (by rw [en, iN_le (by omega) (by omega)]; omega), e2, e1, k1, bI, drs]
    cases q : (R z).1
    · obtain ⟨M, m1, m2⟩ := ih (i + 1) (A + (R z).2.1) (V + cond false 0 1) (R z).2.2 K (by omega) (by omega) (by show V + 1 ≤ i + 1; omega) k4 (frH_lwC k2 rl) k3
      refine ⟨M, ?_, frH_t k2 m2⟩
      rw [Bool.cond_false, cN, cT rfl, cN, cT rfl, iN_addr, iN_addr, iN_addr, ← m1, t2 q]; rfl
    · obtain ⟨M, m1, m2⟩ := ih (i + 1) (A + (R z).2.1) (V + cond true 0 1) (R z).2.2 K (by omega) (by omega) (by show V + 0 ≤ i + 1; omega) k4 (frH_lwC k2 rl) k3
      refine ⟨M, ?_, frH_t k2 m2⟩
      have ne : ¬ iN (R z).2.1 = -2 := iN_ne2 (by omega)
      rw [Bool.cond_true, cN, cF ne, cN, cF ne, iN_add, iN_addr, iN_addr, ← m1]; rfl
theorem drawnM_l (d : Nat) {lw : Option (List (List Nat × List Nat))} {g : Nat → Int32} {t k : Nat} (ht : t < 8) (hk : k < 5) {a bs nw s : Int32} (e1 : a / 10 = iN t) (e2 : a - a / 10 * 10 = iN k) (e4 : bs - bs / 10 * 10 = s) (hs : ¬ s = 0) : ∀ (n j A V i : Nat) (b z : Int32) (h : zm_H), j + n = 60 → lwM lw h → mE g t k h →
    ∃ K, fM_drawn_c79 (d + 6) a bs nw z (iN A) (iN V) (iN i) b 0 (iN j) h = fM_drawn_c57 (d + 6) a bs nw (drt lw g s n b z).2.2 (iN (A + (drt lw g s n b z).2.1)) (iN (V + cond (drt lw g s n b z).1 0 1)) (iN (i + 1)) K ∧ frM h K := by
  intro n
  induction n with
  | zero =>
    intro j A V i b z h hj _ _
    obtain rfl : j = 60 := by omega
    refine ⟨h, ?_, frM_r h⟩
    rw [fM_drawn_c79_eq, cT (by decide), cN, cT rfl, iN_addr, iN_addr]; rfl
  | succ n ih =>
    intro j A V i b z h hj rl rE
    obtain ⟨K, k1, k2⟩ := clothM d ht hk rl rE b
    rw [fM_drawn_c79_eq, cF (by simp (disch := omega) only [iN_add, iN_addl, iN_addr, iN_mul, iN_mull, iN_mulr, iN_sub, iN_subl, iN_subr, iN_c, iN_lt, iN_ltl, iN_ltr, iN_le, iN_lel, iN_ler, iN_eq, iN_eql, iN_eqr]; omega), cN, cT rfl, e2, e1, k1, bI, show z * 1103515245 + 12345 = drz z from rfl, drb_e, rightM (d + 3) ht (mE_f k2 rE), bI, e4, nextM (d + 4) (mE_f k2 rE) b _ hs, bI, drt]
    cases rgt g b (drb lw g b (drz z))
    · obtain ⟨M, m1, m2⟩ := ih (j + 1) (A + 1) V i (nxt g b (drb lw g b (drz z)) s) (drz z) K (by omega) (lwM_f k2 rl) (mE_f k2 rE)
      refine ⟨M, ?_, frM_t k2 m2⟩
      rw [zi_f, iN_addr, iN_addr, m1]
      show fM_drawn_c57 (d + 6) a bs nw _ (iN (A + 1 + (drt lw g s n (nxt g b (drb lw g b (drz z)) s) (drz z)).2.1)) _ _ M = fM_drawn_c57 (d + 6) a bs nw _ (iN (A + ((drt lw g s n (nxt g b (drb lw g b (drz z)) s) (drz z)).2.1 + 1))) _ _ M
      rw [show A + 1 + (drt lw g s n (nxt g b (drb lw g b (drz z)) s) (drz z)).2.1 = A + ((drt lw g s n (nxt g b (drb lw g b (drz z)) s) (drz z)).2.1 + 1) by omega]; rfl
    · refine ⟨K, ?_, k2⟩
      rw [zi_t, fM_drawn_c79_eq]
      have e0 : ¬ ((1 : Int32) = 0) := by decide
      rw [decide_eq_false e0, iN_addr, iN_addr, iN_addr]
      cases decide (60 ≤ iN (j + 1)) <;> rfl
theorem drawnM (d : Nat) {lw : Option (List (List Nat × List Nat))} {g : Nat → Int32} {t k : Nat} (ht : t < 8) (hk : k < 5) {a bs nw b s : Int32} {m : Nat} (hm : m ≤ 50) (e1 : a / 10 = iN t) (e2 : a - a / 10 * 10 = iN k) (e3 : bs / 10 = b) (e4 : bs - bs / 10 * 10 = s) (hs : ¬ s = 0) (en : nw / 10 = iN m) : ∀ (n i A V : Nat) (z : Int32) (h : zm_H), i + n = m → lwM lw h → mE g t k h →
    ∃ K, fM_drawn_c57 (d + 6) a bs nw z (iN A) (iN V) (iN i) h = some (some (.int (cond (!(decide (nw - nw / 10 * 10 = 0))) (iN (drs (drt lw g s 60 b) n z A V).2) (iN (drs (drt lw g s 60 b) n z A V).1))), K) ∧ frM h K := by
  have C : ∀ (A V i : Nat) (z : Int32) (h : zm_H), lwM lw h → mE g t k h → ∃ K, fM_drawn_c79 (d + 6) a bs nw z (iN A) (iN V) (iN i) b 0 0 h = fM_drawn_c57 (d + 6) a bs nw (drt lw g s 60 b z).2.2 (iN (A + (drt lw g s 60 b z).2.1)) (iN (V + cond (drt lw g s 60 b z).1 0 1)) (iN (i + 1)) K ∧ frM h K := fun A V i z h rl rE => drawnM_l d (nw := nw) ht hk e1 e2 e4 hs 60 0 A V i b z h (by omega) rl rE
  generalize drt lw g s 60 b = R at C ⊢
  intro n
  induction n with
  | zero =>
    intro i A V z h hi _ _
    obtain rfl : i = m := by omega
    refine ⟨h, ?_, frM_r h⟩
    rw [fM_drawn_c57_eq, cT (by rw [en, iN_le (by omega) (by omega)]; omega), cI]; rfl
  | succ n ih =>
    intro i A V z h hi rl rE
    obtain ⟨K, k1, k2⟩ := C A V i z h rl rE
    obtain ⟨M, m1, m2⟩ := ih (i + 1) (A + (R z).2.1) (V + cond (R z).1 0 1) (R z).2.2 K (by omega) (lwM_f k2 rl) (mE_f k2 rE)
    refine ⟨M, ?_, frM_t k2 m2⟩
    rw [fM_drawn_c57_eq, cF (by rw [en, iN_le (by omega) (by omega)]; omega), e3, drs, k1, m1]
theorem K_drawn (d : Nat) {L : Nat} {xs : Nat → Int32} {h : zm_H} (r : RR L xs h) (a bs z nw : Int32) : okC L xs (fE_drawn (d + 20) a bs z nw) (fM_drawn (d + 20) a bs z nw) h := by
  have r0 := r
  obtain ⟨T, P, D, A, S, B, Q, W, N, C, T', Lw, G, I, Bd, Sh⟩ := r
  have N0 := N
  obtain ⟨⟨hT, hP, n1, n2, n3, n4⟩, N1, N2, N3⟩ := N
  obtain ⟨lw, l1, l2⟩ := rL_lw Lw
  cases q : tkB T a
  · refine okC_same r0 (-1) ?_ ?_
    · rw [fE_drawn_eq, tkE (d + 16) a n1 n3, q, bI, cT (by decide)]
    · rw [fM_drawn_eq, tkM (d + 16) hT a n2, q, bI, cT (by decide)]
  · obtain ⟨t, k, ht, hk, e1, e2⟩ := tk_ex hT q
    cases q2 : trB bs
    · refine okC_same r0 (-1) ?_ ?_
      · rw [fE_drawn_eq, tkE (d + 16) a n1 n3, q, bI, cF (by decide), trE (d + 17) W, q2, bI, cT (by decide)]
      · rw [fM_drawn_eq, tkM (d + 16) hT a n2, q, bI, cF (by decide), trM (d + 16), q2, bI, cT (by decide)]
    · obtain ⟨b, s, hb, hs1, hs2, e3, e4⟩ := tr_ex q2
      have hE : fE_drawn (d + 20) a bs z nw h = cond (decide (nw < 10)) (some (some (.int (-1)), h)) (cond (decide (50 < nw / 10)) (some (some (.int (-1)), h)) (cond (decide (nw - nw / 10 * 10 ≤ 1)) (zb_Q (fE_hung (d + 19) a h) 14 (fun h5 => fE_drawn_c65 (d + 20) bs nw 0 0 0 (zm_ui h5 14 11 z))) (some (some (.int (-1)), h)))) := by
        rw [fE_drawn_eq, tkE (d + 16) a n1 n3, q, bI, cF (by decide), trE (d + 17) W, q2, bI, cF (by decide)]
      have hM : ∀ K : zm_H, K.1 45 0 = iN T → fM_drawn (d + 20) a bs z nw K = cond (decide (nw < 0)) (some (some (.int (-1)), K)) (cond (decide (1 ≤ nw / 10) && decide (nw / 10 ≤ 50)) (cond (decide (nw - nw / 10 * 10 ≤ 1)) (fM_drawn_c57 (d + 20) a bs nw z 0 0 0 K) (some (some (.int (-1)), K))) (some (some (.int (-1)), K))) := by
        intro K e
        rw [fM_drawn_eq, tkM (d + 16) hT a e, q, bI, cF (by decide), trM (d + 16), q2, bI, cF (by decide), within_s, bI, zi_0]
        cases (decide (1 ≤ nw / 10) && decide (nw / 10 ≤ 50)) <;> rfl
      by_cases w0 : nw < 0
      · exact okC_same r0 (-1) (by rw [hE, cT (by grind)]) (by rw [hM h n2, cT w0])
      · obtain ⟨v, hv, rfl⟩ : ∃ k, k < 2147483648 ∧ nw = iN k := ⟨_, iN_bd nw, iN_of (Int32.not_lt.mp w0)⟩
        have en : iN v / 10 = iN (v / 10) := iN_div hv
        have c1 : decide (iN v < 10) = decide (v < 10) := decide_eq_decide.mpr (by rw [iN_ltr (by decide) hv])
        have c2 : decide (50 < iN v / 10) = decide (50 < v / 10) := decide_eq_decide.mpr (by rw [en, iN_ltl (by decide) (by omega)])
        have c3 : (decide (1 ≤ iN v / 10) && decide (iN v / 10 ≤ 50)) = (decide (1 ≤ v / 10) && decide (v / 10 ≤ 50)) := by
          rw [en]; simp (disch := omega) only [iN_add, iN_addl, iN_addr, iN_mul, iN_mull, iN_mulr, iN_sub, iN_subl, iN_subr, iN_c, iN_lt, iN_ltl, iN_ltr, iN_le, iN_lel, iN_ler, iN_eq, iN_eql, iN_eqr]
        by_cases v1 : v < 10
        · refine okC_same r0 (-1) (by rw [hE, c1, decide_eq_true v1]; rfl) ?_
          rw [hM h n2, cF w0, c3, decide_eq_false (show ¬ 1 ≤ v / 10 by omega)]; rfl
        · by_cases v2 : 50 < v / 10
          · refine okC_same r0 (-1) (by rw [hE, c1, decide_eq_false v1, c2, decide_eq_true v2]; rfl) ?_
            rw [hM h n2, cF w0, c3, decide_eq_false (show ¬ v / 10 ≤ 50 by omega), Bool.and_false]; rfl
          · have c4 : (decide (1 ≤ v / 10) && decide (v / 10 ≤ 50)) = true := by simp; omega
            by_cases v3 : iN v - iN v / 10 * 10 ≤ 1
            · obtain ⟨K, k1, k2, k3⟩ := hung_s (d + 14) e1 e2 hT hP n1 n3 ht hk
              have f1 : frH h (zm_ui K 14 11 z) := frH_t k3 (frH_14 _ _ _)
              obtain ⟨K2, d1, d2⟩ := drawnE (d + 14) (lw := lw) (g := gOf h t k) (bs := bs) (nw := iN v) (b := iN b) (s := iN s) (m := v / 10) (by omega) e3 e4 (iN_n0 hs1 hs2) en (v / 10) 0 0 0 z (zm_ui K 14 11 z) (by omega) (by omega) (by omega) (ui_s _ _ _ _) (frH_lwC f1 l1) (fun j j1 j2 => by rw [ui_k (by omega)]; exact k2 j j1 j2)
              have f2 := frH_t f1 d2
              obtain ⟨M, m1, m2⟩ := drawnM (d + 14) (t := t) (k := k) (by omega) hk (bs := bs) (nw := iN v) (b := iN b) (s := iN s) (m := v / 10) (by omega) e1 e2 e3 e4 (iN_n0 hs1 hs2) en (v / 10) 0 0 0 z K2 (by omega) (frH_lwM f2 l2) (frH_mE f2 (mE_of N0 ht hk))
              refine ⟨cond (!(decide (iN v - iN v / 10 * 10 = 0))) (iN (drs (drt lw (gOf h t k) (iN s) 60 (iN b)) (v / 10) z 0 0).2) (iN (drs (drt lw (gOf h t k) (iN s) 60 (iN b)) (v / 10) z 0 0).1), K2, M, ?_, ?_, RR_q r0 (frQ_t (frQ_H f2) (frQ_M m2))⟩
              · rw [hE, c1, decide_eq_false v1, c2, decide_eq_false v2, decide_eq_true v3, k1, bQ, Bool.cond_false, Bool.cond_false, Bool.cond_true]; exact d1
              · rw [hM K2 (by rw [f2.1 45 (by omega) (by omega) (by omega)]; exact n2), cF w0, c3, c4, decide_eq_true v3, Bool.cond_true, Bool.cond_true]; exact m1
            · refine okC_same r0 (-1) (by rw [hE, c1, decide_eq_false v1, c2, decide_eq_false v2, decide_eq_false v3]; rfl) ?_
              rw [hM h n2, cF w0, c3, c4, decide_eq_false v3]; rfl
