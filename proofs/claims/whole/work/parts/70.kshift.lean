theorem K_shift (d : Nat) {L : Nat} {xs : Nat → Int32} {h : zm_H} (r : RR L xs h) (a p b j m : Int32) : okC L xs (fE_shift (d + 6) a p b j m) (fM_shift (d + 6) a p b j m) h := by
  have r0 := r
  obtain ⟨T, P, D, A, S, B, Q, W, N, C, T', Lw, G, I, Bd, Sh⟩ := r
  have hB := Bd.1
  by_cases q : a < 0 ∨ 6 ≤ a
  · refine okC_same r0 (-1) ?_ ?_
    · rw [fE_shift_eq, isShelf_s, le5_n q, bI, cT (by decide)]
    · rw [fM_shift_eq, isShelfM_s, le5_n q, bI, cT (by decide)]
  · have q1 := le5_6 q
    obtain ⟨s, hs, rfl⟩ := iN_exn 6 rfl (by decide) q
    by_cases u : b < 0 ∨ 6 ≤ b
    · refine okC_same r0 (-1) ?_ ?_
      · rw [fE_shift_eq, isShelf_s, q1, bI, cF (by decide), isShelf_s, le5_n u, bI, cN, cT (by decide)]
      · rw [fM_shift_eq, isShelfM_s, q1, bI, cF (by decide), isShelfM_s, le5_n u, bI, cN, cT (by decide)]
    · have u1 := le5_6 u
      obtain ⟨z, hz, rfl⟩ := iN_exn 6 rfl (by decide) u
      obtain ⟨c, k, n, V, X⟩ := shv_of hB (Sh s hs)
      obtain ⟨c', k', n', V', X'⟩ := shv_of hB (Sh z hz)
      have hE : fE_shift (d + 6) (iN s) p (iN z) j m h = cond (decide (c = 0)) (some (some (.int (-11)), h)) (cond (decide (c' = 0)) (some (some (.int (-11)), h)) (cond (!decide (c = 2)) (some (some (.int (-12)), h))
          (zb_I (fSh_isRowOf (d + 5) (33 + z) (h.1 (33 + s) 2) h) (fun v12 h11 =>
            cond (!(decide (v12 = 0))) (cond true (zb_I (fSh_hasSpan (d + 5) (33 + s) p m h11) (fun v14 h13 =>
              cond (decide (v14 = 0)) (some (some (.int ((-13 : Int32))), h13)) (cond true (zb_I (fSh_hasSpan (d + 5) (33 + z) j m h13) (fun v16 h15 =>
                cond (!(decide (v16 = 0))) (cond true (cond true (cond (zm_cpG (39 + s) (39 + z) p j m && Nat.ble 0 8) (some (some (.int m), (zm_cpy h15 (39 + s) (39 + z) (p).toNatClampNeg (j).toNatClampNeg (m).toNatClampNeg))) none) none) none)
                  (some (some (.int ((-13 : Int32))), h15)))) none))) none)
              (some (some (.int ((-12 : Int32))), h11)))))) := by
        rw [fE_shift_eq, isShelf_s, q1, bI, cF (by decide), isShelf_s, u1, bI, cN, cF (by decide), gQ_32 hs, gQ_32 hz, iN_c (by omega), iN_c (by omega), rt32 hs, rt32 hz, isO7 hs, isO7 hz, rt33 hs, rt33 hz, isE_c _ hs V, bI, zi_0]
        cases decide (c = 0)
        · simp only [Bool.cond_true, Bool.cond_false, Bool.not_false, Bool.not_true, isE_c _ hz V', bI, zi_0]
          cases decide (c' = 0)
          · simp only [Bool.cond_true, Bool.cond_false, Bool.not_false, Bool.not_true, isR_c _ hs V, bI, zi_0]
          · rfl
        · rfl
      have hM : ∀ K : zm_H, K.1 = h.1 → fM_shift (d + 6) (iN s) p (iN z) j m K = cond (decide (c = 0)) (some (some (.int (-11)), K)) (cond (decide (c' = 0)) (some (some (.int (-11)), K)) (cond (!decide (c = 2)) (some (some (.int (-12)), K)) (cond (!decide (c' = 2)) (some (some (.int (-12)), K))
          (cond (decide ((K.1 73 s) = (K.1 73 z)))
        (cond (decide (m < 0))
         (some (some (.int ((-13 : Int32))), K))
         (cond (decide (p < 0))
          (some (some (.int ((-13 : Int32))), K))
          (cond (decide (j < 0))
           (some (some (.int ((-13 : Int32))), K))
           (cond (decide (0 < (lg_cmp (p.toInt64 + m.toInt64) ((K.1 74 s).toInt64))))
            (some (some (.int ((-13 : Int32))), K))
            (cond (decide ((lg_cmp (j.toInt64 + m.toInt64) ((K.1 74 z).toInt64)) ≤ 0))
             (cond (!(decide (iN s = iN z)))
              (fM_shift_c188 (d + 6) (iN s) p (iN z) j m 0 K)
              (cond (decide (j ≤ p))
               (fM_shift_c188 (d + 6) (iN s) p (iN z) j m 0 K)
               (fM_shift_c142 (d + 6) (iN s) p (iN z) j m (m - (1 : Int32)) K)))
             (some (some (.int ((-13 : Int32))), K)))))))
        (some (some (.int ((-12 : Int32))), K)))))) := by
        intro K eK
        have VK : shv B K s c k n := by unfold shv; rw [eK]; exact V
        have VK' : shv B K z c' k' n' := by unfold shv; rw [eK]; exact V'
        rw [fM_shift_eq, isShelfM_s, q1, bI, cF (by decide), isShelfM_s, u1, bI, cN, cF (by decide), gR_73 hs, gR_73 hz, iN_c (by omega), iN_c (by omega), isE_M VK, isE_M VK']
        cases decide (c = 0)
        · simp only [Bool.cond_true, Bool.cond_false, Bool.not_false, Bool.not_true]
          cases decide (c' = 0)
          · simp only [Bool.cond_true, Bool.cond_false, Bool.not_false, Bool.not_true, isR_M _ hs VK, isR_M _ hz VK', bI, zi_0]
            cases decide (c = 2)
            · rfl
            · simp only [Bool.cond_true, Bool.cond_false, Bool.not_false, Bool.not_true, gR_73 hs, gR_73 hz, gR_74 hs, gR_74 hz]
          · rfl
        · rfl
      by_cases h0 : c = 0
      · exact okC_same r0 (-11) (by rw [hE, decide_eq_true h0]; rfl) (by rw [hM h rfl, decide_eq_true h0]; rfl)
      · by_cases h0' : c' = 0
        · exact okC_same r0 (-11) (by rw [hE, decide_eq_false h0, decide_eq_true h0']; rfl) (by rw [hM h rfl, decide_eq_false h0, decide_eq_true h0']; rfl)
        · by_cases h2 : c = 2
          · by_cases h2' : c' = 2
            · subst h2 h2'
              obtain ⟨v, -⟩ | ⟨v, -⟩ | ⟨-, v0, v1, v2, v3, v4, v5, v6⟩ := V
              · exact absurd v (by omega)
              · exact absurd v (by omega)
              obtain ⟨w, -⟩ | ⟨w, -⟩ | ⟨-, w0, w1, w2, w3, w4, w5, w6⟩ := V'
              · exact absurd w (by omega)
              · exact absurd w (by omega)
              by_cases hk : k = k'
              · subst hk
                have hE1 : fE_shift (d + 6) (iN s) p (iN z) j m h = cond (decide (0 ≤ m ∧ 0 ≤ p ∧ m ≤ iN n ∧ p ≤ iN n - m)) (cond (decide (0 ≤ m ∧ 0 ≤ j ∧ m ≤ iN n' ∧ j ≤ iN n' - m)) (cond (zm_cpG (39 + s) (39 + z) p j m) (some (some (.int m), (zm_cpy h (39 + s) (39 + z) (p).toNatClampNeg (j).toNatClampNeg (m).toNatClampNeg))) none) (some (some (.int (-13)), h))) (some (some (.int (-13)), h)) := by
                  rw [hE, decide_eq_false h0, decide_eq_true (rfl : (2 : Nat) = 2), v3, isRowOf_s _ hz, w3, decide_eq_false (iN_ne1 (show k < 2147483648 by omega)), decide_eq_true (rfl : iN k = iN k)]
                  simp only [Bool.cond_true, Bool.cond_false, Bool.not_false, Bool.not_true, Bool.and_self, bI, zi_0, hasSpan_s _ hs, hasSpan_s _ hz, v4, w4, span_n v1, span_n w1, Bool.not_not, show Nat.ble 0 8 = true from rfl, Bool.and_true]
                  cases decide (0 ≤ m ∧ 0 ≤ p ∧ m ≤ iN n ∧ p ≤ iN n - m) <;> cases decide (0 ≤ m ∧ 0 ≤ j ∧ m ≤ iN n' ∧ j ≤ iN n' - m) <;> rfl
                by_cases hm : 0 ≤ m
                · by_cases hp : 0 ≤ p
                  · by_cases hj : 0 ≤ j
                    · obtain ⟨m, hm31, rfl⟩ : ∃ k, k < 2147483648 ∧ m = iN k := ⟨_, iN_bd m, iN_of hm⟩
                      obtain ⟨p, hp31, rfl⟩ : ∃ k, k < 2147483648 ∧ p = iN k := ⟨_, iN_bd p, iN_of hp⟩
                      obtain ⟨j, hj31, rfl⟩ : ∃ k, k < 2147483648 ∧ j = iN k := ⟨_, iN_bd j, iN_of hj⟩
                      have sp : ∀ (x y : Nat), x < 2147483648 → y ≤ 60 → (0 ≤ iN m ∧ 0 ≤ iN x ∧ iN m ≤ iN y ∧ iN x ≤ iN y - iN m ↔ x + m ≤ y) := by
                        intro x y hx hy
                        by_cases e : m ≤ y
                        · rw [iN_sub e, iN_le (by omega) (by omega), iN_le (by omega) (by omega)]
                          constructor
                          · rintro ⟨-, -, -, e4⟩; omega
                          · intro e4; refine ⟨hm, ?_, e, by omega⟩
                            rw [show (0 : Int32) = iN 0 from rfl, iN_le (by omega) (by omega)]; omega
                        · rw [iN_le (by omega) (by omega)]
                          constructor
                          · rintro ⟨-, -, e3, -⟩; exact absurd e3 e
                          · intro e4; omega
                      have hM1 : ∀ K : zm_H, K.1 = h.1 → fM_shift (d + 6) (iN s) (iN p) (iN z) (iN j) (iN m) K = cond (decide (p + m ≤ n)) (cond (decide (j + m ≤ n')) (cond (!(decide (iN s = iN z)))
                            (fM_shift_c188 (d + 6) (iN s) (iN p) (iN z) (iN j) (iN m) 0 K)
                            (cond (decide (iN j ≤ iN p))
                             (fM_shift_c188 (d + 6) (iN s) (iN p) (iN z) (iN j) (iN m) 0 K)
                             (fM_shift_c142 (d + 6) (iN s) (iN p) (iN z) (iN j) (iN m) (iN m - (1 : Int32)) K))) (some (some (.int (-13)), K))) (some (some (.int (-13)), K)) := by
                        intro K eK
                        rw [hM K eK, eK, decide_eq_false h0, decide_eq_true (rfl : (2 : Nat) = 2), v5, w5, v6, w6, decide_eq_true (rfl : iN k = iN k), decide_eq_false (iN_lt0 hm31), decide_eq_false (iN_lt0 hp31), decide_eq_false (iN_lt0 hj31)]
                        have l1 : decide (0 < lg_cmp ((iN p).toInt64 + (iN m).toInt64) (iN n).toInt64) = !decide (p + m ≤ n) := by
                          rw [← decide_not, decide_eq_decide, ← Int32.not_le, lg_cmp_le, le64 hp31 hm31 (by omega)]
                        have l2 : decide (lg_cmp ((iN j).toInt64 + (iN m).toInt64) (iN n').toInt64 ≤ 0) = decide (j + m ≤ n') := by
                          rw [decide_eq_decide, lg_cmp_le, le64 hj31 hm31 (by omega)]
                        rw [l1, l2]
                        cases decide (p + m ≤ n) <;> rfl
                      by_cases g1 : p + m ≤ n
                      · by_cases g2 : j + m ≤ n'
                        · have hcp : zm_cpG (39 + s) (39 + z) (iN p) (iN j) (iN m) = true := by
                            unfold zm_cpG
                            rw [kd39 hs, kd39 hz, iN_c hp31, iN_c hj31, iN_c hm31, decide_eq_false (iN_lt0 hm31), decide_eq_false (iN_lt0 hp31), decide_eq_false (iN_lt0 hj31)]
                            simp only [Nat.ble_eq_true_of_le (show p + m ≤ 60 by omega), Nat.ble_eq_true_of_le (show j + m ≤ 60 by omega)]
                            rfl
                          have hE2 : fE_shift (d + 6) (iN s) (iN p) (iN z) (iN j) (iN m) h = some (some (.int (iN m)), zm_cpy h (39 + s) (39 + z) p j m) := by
                            rw [hE1, decide_eq_true ((sp p n hp31 v1).mpr g1), decide_eq_true ((sp j n' hj31 w1).mpr g2), hcp, iN_c hp31, iN_c hj31, iN_c hm31]; rfl
                          have hM2 : ∃ K, fM_shift (d + 6) (iN s) (iN p) (iN z) (iN j) (iN m) (zm_cpy h (39 + s) (39 + z) p j m) = some (some (.int (iN m)), K) ∧ K.1 = h.1 ∧ (∀ a, a ≠ 75 → K.2 a = (zm_cpy h (39 + s) (39 + z) p j m).2 a) ∧
                              (∀ b, K.2 75 b = if 60 * z + j ≤ b ∧ b < 60 * z + j + m then h.2 75 (60 * s + p + (b - (60 * z + j))) else h.2 75 b) := by
                            have e75 : (zm_cpy h (39 + s) (39 + z) p j m).2 75 = h.2 75 := by
                              funext y; show (if 75 = 39 + z then _ else h.2 75 y) = _; rw [if_neg (by omega)]
                            rw [hM1 (zm_cpy h (39 + s) (39 + z) p j m) rfl, decide_eq_true g1, decide_eq_true g2]
                            by_cases e1 : s = z
                            · subst e1
                              rw [decide_eq_true (rfl : iN s = iN s)]
                              by_cases e2 : j ≤ p
                              · rw [decide_eq_true (show iN j ≤ iN p by rw [iN_le (by omega) (by omega)]; exact e2)]
                                obtain ⟨K, f, k1, k2, k3⟩ := mshift188 (d + 5) hs hs (n := m) (p := p) (j := j) (by omega) (by omega) (.inl (by omega)) m 0 (zm_cpy h (39 + s) (39 + s) p j m) (by omega)
                                exact ⟨K, f, k1, k2, fun b => by rw [k3 b, e75]; rfl⟩
                              · rw [decide_eq_false (show ¬ iN j ≤ iN p by rw [iN_le (by omega) (by omega)]; exact e2)]
                                obtain ⟨K, f, k1, k2, k3⟩ := mshift142 (d + 5) hs (n := m) (p := p) (j := j) (by omega) (by omega) (by omega) m (zm_cpy h (39 + s) (39 + s) p j m) (by omega)
                                exact ⟨K, f, k1, k2, fun b => by rw [k3 b, e75]⟩
                            · rw [decide_eq_false (show ¬ iN s = iN z by rw [iN_eq (by omega) (by omega)]; exact e1)]
                              obtain ⟨K, f, k1, k2, k3⟩ := mshift188 (d + 5) hs hz (n := m) (p := p) (j := j) (by omega) (by omega) (by omega) m 0 (zm_cpy h (39 + s) (39 + z) p j m) (by omega)
                              exact ⟨K, f, k1, k2, fun b => by rw [k3 b, e75]; rfl⟩
                          obtain ⟨K, f, k1, k2, k3⟩ := hM2
                          have kk : ∀ a, K.1 a = h.1 a := fun a => by rw [k1]
                          refine ⟨_, _, _, hE2, f, T, P, D, A, S, B, Q, rW_d ?_ W, rN_d ?_ N, rC_d ?_ C, rT_d ?_ T', rL_d ?_ Lw, rG_d ?_ G, rI_d ?_ I, rB_d ?_ Bd, rS_upd (s := z) Sh ?_ ?_⟩
                          · simp only [dW, kk, and_self]
                          · simp only [dN, kk, and_self]
                          · simp only [dC, kk, and_self]
                          · simp only [dT, kk, and_self]
                          · simp only [dL, kk, and_self]
                          · simp only [dG, kk, and_self]
                          · simp only [dI, kk, and_self]
                          · simp only [dB, kk, and_self]
                          · intro y hy hne
                            refine ⟨by rw [kk], by rw [kk], by rw [kk], ?_, ?_⟩
                            · rw [k2 _ (by omega)]
                              funext b; show (if 39 + y = 39 + z then _ else _) = _; rw [if_neg (by omega)]
                            · intro i hi
                              rw [k3, if_neg (by omega)]
                          · refine .inr (.inr ⟨k, n', v0, w1, ?_, ?_, ?_, ?_, ?_, ?_⟩)
                            · rw [kk]; exact w2
                            · rw [kk]; exact w3
                            · rw [kk]; exact w4
                            · rw [kk]; exact w5
                            · rw [kk]; exact w6
                            · intro i hi
                              have e39 : K.2 (39 + z) i = if j ≤ i ∧ i < j + m then h.2 (39 + s) (p + (i - j)) else h.2 (39 + z) i := by
                                rw [k2 _ (by omega)]
                                show (if 39 + z = 39 + z then va_cpy (h.2 (39 + s)) (h.2 (39 + z)) p j m i else _) = _
                                rw [if_pos rfl]; rfl
                              rw [e39, k3]
                              by_cases e : j ≤ i ∧ i < j + m
                              · rw [if_pos e, if_pos (by omega)]
                                have := X rfl (p + (i - j)) (by omega)
                                rw [show 60 * s + p + (60 * z + i - (60 * z + j)) = 60 * s + (p + (i - j)) by omega]
                                exact this
                              · rw [if_neg e, if_neg (by omega)]
                                exact X' rfl i hi
                        · refine okC_same r0 (-13) ?_ ?_
                          · rw [hE1, decide_eq_true ((sp p n hp31 v1).mpr g1), decide_eq_false (fun e => g2 ((sp j n' hj31 w1).mp e))]; rfl
                          · rw [hM1 h rfl, decide_eq_true g1, decide_eq_false g2]; rfl
                      · refine okC_same r0 (-13) ?_ ?_
                        · rw [hE1, decide_eq_false (fun e => g1 ((sp p n hp31 v1).mp e))]; rfl
                        · rw [hM1 h rfl, decide_eq_false g1]; rfl
                    · refine okC_same r0 (-13) ?_ ?_
                      · rw [hE1, decide_eq_false (show ¬ (0 ≤ m ∧ 0 ≤ j ∧ m ≤ iN n' ∧ j ≤ iN n' - m) from fun e => hj e.2.1)]
                        cases decide (0 ≤ m ∧ 0 ≤ p ∧ m ≤ iN n ∧ p ≤ iN n - m) <;> rfl
                      · rw [hM h rfl, decide_eq_false h0, decide_eq_true (rfl : (2 : Nat) = 2), v5, w5, decide_eq_true (rfl : iN k = iN k), decide_eq_true (Int32.not_le.mp hj), decide_eq_false (Int32.not_lt.mpr hm), decide_eq_false (Int32.not_lt.mpr hp)]; rfl
                  · refine okC_same r0 (-13) ?_ ?_
                    · rw [hE1, decide_eq_false (show ¬ (0 ≤ m ∧ 0 ≤ p ∧ m ≤ iN n ∧ p ≤ iN n - m) from fun e => hp e.2.1)]; rfl
                    · rw [hM h rfl, decide_eq_false h0, decide_eq_true (rfl : (2 : Nat) = 2), v5, w5, decide_eq_true (rfl : iN k = iN k), decide_eq_false (Int32.not_lt.mpr hm), decide_eq_true (Int32.not_le.mp hp)]; rfl
                · refine okC_same r0 (-13) ?_ ?_
                  · rw [hE1, decide_eq_false (show ¬ (0 ≤ m ∧ 0 ≤ p ∧ m ≤ iN n ∧ p ≤ iN n - m) from fun e => hm e.1)]; rfl
                  · rw [hM h rfl, decide_eq_false h0, decide_eq_true (rfl : (2 : Nat) = 2), v5, w5, decide_eq_true (rfl : iN k = iN k), decide_eq_true (Int32.not_le.mp hm)]; rfl
              · refine okC_same r0 (-12) ?_ ?_
                · rw [hE, decide_eq_false h0, decide_eq_true (rfl : (2 : Nat) = 2), v3, isRowOf_s _ hz, w3, decide_eq_false (show ¬ iN k' = iN k by rw [iN_eq (by omega) (by omega)]; omega)]
                  cases decide (iN k' = -1) <;> rfl
                · rw [hM h rfl, decide_eq_false h0, decide_eq_true (rfl : (2 : Nat) = 2), v5, w5, decide_eq_false (show ¬ iN k = iN k' by rw [iN_eq (by omega) (by omega)]; omega)]; rfl
            · refine okC_same r0 (-12) ?_ ?_
              · obtain ⟨w, -⟩ | ⟨-, -, -, w, -⟩ | ⟨w, -⟩ := V'
                · exact absurd w h0'
                · rw [hE, decide_eq_false h0, decide_eq_false h0', decide_eq_true h2, isRowOf_s _ hz, w]; rfl
                · exact absurd w h2'
              · rw [hM h rfl, decide_eq_false h0, decide_eq_false h0', decide_eq_true h2, decide_eq_false h2']; rfl
          · exact okC_same r0 (-12) (by rw [hE, decide_eq_false h0, decide_eq_false h0', decide_eq_false h2]; rfl) (by rw [hM h rfl, decide_eq_false h0, decide_eq_false h0', decide_eq_false h2]; rfl)
