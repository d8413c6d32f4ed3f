/-! the best order -/
def ofp (tl : List Nat) (m : Nat) (f : Nat → Nat) : List Nat := ((List.range m).map f).map (fun y => tl.getD y 0)
def dlo (mt : Nat → Nat → Nat) (N : Nat) (tl : List Nat) (m : Nat) (f : Nat → Nat) : Nat := (dn mt N (ofp tl m f) (fun _ => 0) 0).1
def bs (D : (Nat → Nat) → Nat) (m : Nat) : Nat → (Nat → Nat) → Nat → (Nat → Nat) → Nat × (Nat → Nat)
  | 0, _, v, b => (v, b)
  | n + 1, f, v, b => match nx m f with
    | none => (v, b)
    | some g => if v ≤ D g then bs D m n g v b else bs D m n g (D g) g
def its (m : Nat) : Nat → (Nat → Nat) → Bool
  | 0, _ => false
  | n + 1, f => match nx m f with
    | none => true
    | some g => its m n g
theorem its_0 : its 0 120 (fun p => p) = true := by decide +kernel
theorem its_1 : its 1 120 (fun p => p) = true := by decide +kernel
theorem its_2 : its 2 120 (fun p => p) = true := by decide +kernel
theorem its_3 : its 3 120 (fun p => p) = true := by decide +kernel
theorem its_4 : its 4 120 (fun p => p) = true := by decide +kernel
theorem its_5 : its 5 120 (fun p => p) = true := by decide +kernel
theorem its_m {m : Nat} (h : m ≤ 5) : its m 120 (fun p => p) = true := by
  have : m = 0 ∨ m = 1 ∨ m = 2 ∨ m = 3 ∨ m = 4 ∨ m = 5 := by omega
  rcases this with rfl | rfl | rfl | rfl | rfl | rfl
  · exact its_0
  · exact its_1
  · exact its_2
  · exact its_3
  · exact its_4
  · exact its_5
theorem dn_le {mt : Nat → Nat → Nat} (N : Nat) (hmt : ∀ w x, mt w x ≤ 600) : ∀ (xs : List Nat) (F : Nat → Nat) (l B : Nat), (∀ p, F p ≤ B) → l ≤ B → (dn mt N xs F l).1 ≤ B + 600 * xs.length := by
  intro xs
  induction xs with
  | nil => intro F l B _ h; exact h
  | cons x xs ih =>
    intro F l B h1 h2
    rw [dn]
    generalize ffl F (N - 1) 1 0 = w
    have a := hmt w x
    have b := h1 w
    have := ih (updN F w (F w + mt w x)) (max l (F w + mt w x)) (B + 600) (by
      intro p
      have := h1 p
      unfold updN; split <;> omega) (by omega)
    rw [List.length_cons]
    show (dn mt N xs (updN F w (F w + mt w x)) (max l (F w + mt w x))).1 ≤ B + 600 * (xs.length + 1)
    omega
theorem ofp_len (tl : List Nat) (m : Nat) (f : Nat → Nat) : (ofp tl m f).length = m := by
  unfold ofp; rw [List.length_map, List.length_map, List.length_range]
theorem getD_mapr {m j : Nat} (f : Nat → Nat) (h : j < m) : ((List.range m).map f).getD j 0 = f j := by simp [List.getD, h]
theorem getD_ofp (tl : List Nat) {m j : Nat} (f : Nat → Nat) (h : j < m) : (ofp tl m f).getD j 0 = tl.getD (f j) 0 := by
  unfold ofp; simp [List.getD, h]
theorem dlo_le {mt : Nat → Nat → Nat} {N m : Nat} (hm : m ≤ 6) (hmt : ∀ w x, mt w x ≤ 600) (tl : List Nat) (f : Nat → Nat) : dlo mt N tl m f ≤ 3600 := by
  have := dn_le N hmt (ofp tl m f) (fun _ => 0) 0 0 (fun _ => Nat.le_refl _) (Nat.le_refl _)
  rw [ofp_len] at this
  unfold dlo; omega
theorem bs_bd {D : (Nat → Nat) → Nat} {m B : Nat} : ∀ (n : Nat) (f : Nat → Nat) (v : Nat) (b : Nat → Nat), (∀ p, p < m → f p < B) → (∀ p, p < m → b p < B) → ∀ p, p < m → (bs D m n f v b).2 p < B := by
  intro n
  induction n with
  | zero => intro f v b _ h; exact h
  | succ n ih =>
    intro f v b hf hb
    rw [bs]
    cases q : nx m f with
    | none => exact hb
    | some g =>
      have hg := nx_bd hf q
      show ∀ p, p < m → (if v ≤ D g then bs D m n g v b else bs D m n g (D g) g).2 p < B
      split
      · exact ih _ _ _ hg hb
      · exact ih _ _ _ hg hg
theorem keepC (d : Nat) : ∀ (k i : Nat) (h : zm_H), i + k = 6 → ∃ K, fDr_keepOrder_c2 (d + 1) (iN i) h = some (none, K) ∧ (∀ a, a ≠ 18 → K.1 a = h.1 a) ∧ K.2 = h.2 ∧ (∀ p, p < 6 → i ≤ p → K.1 18 p = h.1 20 p) ∧ (∀ p, p < i → K.1 18 p = h.1 18 p) := by
  intro k
  induction k with
  | zero =>
    intro i h hi
    obtain rfl : i = 6 := by omega
    refine ⟨h, ?_, fun _ _ => rfl, rfl, fun p h1 h2 => absurd h1 (by omega), fun _ _ => rfl⟩
    rw [fDr_keepOrder_c2_eq, cT (by decide)]
  | succ k ih =>
    intro i h hi
    obtain ⟨K, f, k1, k2, k3, k4⟩ := ih (i + 1) (zm_ui h 18 i (h.1 20 i)) (by omega)
    refine ⟨K, ?_, ?_, k2, ?_, ?_⟩
    · rw [fDr_keepOrder_c2_eq, cF (by simp (disch := omega) only [iN_add, iN_addl, iN_addr, iN_mul, iN_mull, iN_mulr, iN_sub, iN_subl, iN_subr, iN_c, iN_lt, iN_ltl, iN_ltr, iN_le, iN_lel, iN_ler, iN_eq, iN_eql, iN_eqr]; omega), gR_20 (by omega), gW_18 (by omega), iN_c (by omega), iN_addr]; exact f
    · intro a h1; rw [k1 a h1, ui_f h1]
    · intro p h1 h2
      by_cases e : p = i
      · subst e; rw [k4 p (by omega), ui_s]
      · rw [k3 p h1 (by omega), ui_c (by omega)]
    · intro p h1
      rw [k4 p (by omega), ui_k (by omega)]
theorem doneO (d : Nat) {N m : Nat} (hN0 : 1 ≤ N) (hN : N ≤ 7) (hm : m ≤ 6) {mt : Nat → Nat → Nat} (hmt : ∀ w x, mt w x ≤ 600) {tl : List Nat} {f : Nat → Nat} (hf : ∀ p, p < m → f p < m) {h : zm_H} (e7 : h.1 15 7 = iN m) (r : rwf 20 m f h) (e21 : ∀ w y, w < N → y < m → h.1 21 (w * 6 + y) = iN (mt w (tl.getD y 0))) :
    ∃ K, fDr_done (d + 3) (iN N) h = some (some (.int (iN (dlo mt N tl m f))), K) ∧ (∀ a, a ≠ 17 → a ≠ 19 → a ≠ 22 → K.1 a = h.1 a) ∧ K.2 = h.2 := by
  have hl : ((List.range m).map f).length = m := by rw [List.length_map, List.length_range]
  have hx : ∀ x ∈ (List.range m).map f, x < m := fun x hx => by
    obtain ⟨j, hj, e⟩ := List.mem_map.mp hx
    rw [← e]; exact hf j (List.mem_range.mp hj)
  obtain ⟨K, k1, k2, k3, k4, k5⟩ := doneC d hN0 hN (mt := fun w x => mt w (tl.getD x 0)) (fun w x _ => hmt w _) (xs := (List.range m).map f) (by rw [hl]; exact hm) (fun x h1 => by have := hx x h1; omega) (h := h) (by rw [hl]; exact e7) (fun j hj => by rw [hl] at hj; rw [getD_mapr f hj]; exact r j hj) (fun w x h1 h2 => e21 w x h1 (hx x h2))
  rw [dn_map mt N (fun y => tl.getD y 0)] at k1
  exact ⟨K, k1, k4, k5⟩
theorem ordC (d : Nat) {N m : Nat} (hN0 : 1 ≤ N) (hN : N ≤ 7) (hm : m ≤ 6) {mt : Nat → Nat → Nat} (hmt : ∀ w x, mt w x ≤ 600) {tl : List Nat} : ∀ (n i : Nat) (f b : Nat → Nat) (v : Nat) (h : zm_H), i + n = 120 → (∀ p, p < m → f p < m) → v ≤ 3600 → rwf 20 m f h → rwf 18 m b h → h.1 15 7 = iN m → (∀ w y, w < N → y < m → h.1 21 (w * 6 + y) = iN (mt w (tl.getD y 0))) →
    ∃ K, fDr_firstDone_c16 (d + 4) (iN N) (iN v) (iN i) h = some (some (.int (iN (bs (dlo mt N tl m) m n f v b).1)), K) ∧ rwf 18 m (bs (dlo mt N tl m) m n f v b).2 K ∧ (∀ a, a ≠ 17 → a ≠ 18 → a ≠ 19 → a ≠ 20 → a ≠ 22 → K.1 a = h.1 a) ∧ K.2 = h.2 := by
  intro n
  induction n with
  | zero =>
    intro i f b v h hi hf hv r rb e7 e21
    refine ⟨h, ?_, rb, fun _ _ _ _ _ _ => rfl, rfl⟩
    rw [fDr_firstDone_c16_eq, cT (by simp (disch := omega) only [iN_add, iN_addl, iN_addr, iN_mul, iN_mull, iN_mulr, iN_sub, iN_subl, iN_subr, iN_c, iN_lt, iN_ltl, iN_ltr, iN_le, iN_lel, iN_ler, iN_eq, iN_eql, iN_eqr]; omega)]; rfl
  | succ n ih =>
    intro i f b v h hi hf hv r rb e7 e21
    rw [bs]
    obtain ⟨q, k1⟩ | ⟨g, K, q, k1, k2, k3⟩ := nxC (d + 1) hm (fun p hp => by have := hf p hp; omega) e7 r
    · rw [q]
      refine ⟨h, ?_, rb, fun _ _ _ _ _ _ => rfl, rfl⟩
      rw [fDr_firstDone_c16_eq, cF (by simp (disch := omega) only [iN_add, iN_addl, iN_addr, iN_mul, iN_mull, iN_mulr, iN_sub, iN_subl, iN_subr, iN_c, iN_lt, iN_ltl, iN_ltr, iN_le, iN_lel, iN_ler, iN_eq, iN_eql, iN_eqr]; omega), k1, bI, cT (by decide)]
    · rw [q]
      have hg := nx_bd hf q
      have gl := dlo_le (mt := mt) (N := N) hm hmt tl g
      obtain ⟨K2, d1, d2, d3⟩ := doneO d hN0 hN hm hmt (tl := tl) hg (h := K) (by rw [k3.1 15 (by omega)]; exact e7) k2 (fun w y h1 h2 => by rw [k3.1 21 (by omega)]; exact e21 w y h1 h2)
      have hd : fDr_firstDone_c16 (d + 4) (iN N) (iN v) (iN i) h = cond (decide (iN v ≤ iN (dlo mt N tl m g))) (fDr_firstDone_c16 (d + 4) (iN N) (iN v) (iN (i + 1)) K2) (zb_V (fDr_keepOrder (d + 3) K2) (fun h5 => fDr_firstDone_c16 (d + 4) (iN N) (iN (dlo mt N tl m g)) (iN (i + 1)) h5)) := by
        rw [fDr_firstDone_c16_eq, cF (by simp (disch := omega) only [iN_add, iN_addl, iN_addr, iN_mul, iN_mull, iN_mulr, iN_sub, iN_subl, iN_subr, iN_c, iN_lt, iN_ltl, iN_ltr, iN_le, iN_lel, iN_ler, iN_eq, iN_eql, iN_eqr]; omega), k1, bI, cF (by decide), d1, bI, iN_addr]
      show ∃ K, fDr_firstDone_c16 (d + 4) (iN N) (iN v) (iN i) h = some (some (.int (iN (if v ≤ dlo mt N tl m g then bs (dlo mt N tl m) m n g v b else bs (dlo mt N tl m) m n g (dlo mt N tl m g) g).1)), K) ∧ rwf 18 m (if v ≤ dlo mt N tl m g then bs (dlo mt N tl m) m n g v b else bs (dlo mt N tl m) m n g (dlo mt N tl m g) g).2 K ∧ (∀ a, a ≠ 17 → a ≠ 18 → a ≠ 19 → a ≠ 20 → a ≠ 22 → K.1 a = h.1 a) ∧ K.2 = h.2
      rw [hd]
      have r2 : rwf 20 m g K2 := fun p hp => by rw [d2 20 (by omega) (by omega) (by omega)]; exact k2 p hp
      by_cases qv : v ≤ dlo mt N tl m g
      · rw [if_pos qv, cT (by rw [iN_le (by omega) (by omega)]; exact qv)]
        obtain ⟨M, m1, m2, m3, m4⟩ := ih (i + 1) g b v K2 (by omega) hg hv r2 (fun p hp => by rw [d2 18 (by omega) (by omega) (by omega), k3.1 18 (by omega)]; exact rb p hp) (by rw [d2 15 (by omega) (by omega) (by omega), k3.1 15 (by omega)]; exact e7) (fun w y h1 h2 => by rw [d2 21 (by omega) (by omega) (by omega), k3.1 21 (by omega)]; exact e21 w y h1 h2)
        exact ⟨M, m1, m2, fun a h1 h2 h3 h4 h5 => by rw [m3 a h1 h2 h3 h4 h5, d2 a h1 h3 h5, k3.1 a h4], by rw [m4, d3, k3.2]⟩
      · rw [if_neg qv, cF (by rw [iN_le (by omega) (by omega)]; exact qv)]
        obtain ⟨K3, c1, c2, c3, c4, c5⟩ := keepC (d + 2) 6 0 K2 (by omega)
        obtain ⟨M, m1, m2, m3, m4⟩ := ih (i + 1) g g (dlo mt N tl m g) K3 (by omega) hg gl (fun p hp => by rw [c2 20 (by omega)]; exact r2 p hp) (fun p hp => by rw [c4 p (by omega) (by omega)]; exact r2 p hp) (by rw [c2 15 (by omega), d2 15 (by omega) (by omega) (by omega), k3.1 15 (by omega)]; exact e7) (fun w y h1 h2 => by rw [c2 21 (by omega), d2 21 (by omega) (by omega) (by omega), k3.1 21 (by omega)]; exact e21 w y h1 h2)
        refine ⟨M, ?_, m2, fun a h1 h2 h3 h4 h5 => by rw [m3 a h1 h2 h3 h4 h5, c2 a h2, d2 a h1 h3 h5, k3.1 a h4], by rw [m4, c3, d3, k3.2]⟩
        rw [fDr_keepOrder_eq, show fDr_keepOrder_c2 (d + 2 + 1) 0 K2 = some (none, K3) from c1, bV]; exact m1
