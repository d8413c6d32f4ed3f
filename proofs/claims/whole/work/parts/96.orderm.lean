/-! the best order: the reference -/
def frO (h K : zm_H) : Prop := (∀ a, a ≠ 45 → a ≠ 65 → (a < 76 ∨ 82 < a) → K.1 a = h.1 a) ∧ (∀ b, b ≠ 48 → b ≠ 49 → K.1 45 b = h.1 45 b) ∧ K.2 = h.2
theorem frO_r (h : zm_H) : frO h h := ⟨fun _ _ _ _ => rfl, fun _ _ _ => rfl, rfl⟩
theorem frO_t {h K M : zm_H} (e : frO h K) (f : frO K M) : frO h M := ⟨fun a h1 h2 h3 => (f.1 a h1 h2 h3).trans (e.1 a h1 h2 h3), fun b h1 h2 => (f.2.1 b h1 h2).trans (e.2.1 b h1 h2), f.2.2.trans e.2.2⟩
theorem frO_D {h K : zm_H} (e : frD h K) : frO h K := ⟨fun a h1 h2 h3 => e.1 a h2 h1 (by omega), fun b h1 _ => e.2.1 b h1, e.2.2⟩
theorem frO_S {c : Nat} (hc : 76 ≤ c ∧ c ≤ 82) {h K : zm_H} (e : frS c h K) : frO h K := ⟨fun a _ _ h3 => e.1 a (by omega), fun b _ _ => by rw [e.1 45 (by omega)], e.2⟩
theorem frO_Rd {h K : zm_H} (e : frRd h K) : frO h K := ⟨fun a h1 _ h3 => e.1 a h1 (by omega), fun b _ h2 => e.2.1 b h2, e.2.2⟩
theorem frO_u {h : zm_H} {c : Nat} (hc : 76 ≤ c ∧ c ≤ 82) (k : Nat) (v : Int32) : frO h (zm_ui h c k v) := ⟨fun a _ _ h3 => ui_f (by omega), fun b _ _ => ui_c (by omega), rfl⟩
theorem frQ_O {h K : zm_H} (e : frO h K) : frQ h K := ⟨fun a h1 h2 h3 h4 h5 => e.1 a h3 (by omega) (by omega), fun b _ => by rw [e.1 11 (by omega) (by omega) (by omega)], fun b _ h2 h3 => e.2.1 b h2 h3, e.2.2⟩
theorem frO_lwM {lw : Option (List (List Nat × List Nat))} {h K : zm_H} (e : frO h K) (r : lwM lw h) : lwM lw K := by
  cases lw with
  | none => exact (e.2.1 17 (by omega) (by omega)).trans r
  | some ls => exact ⟨(e.2.1 17 (by omega) (by omega)).trans r.1, r.2.1, r.2.2.1, (e.2.1 18 (by omega) (by omega)).trans r.2.2.2.1, lml_d (e.1 57 (by omega) (by omega) (by omega)) (e.1 58 (by omega) (by omega) (by omega)) (e.1 59 (by omega) (by omega) (by omega)) (e.1 60 (by omega) (by omega) (by omega)) ls _ _ r.2.2.2.2.1, r.2.2.2.2.2⟩
theorem frO_mE {g : Nat → Int32} {t k : Nat} {h K : zm_H} (e : frO h K) (r : mE g t k h) : mE g t k K := by
  unfold mE at *
  rw [e.1 46 (by omega) (by omega) (by omega), e.1 47 (by omega) (by omega) (by omega), e.1 48 (by omega) (by omega) (by omega), e.1 49 (by omega) (by omega) (by omega), e.1 50 (by omega) (by omega) (by omega), e.1 52 (by omega) (by omega) (by omega), e.2.1 8 (by omega) (by omega), e.2.1 9 (by omega) (by omega), e.2.1 10 (by omega) (by omega)]; exact r
theorem lay82 (d : Nat) {m : Nat} (hm : m ≤ 6) (x2 x3 : Int32) {tl : List Nat} : ∀ (n i : Nat) (h : zm_H), i + n = m → h.1 45 49 = iN m → rwf 76 m (fun p => tl.getD p 0) h → ∃ K, fM_order_c74 (d + 1) x2 x3 (iN i) h = fM_order_c121 (d + 1) x2 x3 (-1) 1 K ∧ (∀ a, a ≠ 81 → a ≠ 82 → K.1 a = h.1 a) ∧ K.2 = h.2 ∧ (∀ p, p < m → i ≤ p → K.1 81 p = iN p ∧ K.1 82 p = iN (tl.getD p 0)) ∧ (∀ p, p < i → K.1 81 p = h.1 81 p ∧ K.1 82 p = h.1 82 p) := by
  intro n
  induction n with
  | zero =>
    intro i h hi e9 r
    obtain rfl : i = m := by omega
    refine ⟨h, ?_, fun _ _ _ => rfl, rfl, fun p h1 h2 => absurd h1 (by omega), fun _ _ => ⟨rfl, rfl⟩⟩
    rw [fM_order_c74_eq, e9, cT (by simp (disch := omega) only [iN_add, iN_addl, iN_addr, iN_mul, iN_mull, iN_mulr, iN_sub, iN_subl, iN_subr, iN_c, iN_lt, iN_ltl, iN_ltr, iN_le, iN_lel, iN_ler, iN_eq, iN_eql, iN_eqr]; omega)]
  | succ n ih =>
    intro i h hi e9 r
    have ri := r i (by omega)
    obtain ⟨K, k1, k2, k3, k4, k5⟩ := ih (i + 1) (zm_ui (zm_ui h 81 i (iN i)) 82 i (iN (tl.getD i 0))) (by omega) (by rw [ui_c (by omega), ui_c (by omega)]; exact e9) (fun p hp => by rw [ui_c (by omega), ui_c (by omega)]; exact r p hp)
    refine ⟨K, ?_, ?_, k3, ?_, ?_⟩
    · rw [fM_order_c74_eq, e9, cF (by simp (disch := omega) only [iN_add, iN_addl, iN_addr, iN_mul, iN_mull, iN_mulr, iN_sub, iN_subl, iN_subr, iN_c, iN_lt, iN_ltl, iN_ltr, iN_le, iN_lel, iN_ler, iN_eq, iN_eql, iN_eqr]; omega), gW_81 (by omega), gR_76 (by omega), gW_82 (by omega), iN_c (by omega), ui_c (by omega), ri, iN_addr, Bool.cond_true, Bool.cond_true, Bool.cond_true]; exact k1
    · intro a h1 h2; rw [k2 a h1 h2, ui_f h2, ui_f h1]
    · intro p h1 h2
      by_cases e : p = i
      · subst e
        have := k5 p (by omega)
        rw [this.1, this.2, ui_c (by omega), ui_s, ui_s]; exact ⟨rfl, rfl⟩
      · exact k4 p h1 (by omega)
    · intro p h1
      have := k5 p (by omega)
      rw [this.1, this.2, ui_c (by omega), ui_k (by omega), ui_k (by omega), ui_c (by omega)]; exact ⟨rfl, rfl⟩
theorem lay76 (d : Nat) {m : Nat} (hm : m ≤ 6) (x2 x3 x5 : Int32) {tl : List Nat} {f : Nat → Nat} (hf : ∀ p, p < m → f p < m) : ∀ (n i : Nat) (h : zm_H), i + n = m → h.1 45 49 = iN m → rwf 81 m f h → rwf 82 m (fun p => tl.getD p 0) h → ∃ K, fM_order_c129 (d + 1) x2 x3 x5 (iN i) h = fM_order_c129 (d + 1) x2 x3 x5 (iN m) K ∧ frS 76 h K ∧ (∀ p, p < m → i ≤ p → K.1 76 p = iN (tl.getD (f p) 0)) ∧ (∀ p, p < i → K.1 76 p = h.1 76 p) := by
  intro n
  induction n with
  | zero =>
    intro i h hi e9 r r2
    obtain rfl : i = m := by omega
    exact ⟨h, rfl, frS_r _ _, fun p h1 h2 => absurd h1 (by omega), fun _ _ => rfl⟩
  | succ n ih =>
    intro i h hi e9 r r2
    have ri := r i (by omega)
    have fi := hf i (by omega)
    have ti := r2 (f i) fi
    obtain ⟨K, k1, k2, k3, k4⟩ := ih (i + 1) (zm_ui h 76 i (iN (tl.getD (f i) 0))) (by omega) (by rw [ui_c (by omega)]; exact e9) (fun p hp => by rw [ui_c (by omega)]; exact r p hp) (fun p hp => by rw [ui_c (by omega)]; exact r2 p hp)
    refine ⟨K, ?_, ⟨fun a h1 => by rw [k2.1 a h1, ui_f h1], k2.2⟩, ?_, ?_⟩
    · rw [fM_order_c129_eq, e9, cF (by simp (disch := omega) only [iN_add, iN_addl, iN_addr, iN_mul, iN_mull, iN_mulr, iN_sub, iN_subl, iN_subr, iN_c, iN_lt, iN_ltl, iN_ltr, iN_le, iN_lel, iN_ler, iN_eq, iN_eql, iN_eqr]; omega), gR_81 (by omega), iN_c (by omega), ri, gR_82 (by omega), gW_76 (by omega), iN_c (by omega), ti, iN_addr, Bool.cond_true, Bool.cond_true, Bool.cond_true]; exact k1
    · intro p h1 h2
      by_cases e : p = i
      · subst e; rw [k4 p (by omega), ui_s]
      · exact k3 p h1 (by omega)
    · intro p h1
      rw [k4 p (by omega), ui_k (by omega)]
theorem lay80 (d : Nat) {m : Nat} (hm : m ≤ 6) (x2 x3 x5 : Int32) {g : Nat → Nat} : ∀ (n i : Nat) (h : zm_H), i + n = m → h.1 45 49 = iN m → rwf 76 m g h → ∃ K, fM_order_c193 (d + 1) x2 x3 x5 (iN i) h = zb_I (fM_nextOrder d K) (fun v2 h1 => fM_order_c121 (d + 1) x2 x3 x5 v2 h1) ∧ frS 80 h K ∧ (∀ p, p < m → i ≤ p → K.1 80 p = iN (g p)) ∧ (∀ p, p < i → K.1 80 p = h.1 80 p) := by
  intro n
  induction n with
  | zero =>
    intro i h hi e9 r
    obtain rfl : i = m := by omega
    refine ⟨h, ?_, frS_r _ _, fun p h1 h2 => absurd h1 (by omega), fun _ _ => rfl⟩
    rw [fM_order_c193_eq, e9, cT (by simp (disch := omega) only [iN_add, iN_addl, iN_addr, iN_mul, iN_mull, iN_mulr, iN_sub, iN_subl, iN_subr, iN_c, iN_lt, iN_ltl, iN_ltr, iN_le, iN_lel, iN_ler, iN_eq, iN_eql, iN_eqr]; omega)]
  | succ n ih =>
    intro i h hi e9 r
    have ri := r i (by omega)
    obtain ⟨K, k1, k2, k3, k4⟩ := ih (i + 1) (zm_ui h 80 i (iN (g i))) (by omega) (by rw [ui_c (by omega)]; exact e9) (fun p hp => by rw [ui_c (by omega)]; exact r p hp)
    refine ⟨K, ?_, ⟨fun a h1 => by rw [k2.1 a h1, ui_f h1], k2.2⟩, ?_, ?_⟩
    · rw [fM_order_c193_eq, e9, cF (by simp (disch := omega) only [iN_add, iN_addl, iN_addr, iN_mul, iN_mull, iN_mulr, iN_sub, iN_subl, iN_subr, iN_c, iN_lt, iN_ltl, iN_ltr, iN_le, iN_lel, iN_ler, iN_eq, iN_eql, iN_eqr]; omega), gR_76 (by omega), gW_80 (by omega), iN_c (by omega), ri, iN_addr, Bool.cond_true, Bool.cond_true]; exact k1
    · intro p h1 h2
      by_cases e : p = i
      · subst e; rw [k4 p (by omega), ui_s]
      · exact k3 p h1 (by omega)
    · intro p h1
      rw [k4 p (by omega), ui_k (by omega)]
/-- all that a TIER needs holds behind -/
def TKO (d N m : Nat) (mt : Nat → Nat → Nat) (kn : Int32) (Z : zm_H) (tl : List Nat) : Prop := ∀ (w t : Nat) (K : zm_H), w < N → t < 8 → (∃ j, j < m ∧ tl.getD j 0 = t) → frO Z K → ∃ K', fM_takesFor d (iN w) (iN t) kn K = some (some (.int (iN (mt w t))), K') ∧ frT K K'
theorem evM (d : Nat) {N m : Nat} (hN0 : 1 ≤ N) (hN : N ≤ 7) (hm : m ≤ 6) {mt : Nat → Nat → Nat} (hmt : ∀ w x, mt w x ≤ 600) {kn : Int32} {Z : zm_H} {tl : List Nat} (ht : ∀ j, j < m → tl.getD j 0 < 8) (TK : TKO d N m mt kn Z tl) (eN : Z.1 45 11 = iN N) (x3 x5 : Int32) {f : Nat → Nat} (hf : ∀ p, p < m → f p < m) {h : zm_H} (fr : frO Z h) (e9 : h.1 45 49 = iN m) (r : rwf 81 m f h) (r2 : rwf 82 m (fun p => tl.getD p 0) h) :
    ∃ K, fM_order_c129 (d + 2) kn x3 x5 0 h = cond (decide (x5 < 0)) (fM_order_c193 (d + 2) kn x3 (iN (dlo mt N tl m f)) 0 K) (cond (decide (x5 ≤ iN (dlo mt N tl m f))) (zb_I (fM_nextOrder (d + 1) K) (fun v4 h3 => fM_order_c121 (d + 2) kn x3 x5 v4 h3)) (fM_order_c193 (d + 2) kn x3 (iN (dlo mt N tl m f)) 0 K)) ∧ frO Z K ∧ K.1 45 49 = iN m ∧ K.1 81 = h.1 81 ∧ K.1 82 = h.1 82 ∧ K.1 80 = h.1 80 ∧ rwf 76 m (fun p => tl.getD (f p) 0) K := by
  obtain ⟨A, a1, a2, a3, a4⟩ := lay76 (d + 1) hm kn x3 x5 (tl := tl) hf m 0 h (by omega) e9 r r2
  have f1 : frO Z A := frO_t fr (frO_S (by omega) a2)
  have A9 : A.1 45 49 = iN m := by rw [a2.1 45 (by omega)]; exact e9
  have r76 : rowN (A.1 76) (ofp tl m f) := fun j hj => by
    rw [ofp_len] at hj
    rw [getD_ofp tl f hj]; exact a3 j hj (by omega)
  obtain ⟨K, k1, k2, k3, k4⟩ := dressM d hN0 hN (mt := mt) (fun w x _ => hmt w x) (kn := kn) (h0 := A) (xs := ofp tl m f) (by rw [ofp_len]; exact hm) (fun x hx => by
    obtain ⟨j, hj, e⟩ := List.getElem_of_mem hx
    rw [ofp_len] at hj
    have e2 := getD_ofp tl f hj
    have e3 : (ofp tl m f).getD j 0 = x := by rw [← e]; simp [List.getD, ofp_len, hj]
    have := ht _ (hf j hj)
    omega) (fun w t K hw h8 hj fK => by
    obtain ⟨j, hj, e⟩ := hj
    rw [ofp_len] at hj
    have e2 := a3 j hj (by omega)
    have := ht _ (hf j hj)
    rw [e2, iN_eq (by omega) (by omega)] at e
    exact TK w t K hw h8 ⟨f j, hf j hj, e⟩ (frO_t f1 (frO_D fK))) (by rw [ofp_len]; exact A9) r76
  refine ⟨K, ?_, frO_t f1 (frO_D k4), ?_, ?_, ?_, ?_, ?_⟩
  · rw [show (0 : Int32) = iN 0 from rfl, a1, fM_order_c129_eq, A9, cT (by simp (disch := omega) only [iN_add, iN_addl, iN_addr, iN_mul, iN_mull, iN_mulr, iN_sub, iN_subl, iN_subr, iN_c, iN_lt, iN_ltl, iN_ltr, iN_le, iN_lel, iN_ler, iN_eq, iN_eql, iN_eqr]; omega), show A.1 45 11 = iN N by rw [f1.2.1 11 (by omega) (by omega)]; exact eN, k1, bI]; rfl
  · rw [k4.2.1 49 (by omega)]; exact A9
  · rw [k4.1 81 (by omega) (by omega) (by omega), a2.1 81 (by omega)]
  · rw [k4.1 82 (by omega) (by omega) (by omega), a2.1 82 (by omega)]
  · rw [k4.1 80 (by omega) (by omega) (by omega), a2.1 80 (by omega)]
  · intro p hp
    rw [k4.1 76 (by omega) (by omega) (by omega)]; exact a3 p hp (by omega)
theorem takeM (d : Nat) {m : Nat} (hm : m ≤ 6) {kn : Int32} {Z : zm_H} {tl : List Nat} (x3 x5 : Int32) {f : Nat → Nat} {h : zm_H} (fr : frO Z h) (e9 : h.1 45 49 = iN m) (r : rwf 76 m (fun p => tl.getD (f p) 0) h) :
    ∃ K, fM_order_c193 (d + 2) kn x3 x5 0 h = zb_I (fM_nextOrder (d + 1) K) (fun v4 h3 => fM_order_c121 (d + 2) kn x3 x5 v4 h3) ∧ frO Z K ∧ K.1 45 49 = iN m ∧ K.1 81 = h.1 81 ∧ K.1 82 = h.1 82 ∧ rwf 80 m (fun p => tl.getD (f p) 0) K := by
  obtain ⟨K, k1, k2, k3, k4⟩ := lay80 (d + 1) hm kn x3 x5 m 0 h (by omega) e9 r
  exact ⟨K, k1, frO_t fr (frO_S (by omega) k2), by rw [k2.1 45 (by omega)]; exact e9, k2.1 81 (by omega), k2.1 82 (by omega), fun p hp => k3 p hp (by omega)⟩
theorem ordM (d : Nat) {N m : Nat} (hN0 : 1 ≤ N) (hN : N ≤ 7) (hm : m ≤ 6) {mt : Nat → Nat → Nat} (hmt : ∀ w x, mt w x ≤ 600) {kn : Int32} {Z : zm_H} {tl : List Nat} (ht : ∀ j, j < m → tl.getD j 0 < 8) (TK : TKO (d + 1) N m mt kn Z tl) (eN : Z.1 45 11 = iN N) (x3 : Int32) : ∀ (n : Nat) (f b : Nat → Nat) (v : Nat) (h : zm_H), its m (n + 1) f = true → (∀ p, p < m → f p < m) → v ≤ 3600 → frO Z h → h.1 45 49 = iN m → rwf 81 m f h → rwf 82 m (fun p => tl.getD p 0) h → rwf 80 m (fun p => tl.getD (b p) 0) h →
    ∃ K, zb_I (fM_nextOrder (d + 2) h) (fun v4 h3 => fM_order_c121 (d + 3) kn x3 (iN v) v4 h3) = fM_order_c121 (d + 3) kn x3 (iN (bs (dlo mt N tl m) m n f v b).1) 0 K ∧ frO Z K ∧ rwf 80 m (fun p => tl.getD ((bs (dlo mt N tl m) m n f v b).2 p) 0) K := by
  intro n
  induction n with
  | zero =>
    intro f b v h hi hf hv fr e9 r1 r2 r3
    obtain ⟨q, k1⟩ | ⟨g, K, q, k1, k2, k3⟩ := nxM d hm (fun p hp => by have := hf p hp; omega) e9 r1
    · exact ⟨h, by rw [k1, bI]; rfl, fr, r3⟩
    · rw [its, q] at hi; exact absurd hi (by simp [its])
  | succ n ih =>
    intro f b v h hi hf hv fr e9 r1 r2 r3
    rw [bs]
    obtain ⟨q, k1⟩ | ⟨g, K, q, k1, k2, k3⟩ := nxM d hm (fun p hp => by have := hf p hp; omega) e9 r1
    · rw [q]; exact ⟨h, by rw [k1, bI], fr, r3⟩
    · rw [its, q] at hi
      rw [q]
      have hi2 : its m (n + 1) g = true := hi
      have hg := nx_bd hf q
      have gl := dlo_le (mt := mt) (N := N) hm hmt tl g
      have frK := frO_t fr (frO_S (by omega) k3)
      obtain ⟨A, a1, a2, a3, a4, a5, a6, a7⟩ := evM (d + 1) hN0 hN hm hmt ht TK eN x3 (iN v) hg frK (by rw [k3.1 45 (by omega)]; exact e9) k2 (fun p hp => by rw [k3.1 82 (by omega)]; exact r2 p hp)
      have hd : zb_I (fM_nextOrder (d + 2) h) (fun v4 h3 => fM_order_c121 (d + 3) kn x3 (iN v) v4 h3) = cond (decide (iN v ≤ iN (dlo mt N tl m g))) (zb_I (fM_nextOrder (d + 2) A) (fun v4 h3 => fM_order_c121 (d + 3) kn x3 (iN v) v4 h3)) (fM_order_c193 (d + 3) kn x3 (iN (dlo mt N tl m g)) 0 A) := by
        rw [k1, bI, fM_order_c121_eq, cF (by decide), a1, cF (iN_lt0 (by omega))]
      rw [hd]
      have s1 : rwf 81 m g A := fun p hp => by rw [a4]; exact k2 p hp
      have s2 : rwf 82 m (fun p => tl.getD p 0) A := fun p hp => by rw [a5, k3.1 82 (by omega)]; exact r2 p hp
      show ∃ K, cond (decide (iN v ≤ iN (dlo mt N tl m g))) (zb_I (fM_nextOrder (d + 2) A) (fun v4 h3 => fM_order_c121 (d + 3) kn x3 (iN v) v4 h3)) (fM_order_c193 (d + 3) kn x3 (iN (dlo mt N tl m g)) 0 A) = fM_order_c121 (d + 3) kn x3 (iN (if v ≤ dlo mt N tl m g then bs (dlo mt N tl m) m n g v b else bs (dlo mt N tl m) m n g (dlo mt N tl m g) g).1) 0 K ∧ frO Z K ∧ rwf 80 m (fun p => tl.getD ((if v ≤ dlo mt N tl m g then bs (dlo mt N tl m) m n g v b else bs (dlo mt N tl m) m n g (dlo mt N tl m g) g).2 p) 0) K
      by_cases qv : v ≤ dlo mt N tl m g
      · rw [if_pos qv, cT (by rw [iN_le (by omega) (by omega)]; exact qv)]
        exact ih g b v A hi2 hg hv a2 a3 s1 s2 (fun p hp => by rw [a6, k3.1 80 (by omega)]; exact r3 p hp)
      · rw [if_neg qv, cF (by rw [iN_le (by omega) (by omega)]; exact qv)]
        obtain ⟨B, b1, b2, b3, b4, b5, b6⟩ := takeM (d + 1) hm (kn := kn) x3 (iN (dlo mt N tl m g)) a2 a3 a7
        rw [b1]
        exact ih g g _ B hi2 hg gl b2 b3 (fun p hp => by rw [b4]; exact s1 p hp) (fun p hp => by rw [b5]; exact s2 p hp) b6
theorem orderM (d : Nat) {N m : Nat} (hN0 : 1 ≤ N) (hN : N ≤ 7) (hm : m ≤ 5) {mt : Nat → Nat → Nat} (hmt : ∀ w x, mt w x ≤ 600) {kn : Int32} {Z : zm_H} {tl : List Nat} (ht : ∀ j, j < m → tl.getD j 0 < 8) (TK : TKO (d + 1) N m mt kn Z tl) (eN : Z.1 45 11 = iN N) (x3 : Int32) (e9 : Z.1 45 49 = iN m) (r : rwf 76 m (fun p => tl.getD p 0) Z) :
    ∃ K, fM_order_c74 (d + 3) kn x3 0 Z = fM_order_c121 (d + 3) kn x3 (iN (bs (dlo mt N tl m) m 119 (fun p => p) (dlo mt N tl m (fun p => p)) (fun p => p)).1) 0 K ∧ frO Z K ∧ rwf 80 m (fun p => tl.getD ((bs (dlo mt N tl m) m 119 (fun p => p) (dlo mt N tl m (fun p => p)) (fun p => p)).2 p) 0) K := by
  obtain ⟨A, a1, a2, a3, a4, a5⟩ := lay82 (d + 2) (by omega : m ≤ 6) kn x3 (tl := tl) m 0 Z (by omega) e9 r
  have fA : frO Z A := ⟨fun a _ _ h3 => a2 a (by omega) (by omega), fun b _ _ => by rw [a2 45 (by omega) (by omega)], a3⟩
  obtain ⟨B, b1, b2, b3, b4, b5, b6, b7⟩ := evM (d + 1) hN0 hN (by omega : m ≤ 6) hmt ht TK eN x3 (-1) (f := fun p => p) (fun p hp => hp) fA (by rw [a2 45 (by omega) (by omega)]; exact e9) (fun p hp => (a4 p hp (by omega)).1) (fun p hp => (a4 p hp (by omega)).2)
  obtain ⟨C, c1, c2, c3, c4, c5, c6⟩ := takeM (d + 1) (by omega : m ≤ 6) (kn := kn) x3 (iN (dlo mt N tl m (fun p => p))) b2 b3 b7
  have hi := its_m hm
  have gl := dlo_le (mt := mt) (N := N) (by omega : m ≤ 6) hmt tl (fun p => p)
  have gen : ∀ n, its m (n + 1) (fun p => p) = true → ∃ K, zb_I (fM_nextOrder (d + 2) C) (fun v4 h3 => fM_order_c121 (d + 3) kn x3 (iN (dlo mt N tl m (fun p => p))) v4 h3) = fM_order_c121 (d + 3) kn x3 (iN (bs (dlo mt N tl m) m n (fun p => p) (dlo mt N tl m (fun p => p)) (fun p => p)).1) 0 K ∧ frO Z K ∧ rwf 80 m (fun p => tl.getD ((bs (dlo mt N tl m) m n (fun p => p) (dlo mt N tl m (fun p => p)) (fun p => p)).2 p) 0) K := fun n hn =>
    ordM d hN0 hN (by omega : m ≤ 6) hmt ht TK eN x3 n (fun p => p) (fun p => p) _ C hn (fun p hp => hp) gl c2 c3 (fun p hp => by rw [c4, b4]; exact (a4 p hp (by omega)).1) (fun p hp => by rw [c5, b5]; exact (a4 p hp (by omega)).2) c6
  obtain ⟨K, k1, k2, k3⟩ := gen 119 hi
  refine ⟨K, ?_, k2, k3⟩
  rw [show fM_order_c74 (d + 3) kn x3 0 Z = fM_order_c121 (d + 3) kn x3 (-1) 1 A from a1, fM_order_c121_eq, cF (by decide), b1, cT (by decide), c1, k1]
