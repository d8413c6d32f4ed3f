/-! the next order: both sides -/
def swp (f : Nat → Nat) (i j : Nat) : Nat → Nat := fun p => if p = j then f i else if p = i then f j else f p
def fA (f : Nat → Nat) : Nat → Nat
  | 0 => 0
  | k + 1 => if f k ≤ f (k + 1) then k + 1 else fA f k
def fB (f : Nat → Nat) (i : Nat) : Nat → Nat
  | 0 => i
  | n + 1 => if f i ≤ f (i + n + 1) then i + n + 1 else fB f i n
def rv : Nat → (Nat → Nat) → Nat → Nat → (Nat → Nat)
  | 0, f, _, _ => f
  | n + 1, f, a, b => if b ≤ a then f else rv n (swp f a b) (a + 1) (b - 1)
def nx (m : Nat) (f : Nat → Nat) : Option (Nat → Nat) := match fA f (m - 1) with
  | 0 => none
  | k + 1 => some (rv m (swp f k (fB f k (m - 1 - k))) (k + 1) (m - 1))
theorem swp_bd {m B i j : Nat} {f : Nat → Nat} (hi : i < m) (hj : j < m) (h : ∀ p, p < m → f p < B) : ∀ p, p < m → swp f i j p < B := by
  intro p hp; unfold swp
  split
  · exact h i hi
  · split
    · exact h j hj
    · exact h p hp
theorem rv_bd {m B : Nat} : ∀ (n : Nat) (f : Nat → Nat) (a b : Nat), b < m → (∀ p, p < m → f p < B) → ∀ p, p < m → rv n f a b p < B := by
  intro n
  induction n with
  | zero => intro f a b _ h; exact h
  | succ n ih =>
    intro f a b hb h
    rw [rv]; split
    · exact h
    · exact ih _ _ _ (by omega) (swp_bd (by omega) hb h)
theorem fA_le (f : Nat → Nat) : ∀ k, fA f k ≤ k := by
  intro k
  induction k with
  | zero => exact Nat.le_refl _
  | succ k ih => rw [fA]; split <;> omega
theorem fB_lt (f : Nat → Nat) (i : Nat) : ∀ n, fB f i n ≤ i + n := by
  intro n
  induction n with
  | zero => exact Nat.le_refl _
  | succ k ih => rw [fB]; split <;> omega
theorem nx_bd {m B : Nat} {f g : Nat → Nat} (h : ∀ p, p < m → f p < B) (e : nx m f = some g) : ∀ p, p < m → g p < B := by
  unfold nx at e
  have := fA_le f (m - 1)
  cases q : fA f (m - 1) with
  | zero => rw [q] at e; exact absurd e (by simp)
  | succ k =>
    rw [q] at e
    have := fB_lt f k (m - 1 - k)
    cases e
    exact rv_bd _ _ _ _ (by omega) (swp_bd (by omega) (by omega) h)
def rwf (c m : Nat) (f : Nat → Nat) (h : zm_H) : Prop := ∀ p, p < m → h.1 c p = iN (f p)
def frS (c : Nat) (h K : zm_H) : Prop := (∀ a, a ≠ c → K.1 a = h.1 a) ∧ K.2 = h.2
theorem frS_r (c : Nat) (h : zm_H) : frS c h h := ⟨fun _ _ => rfl, rfl⟩
theorem frS_t {c : Nat} {h K M : zm_H} (e : frS c h K) (f : frS c K M) : frS c h M := ⟨fun a h1 => (f.1 a h1).trans (e.1 a h1), f.2.trans e.2⟩
theorem swp_g {c m i j : Nat} {f : Nat → Nat} {h : zm_H} (hi : i < m) (hj : j < m) (r : rwf c m f h) : rwf c m (swp f i j) (zm_ui (zm_ui h c i (h.1 c j)) c j (h.1 c i)) ∧ frS c h (zm_ui (zm_ui h c i (h.1 c j)) c j (h.1 c i)) := by
  refine ⟨fun p hp => ?_, fun a h1 => by rw [ui_f h1, ui_f h1], rfl⟩
  unfold swp
  by_cases e : p = j
  · subst e; rw [ui_s, if_pos rfl]; exact r i hi
  · rw [ui_k e, if_neg e]
    by_cases e2 : p = i
    · subst e2; rw [ui_s, if_pos rfl]; exact r j hj
    · rw [ui_k e2, if_neg e2]; exact r p hp
theorem iN_pred {b : Nat} (h : 1 ≤ b) : iN b + (-1) = iN (b - 1) := by
  rw [← Int32.sub_eq_add_neg, iN_subr h]
theorem nxC91 (d : Nat) {m : Nat} (hm : m ≤ 6) : ∀ (n : Nat) (f : Nat → Nat) (a b : Nat) (h : zm_H), b < m → a ≤ 6 → b ≤ a + n → rwf 20 m f h → ∃ K, fDr_nextOrder_c91 (d + 2) (iN a) (iN b) h = some (some (.int 1), K) ∧ rwf 20 m (rv n f a b) K ∧ frS 20 h K := by
  intro n
  induction n with
  | zero =>
    intro f a b h hb ha hn r
    refine ⟨h, ?_, r, frS_r _ _⟩
    rw [fDr_nextOrder_c91_eq, cT (by rw [iN_le (by omega) (by omega)]; omega)]
  | succ n ih =>
    intro f a b h hb ha hn r
    rw [rv]
    by_cases q : b ≤ a
    · rw [if_pos q]
      refine ⟨h, ?_, r, frS_r _ _⟩
      rw [fDr_nextOrder_c91_eq, cT (by rw [iN_le (by omega) (by omega)]; exact q)]
    · rw [if_neg q]
      obtain ⟨s1, s2⟩ := swp_g (by omega : a < m) hb r
      obtain ⟨K, k1, k2, k3⟩ := ih _ (a + 1) (b - 1) _ (by omega) (by omega) (by omega) s1
      refine ⟨K, ?_, k2, frS_t s2 k3⟩
      rw [fDr_nextOrder_c91_eq, cF (by rw [iN_le (by omega) (by omega)]; exact q), fDr_swap_eq, gR_20 (by omega), gR_20 (by omega), gW_20 (by omega), gW_20 (by omega), Bool.cond_true, Bool.cond_true, Bool.cond_true, Bool.cond_true, bV, iN_c (by omega), iN_c (by omega), iN_addr, iN_pred (by omega)]
      exact k1
theorem nxC47 (d : Nat) {m i : Nat} (hm : m ≤ 6) {f : Nat → Nat} (hf : ∀ p, p < m → f p < 8) {h : zm_H} (e7 : h.1 15 7 = iN m) (r : rwf 20 m f h) : ∀ (n : Nat), i + n < m → ∃ K, fDr_nextOrder_c47 (d + 2) (iN i) (iN (i + n)) h = some (some (.int 1), K) ∧ rwf 20 m (rv m (swp f i (fB f i n)) (i + 1) (m - 1)) K ∧ frS 20 h K := by
  have fin : ∀ j, j < m → i < m → ∃ K, zb_V (fDr_swap (d + 1) (iN i) (iN j) h) (fun h1 => fDr_nextOrder_c91 (d + 2) ((iN i + (1 : Int32))) (((h1.1 15 7) - (1 : Int32))) h1) = some (some (.int 1), K) ∧ rwf 20 m (rv m (swp f i j) (i + 1) (m - 1)) K ∧ frS 20 h K := by
    intro j hj hi
    obtain ⟨s1, s2⟩ := swp_g hi hj r
    obtain ⟨K, k1, k2, k3⟩ := nxC91 d hm m (swp f i j) (i + 1) (m - 1) _ (by omega) (by omega) (by omega) s1
    refine ⟨K, ?_, k2, frS_t s2 k3⟩
    rw [fDr_swap_eq, gR_20 (by omega), gR_20 (by omega), gW_20 (by omega), gW_20 (by omega), Bool.cond_true, Bool.cond_true, Bool.cond_true, Bool.cond_true, bV, iN_c (by omega), iN_c (by omega), ui_c (by omega), ui_c (by omega), e7, iN_addr, iN_subr (show 1 ≤ m by omega)]
    exact k1
  intro n
  induction n with
  | zero =>
    intro hi
    obtain ⟨K, k1, k2, k3⟩ := fin i (by omega) (by omega)
    refine ⟨K, ?_, k2, k3⟩
    rw [fDr_nextOrder_c47_eq, cT (by rw [iN_le (by omega) (by omega)]; omega)]; exact k1
  | succ n ih =>
    intro hi
    have b1 := hf i (by omega)
    have b2 := hf (i + n + 1) (by omega)
    rw [fB]
    have hd : fDr_nextOrder_c47 (d + 2) (iN i) (iN (i + (n + 1))) h = cond (decide (iN (f i) ≤ iN (f (i + n + 1)))) (zb_V (fDr_swap (d + 1) (iN i) (iN (i + n + 1)) h) (fun h1 => fDr_nextOrder_c91 (d + 2) ((iN i + (1 : Int32))) (((h1.1 15 7) - (1 : Int32))) h1)) (fDr_nextOrder_c47 (d + 2) (iN i) (iN (i + n)) h) := by
      rw [fDr_nextOrder_c47_eq, cF (by rw [iN_le (by omega) (by omega)]; omega), gR_20 (by omega), gR_20 (by omega), iN_c (by omega), iN_c (by omega), Bool.cond_true, Bool.cond_true, r i (by omega), r (i + (n + 1)) (by omega), iN_pred (by omega)]; rfl
    by_cases q : f i ≤ f (i + n + 1)
    · rw [if_pos q]
      obtain ⟨K, k1, k2, k3⟩ := fin (i + n + 1) (by omega) (by omega)
      exact ⟨K, by rw [hd, cT (by rw [iN_le (by omega) (by omega)]; exact q)]; exact k1, k2, k3⟩
    · rw [if_neg q]
      obtain ⟨K, k1, k2, k3⟩ := ih (by omega)
      exact ⟨K, by rw [hd, cF (by rw [iN_le (by omega) (by omega)]; exact q)]; exact k1, k2, k3⟩
theorem nxC7 (d : Nat) {m : Nat} (hm : m ≤ 6) {f : Nat → Nat} (hf : ∀ p, p < m → f p < 8) {h : zm_H} (e7 : h.1 15 7 = iN m) (r : rwf 20 m f h) : ∀ (k : Nat), k ≤ m - 1 → (fA f k = 0 ∧ fDr_nextOrder_c7 (d + 2) (iN k + (-1)) h = some (some (.int 0), h)) ∨ (∃ i K, fA f k = i + 1 ∧ fDr_nextOrder_c7 (d + 2) (iN k + (-1)) h = some (some (.int 1), K) ∧ rwf 20 m (rv m (swp f i (fB f i (m - 1 - i))) (i + 1) (m - 1)) K ∧ frS 20 h K) := by
  intro k
  induction k with
  | zero =>
    intro _
    refine Or.inl ⟨rfl, ?_⟩
    rw [fDr_nextOrder_c7_eq, cT (by decide), cF (by decide)]
  | succ k ih =>
    intro hk
    have b1 := hf k (by omega)
    have b2 := hf (k + 1) (by omega)
    have z0 : decide ((0 : Int32) ≤ iN k) = true := decide_eq_true (by rw [show (0 : Int32) = iN 0 from rfl, iN_le (by omega) (by omega)]; omega)
    have hd : fDr_nextOrder_c7 (d + 2) (iN (k + 1) + (-1)) h = cond (decide (iN (f k) ≤ iN (f (k + 1)))) (fDr_nextOrder_c47 (d + 2) (iN k) (iN (m - 1)) h) (fDr_nextOrder_c7 (d + 2) (iN k + (-1)) h) := by
      rw [iN_pred (by omega), Nat.add_sub_cancel, fDr_nextOrder_c7_eq, cF (iN_lt0 (by omega)), iN_addr, gR_20 (by omega), gR_20 (by omega), iN_c (by omega), iN_c (by omega), Bool.cond_true, Bool.cond_true, r k (by omega), r (k + 1) (by omega), z0, Bool.cond_true, e7, iN_subr (show 1 ≤ m by omega)]
    rw [hd, fA]
    by_cases q : f k ≤ f (k + 1)
    · rw [if_pos q, cT (by rw [iN_le (by omega) (by omega)]; exact q)]
      obtain ⟨K, k1, k2, k3⟩ := nxC47 d hm hf e7 r (i := k) (m - 1 - k) (by omega)
      rw [show k + (m - 1 - k) = m - 1 by omega] at k1
      exact Or.inr ⟨k, K, rfl, k1, k2, k3⟩
    · rw [if_neg q, cF (by rw [iN_le (by omega) (by omega)]; exact q)]
      exact ih (by omega)
theorem nxC (d : Nat) {m : Nat} (hm : m ≤ 6) {f : Nat → Nat} (hf : ∀ p, p < m → f p < 8) {h : zm_H} (e7 : h.1 15 7 = iN m) (r : rwf 20 m f h) : (nx m f = none ∧ fDr_nextOrder (d + 2) h = some (some (.int 0), h)) ∨ (∃ g K, nx m f = some g ∧ fDr_nextOrder (d + 2) h = some (some (.int 1), K) ∧ rwf 20 m g K ∧ frS 20 h K) := by
  unfold nx
  by_cases q : m = 0
  · subst q
    refine Or.inl ⟨rfl, ?_⟩
    rw [fDr_nextOrder_eq, e7, fDr_nextOrder_c7_eq, cT (by decide), cF (by decide)]
  · have hd : fDr_nextOrder (d + 2) h = fDr_nextOrder_c7 (d + 2) (iN (m - 1) + (-1)) h := by
      have e : iN m - 2 = iN (m - 1) + (-1) := by
        have e2 : iN m = iN (m - 1) + 1 := by rw [iN_addr, Nat.sub_add_cancel (by omega)]
        rw [e2]
        generalize iN (m - 1) = x
        grind
      rw [fDr_nextOrder_eq, e7, e]
    rw [hd]
    obtain ⟨k1, k2⟩ | ⟨i, K, k1, k2, k3, k4⟩ := nxC7 d hm hf e7 r (m - 1) (Nat.le_refl _)
    · exact Or.inl ⟨by rw [k1], k2⟩
    · exact Or.inr ⟨_, K, by rw [k1], k2, k3, k4⟩
theorem nxM91 (d : Nat) {m : Nat} (hm : m ≤ 6) : ∀ (n : Nat) (f : Nat → Nat) (a b : Nat) (h : zm_H), b < m → a ≤ 6 → b ≤ a + n → rwf 81 m f h → ∃ K, fM_nextOrder_c86 (d + 2) (iN a) (iN b) h = some (some (.int 1), K) ∧ rwf 81 m (rv n f a b) K ∧ frS 81 h K := by
  intro n
  induction n with
  | zero =>
    intro f a b h hb ha hn r
    refine ⟨h, ?_, r, frS_r _ _⟩
    rw [fM_nextOrder_c86_eq, cT (by rw [iN_le (by omega) (by omega)]; omega)]
  | succ n ih =>
    intro f a b h hb ha hn r
    rw [rv]
    by_cases q : b ≤ a
    · rw [if_pos q]
      refine ⟨h, ?_, r, frS_r _ _⟩
      rw [fM_nextOrder_c86_eq, cT (by rw [iN_le (by omega) (by omega)]; exact q)]
    · rw [if_neg q]
      obtain ⟨s1, s2⟩ := swp_g (by omega : a < m) hb r
      obtain ⟨K, k1, k2, k3⟩ := ih _ (a + 1) (b - 1) _ (by omega) (by omega) (by omega) s1
      refine ⟨K, ?_, k2, frS_t s2 k3⟩
      rw [fM_nextOrder_c86_eq, cF (by rw [iN_le (by omega) (by omega)]; exact q), fM_exchange_eq, gR_81 (by omega), gR_81 (by omega), gW_81 (by omega), gW_81 (by omega), Bool.cond_true, Bool.cond_true, Bool.cond_true, Bool.cond_true, bV, iN_c (by omega), iN_c (by omega), iN_addr, iN_pred (by omega)]
      exact k1
theorem nxM47 (d : Nat) {m i : Nat} (hm : m ≤ 6) {f : Nat → Nat} (hf : ∀ p, p < m → f p < 8) {h : zm_H} (e7 : h.1 45 49 = iN m) (r : rwf 81 m f h) : ∀ (n : Nat), i + n < m → ∃ K, fM_nextOrder_c47 (d + 2) (iN i) (iN (i + n)) h = some (some (.int 1), K) ∧ rwf 81 m (rv m (swp f i (fB f i n)) (i + 1) (m - 1)) K ∧ frS 81 h K := by
  have fin : ∀ j, j < m → i < m → ∃ K, zb_V (fM_exchange (d + 1) (iN i) (iN j) h) (fun h1 => fM_nextOrder_c86 (d + 2) ((iN i + (1 : Int32))) (((h1.1 45 49) - (1 : Int32))) h1) = some (some (.int 1), K) ∧ rwf 81 m (rv m (swp f i j) (i + 1) (m - 1)) K ∧ frS 81 h K := by
    intro j hj hi
    obtain ⟨s1, s2⟩ := swp_g hi hj r
    obtain ⟨K, k1, k2, k3⟩ := nxM91 d hm m (swp f i j) (i + 1) (m - 1) _ (by omega) (by omega) (by omega) s1
    refine ⟨K, ?_, k2, frS_t s2 k3⟩
    rw [fM_exchange_eq, gR_81 (by omega), gR_81 (by omega), gW_81 (by omega), gW_81 (by omega), Bool.cond_true, Bool.cond_true, Bool.cond_true, Bool.cond_true, bV, iN_c (by omega), iN_c (by omega), ui_c (by omega), ui_c (by omega), e7, iN_addr, iN_subr (show 1 ≤ m by omega)]
    exact k1
  intro n
  induction n with
  | zero =>
    intro hi
    obtain ⟨K, k1, k2, k3⟩ := fin i (by omega) (by omega)
    refine ⟨K, ?_, k2, k3⟩
    have b1 := hf i (by omega)
    simp only [Nat.add_zero]
    rw [fM_nextOrder_c47_eq, gR_81 (by omega), Bool.cond_true, Bool.cond_true, cT (by grind)]; exact k1
  | succ n ih =>
    intro hi
    have b1 := hf i (by omega)
    have b2 := hf (i + n + 1) (by omega)
    rw [fB]
    have hd : fM_nextOrder_c47 (d + 2) (iN i) (iN (i + (n + 1))) h = cond (decide (iN (f i) ≤ iN (f (i + n + 1)))) (zb_V (fM_exchange (d + 1) (iN i) (iN (i + n + 1)) h) (fun h1 => fM_nextOrder_c86 (d + 2) ((iN i + (1 : Int32))) (((h1.1 45 49) - (1 : Int32))) h1)) (fM_nextOrder_c47 (d + 2) (iN i) (iN (i + n)) h) := by
      rw [fM_nextOrder_c47_eq,  gR_81 (by omega), gR_81 (by omega), iN_c (by omega), iN_c (by omega), Bool.cond_true, Bool.cond_true, r i (by omega), r (i + (n + 1)) (by omega), iN_pred (by omega)]; rfl
    by_cases q : f i ≤ f (i + n + 1)
    · rw [if_pos q]
      obtain ⟨K, k1, k2, k3⟩ := fin (i + n + 1) (by omega) (by omega)
      exact ⟨K, by rw [hd, cT (by rw [iN_le (by omega) (by omega)]; exact q)]; exact k1, k2, k3⟩
    · rw [if_neg q]
      obtain ⟨K, k1, k2, k3⟩ := ih (by omega)
      exact ⟨K, by rw [hd, cF (by rw [iN_le (by omega) (by omega)]; exact q)]; exact k1, k2, k3⟩
theorem nxM7 (d : Nat) {m : Nat} (hm : m ≤ 6) {f : Nat → Nat} (hf : ∀ p, p < m → f p < 8) {h : zm_H} (e7 : h.1 45 49 = iN m) (r : rwf 81 m f h) : ∀ (k : Nat), k ≤ m - 1 → (fA f k = 0 ∧ fM_nextOrder_c7 (d + 2) (iN k + (-1)) h = some (some (.int 0), h)) ∨ (∃ i K, fA f k = i + 1 ∧ fM_nextOrder_c7 (d + 2) (iN k + (-1)) h = some (some (.int 1), K) ∧ rwf 81 m (rv m (swp f i (fB f i (m - 1 - i))) (i + 1) (m - 1)) K ∧ frS 81 h K) := by
  intro k
  induction k with
  | zero =>
    intro _
    refine Or.inl ⟨rfl, ?_⟩
    rw [fM_nextOrder_c7_eq, cT (by decide), cF (by decide)]
  | succ k ih =>
    intro hk
    have b1 := hf k (by omega)
    have b2 := hf (k + 1) (by omega)
    have z0 : decide ((0 : Int32) ≤ iN k) = true := decide_eq_true (by rw [show (0 : Int32) = iN 0 from rfl, iN_le (by omega) (by omega)]; omega)
    have hd : fM_nextOrder_c7 (d + 2) (iN (k + 1) + (-1)) h = cond (decide (iN (f k) ≤ iN (f (k + 1)))) (fM_nextOrder_c47 (d + 2) (iN k) (iN (m - 1)) h) (fM_nextOrder_c7 (d + 2) (iN k + (-1)) h) := by
      rw [iN_pred (by omega), Nat.add_sub_cancel, fM_nextOrder_c7_eq, cF (iN_lt0 (by omega)), iN_addr, gR_81 (by omega), gR_81 (by omega), iN_c (by omega), iN_c (by omega), Bool.cond_true, Bool.cond_true, r k (by omega), r (k + 1) (by omega), z0, Bool.cond_true, e7, iN_subr (show 1 ≤ m by omega)]
    rw [hd, fA]
    by_cases q : f k ≤ f (k + 1)
    · rw [if_pos q, cT (by rw [iN_le (by omega) (by omega)]; exact q)]
      obtain ⟨K, k1, k2, k3⟩ := nxM47 d hm hf e7 r (i := k) (m - 1 - k) (by omega)
      rw [show k + (m - 1 - k) = m - 1 by omega] at k1
      exact Or.inr ⟨k, K, rfl, k1, k2, k3⟩
    · rw [if_neg q, cF (by rw [iN_le (by omega) (by omega)]; exact q)]
      exact ih (by omega)
theorem nxM (d : Nat) {m : Nat} (hm : m ≤ 6) {f : Nat → Nat} (hf : ∀ p, p < m → f p < 8) {h : zm_H} (e7 : h.1 45 49 = iN m) (r : rwf 81 m f h) : (nx m f = none ∧ fM_nextOrder (d + 2) h = some (some (.int 0), h)) ∨ (∃ g K, nx m f = some g ∧ fM_nextOrder (d + 2) h = some (some (.int 1), K) ∧ rwf 81 m g K ∧ frS 81 h K) := by
  unfold nx
  by_cases q : m = 0
  · subst q
    refine Or.inl ⟨rfl, ?_⟩
    rw [fM_nextOrder_eq, e7, fM_nextOrder_c7_eq, cT (by decide), cF (by decide)]
  · have hd : fM_nextOrder (d + 2) h = fM_nextOrder_c7 (d + 2) (iN (m - 1) + (-1)) h := by
      have e : iN m - 2 = iN (m - 1) + (-1) := by
        have e2 : iN m = iN (m - 1) + 1 := by rw [iN_addr, Nat.sub_add_cancel (by omega)]
        rw [e2]
        generalize iN (m - 1) = x
        grind
      rw [fM_nextOrder_eq, e7, e]
    rw [hd]
    obtain ⟨k1, k2⟩ | ⟨i, K, k1, k2, k3, k4⟩ := nxM7 d hm hf e7 r (m - 1) (Nat.le_refl _)
    · exact Or.inl ⟨by rw [k1], k2⟩
    · exact Or.inr ⟨_, K, by rw [k1], k2, k3, k4⟩
