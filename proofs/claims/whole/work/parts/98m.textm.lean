/-! a law read: the text, the reference -/
def tkn : List (List Nat × List Nat) → Nat
  | [] => 0
  | (a, s) :: ls => a.length + s.length + tkn ls
def lmr (h : zm_H) : Nat → Nat → List (List Nat × List Nat) → Prop
  | _, _, [] => True
  | i, p, (a, s) :: ls => h.1 61 i = iN p ∧ h.1 62 i = iN (p + a.length) ∧ h.1 63 i = iN (p + a.length + s.length) ∧
    atL (h.1 64) p (a.map iN) ∧ atL (h.1 64) (p + a.length) (s.map iN) ∧ lmr h (i + 1) (p + a.length + s.length) ls
theorem tkn_app (ls : List (List Nat × List Nat)) (l : List Nat × List Nat) : tkn (ls ++ [l]) = tkn ls + (l.1.length + l.2.length) := by
  induction ls with
  | nil => obtain ⟨a, s⟩ := l; simp [tkn]
  | cons x ls ih => obtain ⟨a, s⟩ := x; rw [List.cons_append, tkn, ih, tkn]; omega
theorem lmr_app {h : zm_H} {l : List Nat × List Nat} : ∀ (ls : List (List Nat × List Nat)) (i p : Nat), lmr h i p ls → lmr h (i + ls.length) (p + tkn ls) [l] → lmr h i p (ls ++ [l]) := by
  intro ls
  induction ls with
  | nil => intro i p _ r; simpa [tkn] using r
  | cons x ls ih =>
    intro i p r r2
    obtain ⟨a, s⟩ := x
    obtain ⟨r1, r2', r3, r4, r5, r6⟩ := r
    refine ⟨r1, r2', r3, r4, r5, ih _ _ r6 ?_⟩
    rw [List.length_cons, tkn] at r2
    rw [show i + 1 + ls.length = i + (ls.length + 1) by omega, show p + a.length + s.length + tkn ls = p + (a.length + s.length + tkn ls) by omega]; exact r2
theorem lmr_k {h k : zm_H} : ∀ (ls : List (List Nat × List Nat)) (i p n m : Nat), i + ls.length ≤ n → p + tkn ls ≤ m → (∀ j, j < n → k.1 61 j = h.1 61 j ∧ k.1 62 j = h.1 62 j ∧ k.1 63 j = h.1 63 j) → (∀ j, j < m → k.1 64 j = h.1 64 j) → lmr h i p ls → lmr k i p ls := by
  intro ls
  induction ls with
  | nil => intro i p n m _ _ _ _ _; trivial
  | cons x ls ih =>
    intro i p n m hn hm e1 e2 r
    obtain ⟨a, s⟩ := x
    obtain ⟨r1, r2, r3, r4, r5, r6⟩ := r
    rw [List.length_cons] at hn
    rw [tkn] at hm
    obtain ⟨w1, w2, w3⟩ := e1 i (by omega)
    refine ⟨w1.trans r1, w2.trans r2, w3.trans r3, atL_k _ _ (fun j h1 h2 => e2 j ?_) r4, atL_k _ _ (fun j h1 h2 => e2 j ?_) r5, ih _ _ n m (by omega) (by omega) e1 e2 r6⟩
    · rw [List.length_map] at h2; omega
    · rw [List.length_map] at h2; omega
def xtM (h0 : zm_H) (D : Nat) (call : zm_R) (r : Nat × Option (List (List Nat × List Nat))) : Prop := ∃ K, frX h0 K ∧ match r.2 with
  | none => call = some (some (.int (-100 - iN r.1)), zm_ui K 45 15 0)
  | some R => call = fM_law_c99 D 0 (zm_ui (zm_ui (zm_ui K 45 15 0) 45 17 1) 45 18 (iN R.length)) ∧ lmr K 0 0 R ∧ K.1 45 25 = iN (tkn R) ∧ tkn R ≤ r.1
theorem xtM_n {q D : Nat} {h K : zm_H} {call : zm_R} (e : frX h K) (hc : call = some (some (.int (-100 - iN q)), zm_ui K 45 15 0)) : xtM h D call (q, none) := ⟨K, e, hc⟩
theorem textM (d : Nat) {f : Nat → Int32} {S : Nat} {h0 : zm_H} : ∀ (k p : Nat) (ls : List (List Nat × List Nat)) (h : zm_H), S + 1 ≤ p + k → p ≤ S → tkn ls ≤ p → 2 * ls.length ≤ p → mdS f S (tkn ls) 0 p h → h.1 45 26 = iN ls.length → frX h0 h → lmr h 0 0 ls → xtM h0 (d + 46) (zb_I (fM_isLine (d + 45) h) (fun v h1 => fM_law_c25 (d + 46) v h1)) (tx f S k p ls) := by
  intro k
  induction k with
  | zero => intro p ls h h1 h2; omega
  | succ k ih =>
    intro p ls h hk hp hc hn r e6 fr rl
    have hS := r.1
    have G := ln_ok (f := f) hp
    have R := lineM d (L := ls.length) hp hc (by omega) r e6
    rw [tx_s]
    generalize ln f S p = res at G R
    obtain ⟨q, t⟩ := res
    obtain ⟨K, k1, k2, k3⟩ := R
    obtain ⟨g1, g2⟩ := G
    cases t with
    | none =>
      simp only at k3 k2
      exact xtM_n (frX_t fr k1) (by rw [k3, bI, fM_law_c25_eq, cT rfl, cT rfl, cN, cT rfl, ui_k (by omega), k2])
    | some l =>
      obtain ⟨a, s⟩ := l
      obtain ⟨j1, j2, j3, j4, ⟨j5, j6, j7⟩, j8, j9, jA, jB⟩ := k3
      obtain ⟨g3, g4, g5, g6⟩ := g2 (a, s) rfl
      simp only at g1 g4 g5 k2 j3 j6 j7 jA jB
      have e1 := tkn_app ls (a, s)
      have e2 : (ls ++ [(a, s)]).length = ls.length + 1 := by rw [List.length_append, List.length_singleton]
      simp only at e1
      have rK : mdS f S (tkn (ls ++ [(a, s)])) 0 q K := mdS_X r k1 k2 j4 (by rw [j3, e1]; exact congrArg iN (by omega))
      have lK : lmr K 0 0 (ls ++ [(a, s)]) := by
        refine lmr_app ls 0 0 (lmr_k ls 0 0 ls.length (tkn ls) (by omega) (by omega) j8 j9 rl) ?_
        rw [Nat.zero_add, Nat.zero_add]
        exact ⟨j5, j6, j7, jA, jB, trivial⟩
      rw [j1, bI, fM_law_c25_eq, cF (by decide), isM (d + 43) 59 rK g1]
      simp only [tx2]
      by_cases e : sgn f S q = 59
      · have hq := sgn_lt (f := f) (S := S) (p := q) (by rw [e]; decide)
        rw [cT e, if_pos e, bI, cF (by decide)]
        exact ih (q + 1) (ls ++ [(a, s)]) _ (by omega) (by omega) (by omega) (by omega) (mdS_3 rK) (by rw [ui_k (by omega), e2]; exact j2) (frX_t (frX_t fr k1) (frX_4 _ (b := 23) (by omega) _)) (lmr_k _ 0 0 _ _ (Nat.le_refl _) (Nat.le_refl _) (fun j _ => ⟨by rw [ui_c (by omega)], by rw [ui_c (by omega)], by rw [ui_c (by omega)]⟩) (fun j _ => by rw [ui_c (by omega)]) lK)
      · rw [cF e, if_neg e, bI, cT rfl, cF (by decide), cN, k2, rK.2.1]
        by_cases e4 : q = S
        · rw [if_pos e4, cT (by rw [e4]), cN, cF (by decide)]
          refine ⟨K, frX_t fr k1, ?_, lK, rK.2.2.2.2.2, by omega⟩
          rw [ui_k (by omega), ui_k (by omega), j2, e2]
        · rw [if_neg e4, cF (by rw [iN_eq (by omega) (by omega)]; exact e4), cN, cT trivial]
          exact xtM_n (frX_t fr k1) (by rw [ui_k (by omega), k2])
