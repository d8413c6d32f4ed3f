/-! a law read: what both sides read -/
def sgn (f : Nat → Int32) (S p : Nat) : Int32 := if p < S then f p else -1
def isD (x : Int32) : Bool := !decide (x < 48) && !decide (57 < x)
def num (f : Nat → Int32) (S : Nat) : Nat → Nat → Nat → Nat × Nat
  | 0, p, v => (p, v)
  | k + 1, p, v => if isD (sgn f S p) then num f S k (p + 1) (10 * v + ((sgn f S p).toNatClampNeg - 48)) else (p, v)
def nm (x : Int32) : Option Nat := if x = 116 then some 0 else if x = 107 then some 1 else if x = 115 then some 2 else if x = 119 then some 3 else if x = 110 then some 4 else if x = 98 then some 5 else none
def opl (x : Int32) : Option (Nat × Nat) := if x = 124 then some (0, 6) else if x = 38 then some (1, 7) else if x = 60 then some (2, 8) else if x = 61 then some (2, 9) else if x = 62 then some (2, 10) else if x = 43 then some (3, 11) else if x = 45 then some (3, 12) else if x = 42 then some (4, 13) else if x = 47 then some (4, 14) else if x = 37 then some (4, 15) else none
def un (c : Nat) : Nat × Option (List Nat) → Nat × Option (List Nat)
  | (p, none) => (p, none)
  | (p, some t) => (p, some (t ++ [c]))
def br (f : Nat → Int32) (S : Nat) : Nat × Option (List Nat) → Nat × Option (List Nat)
  | (p, none) => (p, none)
  | (p, some t) => if sgn f S p = 41 then (p + 1, some t) else (p, none)
def opd (g : Nat → Nat → Nat → Nat × Option (List Nat)) (f : Nat → Int32) (S o p : Nat) : Nat × Option (List Nat) :=
  if isD (sgn f S p) then ((num f S 4 p 0).1, some [18 + (num f S 4 p 0).2])
  else match nm (sgn f S p) with
    | some c => (p + 1, some [c])
    | none => if o < 6 then
        if sgn f S p = 33 then un 16 (g 5 (o + 1) (p + 1))
        else if sgn f S p = 45 then un 17 (g 5 (o + 1) (p + 1))
        else if sgn f S p = 40 then br f S (g 0 (o + 1) (p + 1))
        else (p, none)
      else (p, none)
def lpz (g : Nat → Nat × Option (List Nat)) (f : Nat → Int32) (S lvl : Nat) : Nat → Nat → List Nat → Nat × Option (List Nat)
  | 0, p, t => (p, some t)
  | k + 1, p, t => match opl (sgn f S p) with
    | none => (p, some t)
    | some (l, c) => if l = lvl then (match g (p + 1) with
        | (q, none) => (q, none)
        | (q, some t') => lpz g f S lvl k q (t ++ t' ++ [c])) else (p, some t)
def pz (f : Nat → Int32) (S : Nat) : Nat → Nat → Nat → Nat → Nat × Option (List Nat)
  | 0, _, _, p => (p, none)
  | n + 1, lvl, o, p => if lvl < 5 then (match pz f S n (lvl + 1) o p with
      | (q, none) => (q, none)
      | (q, some t) => lpz (pz f S n (lvl + 1) o) f S lvl (if lvl = 2 then 1 else 120) q t)
    else opd (pz f S n) f S o p
/-- what comes of reading keeps -/
def okP (S D p : Nat) (r : Nat × Option (List Nat)) : Prop := r.1 ≤ S ∧ p ≤ r.1 ∧ ∀ t, r.2 = some t → 1 ≤ t.length ∧ p + t.length ≤ r.1 ∧ (∀ c ∈ t, c < 20000) ∧ ∀ e rest, e + D ≤ 36 → dep 36 e (t ++ rest) = dep 36 (e + 1) rest
theorem sgn_lt {f : Nat → Int32} {S p : Nat} (h : ¬ sgn f S p = -1) : p < S := by
  unfold sgn at h; by_cases q : p < S
  · exact q
  · rw [if_neg q] at h; exact absurd rfl h
theorem sgn_d {f : Nat → Int32} {S p : Nat} (h : isD (sgn f S p) = true) : p < S := by
  refine sgn_lt (f := f) (fun e => ?_)
  rw [e] at h; exact absurd h (by decide)
theorem isD_v {x : Int32} (h : isD x = true) : ∃ v, v ≤ 9 ∧ x = iN (48 + v) := by
  unfold isD at h
  obtain ⟨k, hk, rfl⟩ := iN_exn (x := x) (c := 58) 58 rfl (by decide) (by grind)
  refine ⟨k - 48, by omega, ?_⟩
  have : ¬ iN k < 48 := by grind
  rw [show (48 : Int32) = iN 48 from rfl, iN_lt (by omega) (by omega)] at this
  rw [show 48 + (k - 48) = k by omega]
theorem num_ok (f : Nat → Int32) (S : Nat) : ∀ (k p v : Nat), p ≤ S → (num f S k p v).1 ≤ S ∧ p ≤ (num f S k p v).1 ∧ (num f S k p v).2 < (v + 1) * 10 ^ k := by
  intro k
  induction k with
  | zero => intro p v h; exact ⟨h, Nat.le_refl _, by rw [num]; omega⟩
  | succ k ih =>
    intro p v h
    rw [num]
    split
    · rename_i q
      obtain ⟨w, hw, e⟩ := isD_v q
      have hp := sgn_d q
      rw [e, iN_c (by omega)]
      obtain ⟨i1, i2, i3⟩ := ih (p + 1) (10 * v + (48 + w - 48)) (by omega)
      refine ⟨i1, by omega, Nat.lt_of_lt_of_le i3 ?_⟩
      rw [Nat.pow_succ, Nat.mul_comm (10 ^ k) 10, ← Nat.mul_assoc]
      exact Nat.mul_le_mul_right _ (by omega)
    · refine ⟨h, Nat.le_refl _, ?_⟩
      have : 1 ≤ 10 ^ (k + 1) := Nat.one_le_pow _ _ (by omega)
      calc v < v + 1 := by omega
        _ = (v + 1) * 1 := by omega
        _ ≤ (v + 1) * 10 ^ (k + 1) := Nat.mul_le_mul_left _ this
theorem num_pos {f : Nat → Int32} {S p : Nat} (h : isD (sgn f S p) = true) : p + 1 ≤ (num f S 4 p 0).1 := by
  have hp := sgn_d h
  have gen : ∀ k v, p + 1 ≤ (num f S (k + 1) p v).1 := by
    intro k v
    rw [num, if_pos h]
    exact (num_ok f S k (p + 1) _ (by omega)).2.1
  exact gen 3 0
theorem nm_c {x : Int32} {c : Nat} (h : nm x = some c) : c ≤ 5 ∧ cc c = -x ∧ ¬ x = -1 := by
  unfold nm at h
  repeat' split at h
  all_goals first | (cases h; subst x; decide) | cases h
theorem opl_c {x : Int32} {l c : Nat} (h : opl x = some (l, c)) : l ≤ 4 ∧ 6 ≤ c ∧ c ≤ 15 ∧ cc c = -x ∧ ¬ x = -1 := by
  unfold opl at h
  repeat' split at h
  all_goals first | (cases h; subst x; decide) | cases h
theorem dep_op {c : Nat} (h1 : 6 ≤ c) (h2 : c ≤ 15) (e : Nat) (rest : List Nat) : dep 36 (e + 2) (c :: rest) = dep 36 (e + 1) rest := by
  rw [dep, if_neg (by omega), if_neg (by omega), if_pos (by omega)]; rfl
theorem dep_un {c : Nat} (h1 : 16 ≤ c) (h2 : c ≤ 17) (e : Nat) (rest : List Nat) : dep 36 (e + 1) (c :: rest) = dep 36 (e + 1) rest := by
  rw [dep, if_neg (by omega), if_pos (by omega), if_pos (by omega)]
theorem dep_v {c : Nat} (h1 : c ≤ 5 ∨ 18 ≤ c) {e : Nat} (he : e < 36) (rest : List Nat) : dep 36 e (c :: rest) = dep 36 (e + 1) rest := by
  rw [dep, if_pos h1, if_pos he]
theorem lpz_ok {g : Nat → Nat × Option (List Nat)} {f : Nat → Int32} {S lvl D p0 : Nat} (hg : ∀ p, p ≤ S → okP S D p (g p)) : ∀ (k p : Nat) (t : List Nat), p ≤ S → okP S (D + 1) p0 (p, some t) → okP S (D + 1) p0 (lpz g f S lvl k p t) := by
  intro k
  induction k with
  | zero => intro p t _ h; exact h
  | succ k ih =>
    intro p t hp h
    rw [lpz]
    split
    · exact h
    · rename_i l c q
      obtain ⟨o1, o2, o3, o4, o5⟩ := opl_c q
      have hp2 := sgn_lt o5
      split
      · have G := hg (p + 1) (by omega)
        obtain ⟨h1, h2, h3⟩ := h
        obtain ⟨h4, h5, h6, h7⟩ := h3 t rfl
        split
        · rename_i q2 e
          rw [e] at G
          exact ⟨G.1, by have := G.2.1; simp at this h2 ⊢; omega, fun t ht => absurd ht (by simp)⟩
        · rename_i q2 t' e
          rw [e] at G
          obtain ⟨g1, g2, g3⟩ := G
          obtain ⟨g4, g5, g6, g7⟩ := g3 t' rfl
          simp only at g1 g2 g5 h1 h2 h5
          refine ih q2 _ g1 ⟨g1, by simp only; omega, ?_⟩
          intro t2 ht
          cases ht
          refine ⟨by simp; omega, by simp only [List.length_append, List.length_singleton]; omega, ?_, ?_⟩
          · intro x hx
            rw [List.mem_append, List.mem_append, List.mem_singleton] at hx
            rcases hx with (hx | hx) | hx
            · exact h6 x hx
            · exact g6 x hx
            · omega
          · intro e' rest he
            rw [List.append_assoc, List.append_assoc, h7 e' _ he, g7 (e' + 1) _ (by omega), List.singleton_append]
            exact dep_op o2 o3 e' rest
      · exact h
theorem pz_ok (f : Nat → Int32) (S : Nat) : ∀ (n lvl o p : Nat), 6 * (6 - o) + (6 - lvl) ≤ n → lvl ≤ 5 → o ≤ 6 → p ≤ S → okP S (5 * (6 - o) + (5 - lvl) + 1) p (pz f S n lvl o p) := by
  intro n
  induction n with
  | zero => intro lvl o p h1 h2; omega
  | succ n ih =>
    intro lvl o p h1 h2 h3 hp
    rw [pz]
    split
    · rename_i q
      have G := ih (lvl + 1) o p (by omega) (by omega) h3 hp
      have G2 : ∀ p, p ≤ S → okP S (5 * (6 - o) + (5 - (lvl + 1)) + 1) p (pz f S n (lvl + 1) o p) := fun p h => ih (lvl + 1) o p (by omega) (by omega) h3 h
      split
      · rename_i q2 e
        rw [e] at G
        exact ⟨G.1, G.2.1, fun t ht => absurd ht (by simp)⟩
      · rename_i q2 t e
        rw [e] at G
        have := lpz_ok (f := f) (lvl := lvl) (p0 := p) G2 (if lvl = 2 then 1 else 120) q2 t G.1 ⟨G.1, G.2.1, fun t ht => by
          obtain ⟨g1, g2, g3, g4⟩ := G.2.2 t ht
          exact ⟨g1, g2, g3, fun e rest he => g4 e rest (by omega)⟩⟩
        rw [show 5 * (6 - o) + (5 - lvl) + 1 = 5 * (6 - o) + (5 - (lvl + 1)) + 1 + 1 by omega]
        exact this
    · rename_i q
      obtain rfl : lvl = 5 := by omega
      unfold opd
      split
      · rename_i d1
        have n1 := num_ok f S 4 p 0 hp
        have n2 := num_pos d1
        refine ⟨n1.1, by simp only; omega, ?_⟩
        intro t ht
        cases ht
        refine ⟨by simp, by simp only [List.length_singleton]; omega, ?_, ?_⟩
        · intro c hc
          rw [List.mem_singleton] at hc
          have := n1.2.2
          omega
        · intro e rest he
          rw [List.singleton_append]; exact dep_v (by omega) (by omega) rest
      · split
        · rename_i c hc
          obtain ⟨c1, c2, c3⟩ := nm_c hc
          have := sgn_lt c3
          refine ⟨by simp only; omega, by simp only; omega, ?_⟩
          intro t ht
          cases ht
          refine ⟨by simp, by simp, ?_, ?_⟩
          · intro x hx
            rw [List.mem_singleton] at hx
            omega
          · intro e rest he
            rw [List.singleton_append]; exact dep_v (by omega) (by omega) rest
        · have fail : okP S (5 * (6 - o) + (5 - 5) + 1) p (p, none) := ⟨hp, Nat.le_refl _, fun t ht => absurd ht (by simp)⟩
          have U : ∀ c, 16 ≤ c → c ≤ 17 → p < S → o < 6 → okP S (5 * (6 - o) + (5 - 5) + 1) p (un c (pz f S n 5 (o + 1) (p + 1))) := by
            intro c c1 c2 hs ho
            have G := ih 5 (o + 1) (p + 1) (by omega) (by omega) (by omega) (by omega)
            generalize pz f S n 5 (o + 1) (p + 1) = r at G
            obtain ⟨q2, t⟩ := r
            obtain ⟨g1, g2, g3⟩ := G
            simp only at g1 g2 g3
            cases t with
            | none => exact ⟨g1, by simp only [un]; omega, fun t ht => absurd ht (by simp [un])⟩
            | some t =>
              obtain ⟨g4, g5, g6, g7⟩ := g3 t rfl
              refine ⟨g1, by simp only [un]; omega, ?_⟩
              intro t2 ht
              simp only [un] at ht
              cases ht
              refine ⟨by simp, by simp only [un, List.length_append, List.length_singleton]; omega, ?_, ?_⟩
              · intro x hx
                rw [List.mem_append, List.mem_singleton] at hx
                rcases hx with hx | hx
                · exact g6 x hx
                · omega
              · intro e rest he
                rw [List.append_assoc, g7 e _ (by omega), List.singleton_append]
                exact dep_un c1 c2 e rest
          split
          · rename_i ho
            split
            · rename_i s
              exact U 16 (by omega) (by omega) (sgn_lt (by rw [s]; decide)) ho
            · split
              · rename_i s
                exact U 17 (by omega) (by omega) (sgn_lt (by rw [s]; decide)) ho
              · split
                · rename_i s
                  have hs := sgn_lt (f := f) (S := S) (p := p) (by rw [s]; decide)
                  have G := ih 0 (o + 1) (p + 1) (by omega) (by omega) (by omega) (by omega)
                  generalize pz f S n 0 (o + 1) (p + 1) = r at G
                  obtain ⟨q2, t⟩ := r
                  obtain ⟨g1, g2, g3⟩ := G
                  simp only at g1 g2 g3
                  cases t with
                  | none => exact ⟨g1, by simp only [br]; omega, fun t ht => absurd ht (by simp [br])⟩
                  | some t =>
                    obtain ⟨g4, g5, g6, g7⟩ := g3 t rfl
                    simp only [br]
                    split
                    · rename_i s2
                      have hs2 := sgn_lt (f := f) (S := S) (p := q2) (by rw [s2]; decide)
                      refine ⟨by simp only; omega, by simp only; omega, ?_⟩
                      intro t2 ht
                      cases ht
                      refine ⟨g4, by simp only; omega, g6, fun e rest he => g7 e rest (by omega)⟩
                    · exact ⟨g1, by simp only; omega, fun t ht => absurd ht (by simp)⟩
                · exact fail
          · exact fail
