/-! a law read: the reference's levels -/
noncomputable def lvM : Nat → Nat → zm_H → zm_R
  | 0, D, h => fM_isE D h
  | 1, D, h => fM_isA D h
  | 2, D, h => fM_isB D h
  | 3, D, h => fM_isS D h
  | 4, D, h => fM_isP D h
  | _, D, h => fM_isO D h
noncomputable def lpM (D : Nat) : Nat → Nat → zm_H → zm_R
  | 0, _, h => fM_isE_c9 (D + 3) h
  | 1, _, h => fM_isA_c9 (D + 3) h
  | 2, 0, h => some (some (.int 1), h)
  | 2, _, h => cmpM D h
  | 3, _, h => fM_isS_c9 (D + 3) h
  | _, _, h => fM_isP_c9 (D + 3) h
def rep (l : Nat) : Nat := if l = 2 then 1 else 120
def okR (S lvl k p : Nat) : Prop := if lvl = 2 then k ≤ 1 else S ≤ p + k
theorem lvM_s (D : Nat) {lvl : Nat} (hl : lvl < 5) (h : zm_H) : lvM lvl (D + 3) h = zb_I (lvM (lvl + 1) (D + 2) h) (fun v h1 => cond (!(decide (v = 0))) (lpM D lvl (rep lvl) h1) (some (some (.int 0), h1))) := by
  have : lvl = 0 ∨ lvl = 1 ∨ lvl = 2 ∨ lvl = 3 ∨ lvl = 4 := by omega
  rcases this with rfl | rfl | rfl | rfl | rfl
  · exact fM_isE_eq _ _
  · exact fM_isA_eq _ _
  · exact isB_s _ _
  · exact fM_isS_eq _ _
  · exact fM_isP_eq _ _
theorem lpM_z (D : Nat) {lvl : Nat} (hl : lvl < 5) {f : Nat → Int32} {S c o p : Nat} {h : zm_H} (k : okR S lvl 0 p) (hp : p ≤ S) (r : mdS f S c o p h) : lpM D lvl 0 h = some (some (.int 1), h) := by
  have : lvl = 0 ∨ lvl = 1 ∨ lvl = 2 ∨ lvl = 3 ∨ lvl = 4 := by omega
  rcases this with rfl | rfl | rfl | rfl | rfl
  · have e : sgn f S p = -1 := by unfold okR at k; rw [if_neg (by decide)] at k; unfold sgn; rw [if_neg (by omega)]
    show fM_isE_c9 (D + 3) h = _
    rw [stE D hp r, e]; rfl
  · have e : sgn f S p = -1 := by unfold okR at k; rw [if_neg (by decide)] at k; unfold sgn; rw [if_neg (by omega)]
    show fM_isA_c9 (D + 3) h = _
    rw [stA D hp r, e]; rfl
  · rfl
  · have e : sgn f S p = -1 := by unfold okR at k; rw [if_neg (by decide)] at k; unfold sgn; rw [if_neg (by omega)]
    show fM_isS_c9 (D + 3) h = _
    rw [stS D hp r, e]; rfl
  · have e : sgn f S p = -1 := by unfold okR at k; rw [if_neg (by decide)] at k; unfold sgn; rw [if_neg (by omega)]
    show fM_isP_c9 (D + 3) h = _
    rw [stP D hp r, e]; rfl
theorem lpM_s (D : Nat) {lvl : Nat} (hl : lvl < 5) {f : Nat → Int32} {S c o p k : Nat} {h : zm_H} (ok : okR S lvl (k + 1) p) (hp : p ≤ S) (r : mdS f S c o p h) : lpM D lvl (k + 1) h = stM (lvM (lvl + 1) (D + 2)) (lpM D lvl k) (D + 1) lvl p h (opl (sgn f S p)) := by
  have : lvl = 0 ∨ lvl = 1 ∨ lvl = 2 ∨ lvl = 3 ∨ lvl = 4 := by omega
  rcases this with rfl | rfl | rfl | rfl | rfl
  · exact stE D hp r
  · exact stA D hp r
  · unfold okR at ok
    rw [if_pos rfl] at ok
    obtain rfl : k = 0 := by omega
    exact stB D hp r
  · exact stS D hp r
  · exact stP D hp r
theorem okR_s {S lvl k p q : Nat} (h : okR S lvl (k + 1) p) (hq : p < q) : okR S lvl k q := by
  unfold okR at *
  split
  · rename_i e; rw [if_pos e] at h; omega
  · rename_i e; rw [if_neg e] at h; omega
theorem okR_0 {S lvl p : Nat} (hS : S ≤ 120) : okR S lvl (rep lvl) p := by
  unfold okR rep; split <;> omega
