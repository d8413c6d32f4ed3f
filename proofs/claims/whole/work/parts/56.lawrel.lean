/-! THE LAW, told -/
def cc (c : Nat) : Int32 := match c with
  | 0 => -116
  | 1 => -107
  | 2 => -115
  | 3 => -119
  | 4 => -110
  | 5 => -98
  | 6 => -124
  | 7 => -38
  | 8 => -60
  | 9 => -61
  | 10 => -62
  | 11 => -43
  | 12 => -45
  | 13 => -42
  | 14 => -47
  | 15 => -37
  | 16 => -33
  | 17 => -1
  | _ => iN (c - 18)
def atL (f : Nat → Int32) : Nat → List Int32 → Prop
  | _, [] => True
  | p, x :: l => f p = x ∧ atL f (p + 1) l
theorem atL_app {f : Nat → Int32} {l l' : List Int32} {p : Nat} : atL f p (l ++ l') ↔ atL f p l ∧ atL f (p + l.length) l' := by
  induction l generalizing p with
  | nil => simp [atL]
  | cons x l ih =>
    simp only [List.cons_append, atL, ih, List.length_cons]
    rw [show p + 1 + l.length = p + (l.length + 1) by omega, and_assoc]
def dep (cap : Nat) : Nat → List Nat → Option Nat
  | n, [] => some n
  | n, c :: l => if c ≤ 5 ∨ 18 ≤ c then (if n < cap then dep cap (n + 1) l else none)
    else if 16 ≤ c then (if 1 ≤ n then dep cap n l else none)
    else (if 2 ≤ n then dep cap (n - 1) l else none)
def lcl : List (List Nat × List Nat) → List Int32
  | [] => []
  | (a, s) :: ls => (if a = [] then [] else a.map cc ++ [-63]) ++ (s.map cc ++ (-59 :: lcl ls))
def lml (h : zm_H) : Nat → Nat → List (List Nat × List Nat) → Prop
  | _, _, [] => True
  | i, p, (a, s) :: ls => h.1 57 i = iN p ∧ h.1 58 i = iN (p + a.length) ∧ h.1 59 i = iN (p + a.length + s.length) ∧
    atL (h.1 60) p (a.map iN) ∧ atL (h.1 60) (p + a.length) (s.map iN) ∧ lml h (i + 1) (p + a.length + s.length) ls
def lok (x : List Nat × List Nat) : Prop := (x.1 = [] ∨ dep 36 0 x.1 = some 1) ∧ dep 36 0 x.2 = some 1 ∧ (∀ c ∈ x.1, c < 20000) ∧ ∀ c ∈ x.2, c < 20000
def rL (h : zm_H) : Prop :=
  (h.1 45 17 = 0 ∧ h.1 11 2 = 0) ∨
  (h.1 45 17 = 1 ∧ ∃ ls : List (List Nat × List Nat), ls ≠ [] ∧ ls.length ≤ 60 ∧ (lcl ls).length ≤ 128 ∧ h.1 11 2 = iN (lcl ls).length ∧ atL (h.1 12) 0 (lcl ls) ∧
    h.1 45 18 = iN ls.length ∧ lml h 0 0 ls ∧ ∀ x ∈ ls, lok x)
def dL (h k : zm_H) : Prop := k.1 45 17 = h.1 45 17 ∧ k.1 45 18 = h.1 45 18 ∧ k.1 11 2 = h.1 11 2 ∧ k.1 12 = h.1 12 ∧ k.1 57 = h.1 57 ∧ k.1 58 = h.1 58 ∧ k.1 59 = h.1 59 ∧ k.1 60 = h.1 60
theorem lml_d {h k : zm_H} (e1 : k.1 57 = h.1 57) (e2 : k.1 58 = h.1 58) (e3 : k.1 59 = h.1 59) (e4 : k.1 60 = h.1 60) (ls : List (List Nat × List Nat)) : ∀ i p, lml h i p ls → lml k i p ls := by
  induction ls with
  | nil => intro i p _; trivial
  | cons x ls ih =>
    intro i p r
    obtain ⟨a, s⟩ := x
    obtain ⟨r1, r2, r3, r4, r5, r6⟩ := r
    refine ⟨?_, ?_, ?_, ?_, ?_, ih _ _ r6⟩
    · rw [e1]; exact r1
    · rw [e2]; exact r2
    · rw [e3]; exact r3
    · rw [e4]; exact r4
    · rw [e4]; exact r5
theorem rL_d {h k : zm_H} (e : dL h k) (r : rL h) : rL k := by
  obtain ⟨e0, e1, e2, e3, e4, e5, e6, e7⟩ := e
  rcases r with ⟨r0, r1⟩ | ⟨r0, ls, r1, r2, r3, r4, r5, r6, r7, r8⟩
  · exact .inl ⟨by rw [e0]; exact r0, by rw [e2]; exact r1⟩
  · exact .inr ⟨by rw [e0]; exact r0, ls, r1, r2, r3, by rw [e2]; exact r4, by rw [e3]; exact r5, by rw [e1]; exact r6, lml_d e4 e5 e6 e7 ls _ _ r7, r8⟩
/-- class and reference say alike -/
def RR (L : Nat) (xs : Nat → Int32) (h : zm_H) : Prop := ∃ T P D A S B Q, rW L xs h ∧ rN T P h ∧ rC T P D A h ∧ rT S h ∧ rL h ∧ rG h ∧ rI T h ∧ rB B Q h ∧ rS B h
/-- a call of both -/
def okC (L : Nat) (xs : Nat → Int32) (e m : zm_H → zm_R) (h : zm_H) : Prop := ∃ v h1 h2, e h = some (some (.int v), h1) ∧ m h1 = some (some (.int v), h2) ∧ RR L xs h2
theorem okC_same {L : Nat} {xs : Nat → Int32} {e m : zm_H → zm_R} {h : zm_H} (r : RR L xs h) (v : Int32) (he : e h = some (some (.int v), h)) (hm : m h = some (some (.int v), h)) : okC L xs e m h := ⟨v, h, h, he, hm, r⟩
