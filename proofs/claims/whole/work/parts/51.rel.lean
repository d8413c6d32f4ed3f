/-! class and reference say alike -/
def lo (w : Nat) : Int32 := match w with
  | 0 => 40
  | 1 => 1
  | 5 => 1
  | 6 => 20
  | 7 => 10
  | 9 => 1
  | 10 => 1
  | _ => 0
def hi (w : Nat) : Int32 := match w with
  | 0 => 200
  | 1 => 9
  | 2 => 9
  | 3 => 200
  | 4 => 99
  | 5 => 9
  | 6 => 60
  | 7 => 99
  | 8 => 9
  | 9 => 9
  | 10 => 4
  | _ => 200
def abv (k : Nat) : Int32 := match k with
  | 0 => -1
  | 3 => 2
  | 4 => 1
  | 5 => 3
  | 7 => 4
  | _ => 0
def own (k : Nat) : Int32 := match k with
  | 0 => 1
  | 1 => 10
  | 2 => 11
  | 3 => 2
  | 4 => 20
  | 9 => 30
  | 13 => 41
  | 14 => 40
  | 18 => 50
  | 23 => 60
  | 24 => 70
  | 29 => 80
  | 31 => 81
  | _ => 0
def rW (L : Nat) (xs : Nat → Int32) (h : zm_H) : Prop :=
  h.1 2000 = xs ∧ h.1 2001 0 = iN L ∧ (∀ w, w < 12 → h.1 1000 w = lo w) ∧ (∀ w, w < 12 → h.1 1001 w = hi w) ∧ (∀ k, k < 8 → h.1 1002 k = abv k) ∧ (∀ k, k < 32 → h.1 1003 k = own k)
/-- how many there are of what -/
def cnt (T P w : Nat) : Nat := if w ≤ 4 then T else if w = 5 then 5 else if w ≤ 8 then 1 else if w ≤ 11 then P else T
/-- the reference's cell and place of a number -/
def mc (w : Nat) : Nat := match w with
  | 0 => 46
  | 1 => 47
  | 2 => 48
  | 3 => 49
  | 4 => 50
  | 5 => 52
  | 6 => 45
  | 7 => 45
  | 8 => 45
  | 9 => 53
  | 10 => 54
  | 11 => 55
  | _ => 51
def mi (w n : Nat) : Nat := match w with
  | 6 => 8
  | 7 => 9
  | 8 => 10
  | _ => n
def fitW (w : Nat) (v : Int32) : Prop := lo w ≤ v ∧ v ≤ hi w
def rN (T P : Nat) (h : zm_H) : Prop :=
  (T ≤ 8 ∧ P ≤ 6 ∧ h.1 1 1 = iN T ∧ h.1 45 0 = iN T ∧ h.1 1 2 = iN P ∧ h.1 45 11 = iN P) ∧
  (∀ w n, w < 13 → n < cnt T P w → h.1 (mc w) (mi w n) = h.1 2 (w * 8 + n)) ∧
  (∀ w n, w < 12 → n < cnt T P w → fitW w (h.1 2 (w * 8 + n))) ∧
  (∀ t, T ≤ t → t < 8 → h.1 2 (32 + t) = 0 ∧ h.1 2 (96 + t) = 0)
def rC (T P D A : Nat) (h : zm_H) : Prop :=
  (D ≤ A ∧ A ≤ 40 ∧ h.1 3 4 = iN D ∧ h.1 3 5 = iN A ∧ h.1 45 39 = iN D ∧ h.1 45 38 = iN A) ∧
  (∀ i, i < A → ∃ n w, w < 12 ∧ n < cnt T P w ∧ h.1 4 i = iN n ∧ h.1 70 (4 * i) = iN n ∧ h.1 5 i = iN w ∧ h.1 70 (4 * i + 1) = iN w ∧
    h.1 70 (4 * i + 2) = h.1 6 i ∧ h.1 70 (4 * i + 3) = h.1 7 i ∧ fitW w (h.1 6 i) ∧ fitW w (h.1 7 i))
def rT (S : Nat) (h : zm_H) : Prop :=
  S ≤ 120 ∧ h.1 8 2 = iN S ∧ h.1 45 15 = iN S ∧ ∀ i, i < S → h.1 9 i = h.1 56 i ∧ 0 ≤ h.1 9 i ∧ h.1 9 i ≤ 255
def rG (h : zm_H) : Prop := h.1 66 0 = h.1 23 2 ∧ h.1 66 1 = h.1 23 3 ∧ h.1 66 2 = h.1 23 4 ∧ h.1 66 3 = h.1 23 5
def rI (T : Nat) (h : zm_H) : Prop :=
  h.1 45 33 = h.1 0 10 ∧ (h.1 0 10 = 0 ∨ (h.1 0 10 = 1 ∧ h.1 69 0 = h.1 26 2 ∧ h.1 69 1 = h.1 26 3 ∧ h.1 69 2 = h.1 26 4 ∧ h.1 69 3 = h.1 26 5 ∧
    ∃ O, O ≤ T ∧ h.1 45 34 = iN O ∧ (∀ t, t < O → h.1 67 t = h.1 27 t ∧ h.1 68 t = h.1 28 t ∧ 0 ≤ h.1 27 t ∧ h.1 27 t ≤ 99) ∧ ∀ t, O ≤ t → t < 8 → h.1 27 t = 0 ∧ h.1 28 t = 0))
def rB (B Q : Nat) (h : zm_H) : Prop :=
  B ≤ 50 ∧ h.1 29 2 = iN B ∧ h.1 45 41 = iN B ∧ (∀ i, i < B → ∃ k, k < 8 ∧ h.1 30 i = iN k ∧ h.1 71 i = iN k) ∧
  Q < 1000 ∧ h.1 29 3 = iN Q ∧ h.1 45 43 = iN Q ∧ ∀ i, i < Q → i < 24 → h.1 31 i = h.1 72 i
def rSo (B s : Nat) (h : zm_H) : Prop :=
  (h.1 (33 + s) 1 = -1 ∧ h.1 (33 + s) 2 = -1 ∧ h.1 (33 + s) 3 = 0 ∧ h.1 73 s = -1 ∧ h.1 74 s = 0) ∨
  (∃ b, b < B ∧ h.1 (33 + s) 1 = iN b ∧ h.1 (33 + s) 2 = -1 ∧ h.1 (33 + s) 3 = 0 ∧ h.1 73 s = iN (10 + b) ∧ h.1 74 s = 0) ∨
  (∃ k n, k < 5 ∧ n ≤ 60 ∧ h.1 (33 + s) 1 = -1 ∧ h.1 (33 + s) 2 = iN k ∧ h.1 (33 + s) 3 = iN n ∧ h.1 73 s = iN k ∧ h.1 74 s = iN n ∧
    ∀ i, i < n → h.2 75 (60 * s + i) = h.2 (39 + s) i ∧ (k ≤ 2 → (h.2 (39 + s) i).toInt32.toInt64 = h.2 (39 + s) i))
def rS (B : Nat) (h : zm_H) : Prop := ∀ s, s < 6 → rSo B s h
