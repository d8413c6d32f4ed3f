/-! a law read: a line, the reference -/
theorem readME (d : Nat) {f : Nat → Int32} {S p c : Nat} {h : zm_H} (hp : p ≤ S) (hc : c ≤ p) (r : mdS f S c 0 p h) : reM c 0 h (fM_isE (d + 44) h) (pe f S p) := readM f S 42 0 0 p c h d (by omega) (by omega) (by omega) hp hc r
def frX (h K : zm_H) : Prop := (∀ a, a ≠ 45 → (a < 61 ∨ 64 < a) → K.1 a = h.1 a) ∧ (∀ b, (b < 23 ∨ 26 < b) → K.1 45 b = h.1 45 b) ∧ K.2 = h.2
theorem frX_r (h : zm_H) : frX h h := ⟨fun _ _ _ => rfl, fun _ _ => rfl, rfl⟩
theorem frX_t {h K M : zm_H} (e : frX h K) (f : frX K M) : frX h M := ⟨fun a h1 h2 => (f.1 a h1 h2).trans (e.1 a h1 h2), fun b h1 => (f.2.1 b h1).trans (e.2.1 b h1), f.2.2.trans e.2.2⟩
theorem frX_N {h K : zm_H} (e : frN h K) : frX h K := ⟨fun a h1 h2 => e.1 a h1 (by omega), fun b h1 => e.2.1 b (by omega) (by omega) (by omega), e.2.2⟩
theorem frX_u (h : zm_H) {c : Nat} (hc : 61 ≤ c ∧ c ≤ 64) (k : Nat) (v : Int32) : frX h (zm_ui h c k v) := ⟨fun a h1 h2 => ui_f (by omega), fun b h1 => ui_c (by omega), rfl⟩
theorem frX_4 (h : zm_H) {b : Nat} (hb : 23 ≤ b ∧ b ≤ 26) (v : Int32) : frX h (zm_ui h 45 b v) := ⟨fun a h1 h2 => ui_f h1, fun c h1 => ui_k (by omega), rfl⟩
def rlM (c L : Nat) (h : zm_H) (call : zm_R) (r : Nat × Option (List Nat × List Nat)) : Prop := ∃ K, frX h K ∧ K.1 45 23 = iN r.1 ∧ match r.2 with
  | none => call = some (some (.int 0), K)
  | some l => call = some (some (.int 1), K) ∧ K.1 45 26 = iN (L + 1) ∧ K.1 45 25 = iN (c + l.1.length + l.2.length) ∧ K.1 45 24 = iN 0 ∧ (K.1 61 L = iN c ∧ K.1 62 L = iN (c + l.1.length) ∧ K.1 63 L = iN (c + l.1.length + l.2.length)) ∧ (∀ i, i < L → K.1 61 i = h.1 61 i ∧ K.1 62 i = h.1 62 i ∧ K.1 63 i = h.1 63 i) ∧ (∀ i, i < c → K.1 64 i = h.1 64 i) ∧ atL (K.1 64) c (l.1.map iN) ∧ atL (K.1 64) (c + l.1.length) (l.2.map iN)
theorem rlM_n {c L q : Nat} {h K : zm_H} {call : zm_R} (e : frX h K) (e3 : K.1 45 23 = iN q) (hc : call = some (some (.int 0), K)) : rlM c L h call (q, none) := ⟨K, e, e3, hc⟩
theorem mdS_X {f : Nat → Int32} {S c o p c2 o2 p2 : Nat} {h K : zm_H} (r : mdS f S c o p h) (e : frX h K) (e3 : K.1 45 23 = iN p2) (e4 : K.1 45 24 = iN o2) (e5 : K.1 45 25 = iN c2) : mdS f S c2 o2 p2 K := ⟨r.1, by rw [e.2.1 15 (by omega)]; exact r.2.1, fun i hi => by rw [e.1 56 (by omega) (by omega)]; exact r.2.2.1 i hi, e3, e4, e5⟩
theorem lineM (d : Nat) {f : Nat → Int32} {S p c L : Nat} {h : zm_H} (hp : p ≤ S) (hc : c ≤ p) (hL : L < 61) (r : mdS f S c 0 p h) (e6 : h.1 45 26 = iN L) : rlM c L h (fM_isLine (d + 45) h) (ln f S p) := by
  have hS := r.1
  have G := pe_ok (f := f) hp
  have f0 : frX h (zm_ui h 61 L (iN c)) := frX_u h (by omega) _ _
  have r0 := mdS_X r f0 (by rw [ui_c (by omega)]; exact r.2.2.2.1) (by rw [ui_c (by omega)]; exact r.2.2.2.2.1) (by rw [ui_c (by omega)]; exact r.2.2.2.2.2)
  have R := readME d hp hc r0
  rw [fM_isLine_eq, e6, gW_61 hL, iN_c (by omega), r.2.2.2.2.2, Bool.cond_true]
  unfold ln
  generalize pe f S p = res at G R
  obtain ⟨q, t⟩ := res
  obtain ⟨g1, g2, g3⟩ := G
  obtain ⟨K, k1, k2, k3⟩ := R
  have f1 : frX h K := frX_t f0 (frX_N k1)
  cases t with
  | none =>
    simp only at k3
    exact rlM_n f1 k2 (by rw [k3, bI, cN, cT rfl])
  | some a =>
    obtain ⟨g4, g5, g6, g7⟩ := g3 a rfl
    obtain ⟨j1, j2, j5, j3, j4⟩ := k3
    simp only at g1 g2 g5 k2
    have L26 : K.1 45 26 = iN L := by rw [k1.2.1 26 (by omega) (by omega) (by omega), ui_c (by omega)]; exact e6
    have v61 : K.1 61 L = iN c := by rw [k1.1 61 (by omega) (by omega), ui_s]
    have rK := mdS_X (p2 := q) (c2 := c + a.length) (o2 := 0) (K := zm_ui K 62 L (iN c)) r (frX_t f1 (frX_u _ (by omega) _ _)) (by rw [ui_c (by omega)]; exact k2) (by rw [ui_c (by omega)]; exact j5) (by rw [ui_c (by omega)]; exact j2)
    rw [j1, bI, cN, cF (by decide), L26, gR_61 hL, gW_62 hL, iN_c (by omega), v61, Bool.cond_true, Bool.cond_true, isM (d + 42) 63 rK g1]
    sorry
