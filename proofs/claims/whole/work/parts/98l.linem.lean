/-! a law read: a line, the reference -/
theorem readME (d : Nat) {f : Nat → Int32} {S p c : Nat} {h : zm_H} (hp : p ≤ S) (hc : c ≤ p) (r : mdS f S c 0 p h) : reM c 0 h (fM_isE (d + 44) h) (pe f S p) := readM f S 42 0 0 p c h d (by omega) (by omega) (by omega) hp hc r
def frX (h K : zm_H) : Prop := (∀ a, a ≠ 45 → (a < 61 ∨ 64 < a) → K.1 a = h.1 a) ∧ (∀ b, (b < 23 ∨ 26 < b) → K.1 45 b = h.1 45 b) ∧ K.2 = h.2
theorem frX_r (h : zm_H) : frX h h := ⟨fun _ _ _ => rfl, fun _ _ => rfl, rfl⟩
theorem frX_t {h K M : zm_H} (e : frX h K) (f : frX K M) : frX h M := ⟨fun a h1 h2 => (f.1 a h1 h2).trans (e.1 a h1 h2), fun b h1 => (f.2.1 b h1).trans (e.2.1 b h1), f.2.2.trans e.2.2⟩
theorem frX_N {h K : zm_H} (e : frN h K) : frX h K := ⟨fun a h1 h2 => e.1 a h1 (by omega), fun b h1 => e.2.1 b (by omega) (by omega) (by omega), e.2.2⟩
theorem frX_u (h : zm_H) {c : Nat} (hc : 61 ≤ c ∧ c ≤ 64) (k : Nat) (v : Int32) : frX h (zm_ui h c k v) := ⟨fun a h1 h2 => ui_f (by omega), fun b h1 => ui_c (by omega), rfl⟩
theorem frX_4 (h : zm_H) {b : Nat} (hb : 23 ≤ b ∧ b ≤ 26) (v : Int32) : frX h (zm_ui h 45 b v) := ⟨fun a h1 h2 => ui_f h1, fun c h1 => ui_k (by omega), rfl⟩
def rlM (c L : Nat) (h : zm_H) (call : zm_R) (r : Nat × Option (List Nat × List Nat)) : Prop := ∃ K, frX h K ∧ K.1 45 23 = iN r.1 ∧ match r.2 with
  | none => call = some (some (.int 0), K)
  | some l => call = some (some (.int 1), K) ∧ K.1 45 26 = iN (L + 1) ∧ K.1 45 25 = iN (c + l.1.length + l.2.length) ∧ K.1 45 24 = iN 0 ∧ (K.1 61 L = iN c ∧ K.1 62 L = iN (c + l.1.length) ∧ K.1 63 L = iN (c + l.1.length + l.2.length)) ∧ (∀ i, i < L → K.1 61 i = h.1 61 i ∧ K.1 62 i = h.1 62 i ∧ K.1 63 i = h.1 63 i) ∧ (∀ i, i < c → K.1 64 i = h.1 64 i) ∧ atL (K.1 64) c (l.1.map iN) ∧ atL (K.1 64) (c + l.1.length) (l.2.map iN)
theorem rlM_n {c L q : Nat} {h K : zm_H} {call : zm_R} (e : frX h K) (e3 : K.1 45 23 = iN q) (hc : call = some (some (.int 0), K)) : rlM c L h call (q, none) := ⟨K, e, e3, hc⟩
theorem mdS_X {f : Nat → Int32} {S c o p c2 o2 p2 : Nat} {h K : zm_H} (r : mdS f S c o p h) (e : frX h K) (e3 : K.1 45 23 = iN p2) (e4 : K.1 45 24 = iN o2) (e5 : K.1 45 25 = iN c2) : mdS f S c2 o2 p2 K := ⟨r.1, by rw [e.2.1 15 (by omega)]; exact r.2.1, fun i hi => by rw [e.1 56 (by omega) (by omega)]; exact r.2.2.1 i hi, e3, e4, e5⟩
theorem lineM (d : Nat) {f : Nat → Int32} {S p c L : Nat} {h : zm_H} (hp : p ≤ S) (hc : c ≤ p) (hL : L < 61) (r : mdS f S c 0 p h) (e6 : h.1 45 26 = iN L) : rlM c L h (fM_isLine (d + 45) h) (ln f S p) := by
  have hS := r.1
  have G := pe_ok (f := f) hp
  have f0 : frX h (zm_ui h 61 L (iN c)) := frX_u h (by omega) _ _
  have r0 := mdS_X r f0 (by rw [ui_c (by omega)]; exact r.2.2.2.1) (by rw [ui_c (by omega)]; exact r.2.2.2.2.1) (by rw [ui_c (by omega)]; exact r.2.2.2.2.2)
  have R := readME d hp hc r0
  rw [fM_isLine_eq, e6, gW_61 hL, iN_c (by omega), r.2.2.2.2.2, Bool.cond_true]
  unfold ln
  generalize pe f S p = res at G R
  obtain ⟨q, t⟩ := res
  obtain ⟨g1, g2, g3⟩ := G
  obtain ⟨K, k1, k2, k3⟩ := R
  have f1 : frX h K := frX_t f0 (frX_N k1)
  cases t with
  | none =>
    simp only at k3
    exact rlM_n f1 k2 (by rw [k3, bI, cN, cT rfl])
  | some a =>
    obtain ⟨g4, g5, g6, g7⟩ := g3 a rfl
    obtain ⟨j1, j2, j5, j3, j4⟩ := k3
    simp only at g1 g2 g5 k2
    have L26 : K.1 45 26 = iN L := by rw [k1.2.1 26 (by omega) (by omega) (by omega), ui_c (by omega)]; exact e6
    have v61 : K.1 61 L = iN c := by rw [k1.1 61 (by omega) (by omega), ui_s]
    have rK := mdS_X (p2 := q) (c2 := c + a.length) (o2 := 0) (K := zm_ui K 62 L (iN c)) r (frX_t f1 (frX_u _ (by omega) _ _)) (by rw [ui_c (by omega)]; exact k2) (by rw [ui_c (by omega)]; exact j5) (by rw [ui_c (by omega)]; exact j2)
    rw [j1, bI, cN, cF (by decide), L26, gR_61 hL, gW_62 hL, iN_c (by omega), v61, Bool.cond_true, Bool.cond_true, isM (d + 42) 63 rK g1]
    show rlM c L h _ (if sgn f S q = 63 then ln3 a (pe f S (q + 1)) else (q, some ([], a)))
    have Z26 : (zm_ui K 62 L (iN c)).1 45 26 = iN L := by rw [ui_c (by omega)]; exact L26
    have Z25 : (zm_ui K 62 L (iN c)).1 45 25 = iN (c + a.length) := by rw [ui_c (by omega)]; exact j2
    by_cases e : sgn f S q = 63
    · have hq := sgn_lt (f := f) (S := S) (p := q) (by rw [e]; decide)
      rw [cT e, if_pos e, bI, cF (by decide)]
      have r5 := mdS_X (p2 := q + 1) (c2 := c + a.length) (o2 := 0) (K := zm_ui (zm_ui (zm_ui K 62 L (iN c)) 45 23 (iN (q + 1))) 62 L (iN (c + a.length))) r (frX_t (frX_t (frX_t f1 (frX_u _ (by omega) _ _)) (frX_4 _ (b := 23) (by omega) _)) (frX_u _ (by omega) _ _)) (by rw [ui_c (by omega), ui_s]) (by rw [ui_c (by omega), ui_k (by omega), ui_c (by omega)]; exact j5) (by rw [ui_c (by omega), ui_k (by omega), ui_c (by omega)]; exact j2)
      have f5 : frX h (zm_ui (zm_ui (zm_ui K 62 L (iN c)) 45 23 (iN (q + 1))) 62 L (iN (c + a.length))) := frX_t (frX_t (frX_t f1 (frX_u _ (by omega) _ _)) (frX_4 _ (b := 23) (by omega) _)) (frX_u _ (by omega) _ _)
      have R := readME d (by omega : q + 1 ≤ S) (by omega) r5
      have G := pe_ok (f := f) (S := S) (p := q + 1) (by omega)
      rw [ui_k (by omega), Z26, gW_62 hL, iN_c (by omega), ui_k (by omega), Z25, Bool.cond_true]
      generalize pe f S (q + 1) = res at G R
      obtain ⟨q2, t⟩ := res
      obtain ⟨M, m1, m2, m3⟩ := R
      have f6 := frX_t f5 (frX_N m1)
      cases t with
      | none =>
        simp only at m3
        exact rlM_n f6 m2 (by rw [m3]; rfl)
      | some s =>
        obtain ⟨w1, w2, w5, w3, w4⟩ := m3
        have M26 : M.1 45 26 = iN L := by rw [m1.2.1 26 (by omega) (by omega) (by omega), ui_c (by omega), ui_k (by omega)]; exact Z26
        refine ⟨zm_ui (zm_ui M 45 26 (iN (L + 1))) 63 L (iN (c + a.length + s.length)), frX_t (frX_t f6 (frX_4 _ (b := 26) (by omega) _)) (frX_u _ (by omega) _ _), by rw [ui_c (by omega), ui_k (by omega)]; exact m2, ?_⟩
        refine ⟨?_, by rw [ui_c (by omega), ui_s], by rw [ui_c (by omega), ui_k (by omega)]; exact w2, by rw [ui_c (by omega), ui_k (by omega)]; exact w5, ⟨?_, ?_, ui_s _ _ _ _⟩, ?_, ?_, ?_, ?_⟩
        · rw [w1, bI, cN, cF (by decide), M26, gW_63 hL, iN_c (by omega), iN_addr, ui_k (by omega), w2]; rfl
        · rw [ui_c (by omega), ui_c (by omega), m1.1 61 (by omega) (by omega), ui_c (by omega), ui_c (by omega), ui_c (by omega)]; exact v61
        · rw [ui_c (by omega), ui_c (by omega), m1.1 62 (by omega) (by omega), ui_s]
        · intro i hi
          refine ⟨?_, ?_, ?_⟩
          · rw [ui_c (by omega), ui_c (by omega), m1.1 61 (by omega) (by omega), ui_c (by omega), ui_c (by omega), ui_c (by omega), k1.1 61 (by omega) (by omega), ui_k (by omega)]
          · rw [ui_c (by omega), ui_c (by omega), m1.1 62 (by omega) (by omega), ui_k (by omega), ui_c (by omega), ui_k (by omega), k1.1 62 (by omega) (by omega), ui_c (by omega)]
          · rw [ui_k (by omega), ui_c (by omega), m1.1 63 (by omega) (by omega), ui_c (by omega), ui_c (by omega), ui_c (by omega), k1.1 63 (by omega) (by omega), ui_c (by omega)]
        · intro i hi
          rw [ui_c (by omega), ui_c (by omega), w3 i (by omega), ui_c (by omega), ui_c (by omega), ui_c (by omega), j3 i hi, ui_c (by omega)]
        · refine atL_k _ _ (fun i h1 h2 => ?_) j4
          rw [List.length_map] at h2
          rw [ui_c (by omega), ui_c (by omega), w3 i (by omega), ui_c (by omega), ui_c (by omega), ui_c (by omega)]
        · rw [ui_f (by omega), ui_f (by omega)]; exact w4
    · rw [cF e, if_neg e, bI, cT rfl, Z26, gW_63 hL, iN_c (by omega), iN_addr, Bool.cond_true, ui_k (by omega), Z25]
      refine ⟨zm_ui (zm_ui (zm_ui K 62 L (iN c)) 45 26 (iN (L + 1))) 63 L (iN (c + a.length)), frX_t (frX_t (frX_t f1 (frX_u _ (by omega) _ _)) (frX_4 _ (b := 26) (by omega) _)) (frX_u _ (by omega) _ _), by rw [ui_c (by omega), ui_k (by omega), ui_c (by omega)]; exact k2, ?_⟩
      refine ⟨rfl, by rw [ui_c (by omega), ui_s], by rw [ui_c (by omega), ui_k (by omega), ui_c (by omega)]; exact j2, by rw [ui_c (by omega), ui_k (by omega), ui_c (by omega)]; exact j5, ⟨?_, ?_, ui_s _ _ _ _⟩, ?_, ?_, trivial, ?_⟩
      · rw [ui_c (by omega), ui_c (by omega), ui_c (by omega)]; exact v61
      · rw [ui_c (by omega), ui_c (by omega), ui_s]; rfl
      · intro i hi
        refine ⟨?_, ?_, ?_⟩
        · rw [ui_c (by omega), ui_c (by omega), ui_c (by omega), k1.1 61 (by omega) (by omega), ui_k (by omega)]
        · rw [ui_c (by omega), ui_c (by omega), ui_k (by omega), k1.1 62 (by omega) (by omega), ui_c (by omega)]
        · rw [ui_k (by omega), ui_c (by omega), ui_c (by omega), k1.1 63 (by omega) (by omega), ui_c (by omega)]
      · intro i hi
        rw [ui_c (by omega), ui_c (by omega), ui_c (by omega), j3 i hi, ui_c (by omega)]
      · rw [ui_f (by omega), ui_f (by omega), ui_f (by omega)]; exact j4
