/-! a law read: the reference -/
def frN (h K : zm_H) : Prop := (∀ a, a ≠ 45 → a ≠ 64 → K.1 a = h.1 a) ∧ (∀ b, b ≠ 23 → b ≠ 24 → b ≠ 25 → K.1 45 b = h.1 45 b) ∧ K.2 = h.2
theorem frN_r (h : zm_H) : frN h h := ⟨fun _ _ _ => rfl, fun _ _ _ _ => rfl, rfl⟩
theorem frN_t {h K M : zm_H} (e : frN h K) (f : frN K M) : frN h M := ⟨fun a h1 h2 => (f.1 a h1 h2).trans (e.1 a h1 h2), fun b h1 h2 h3 => (f.2.1 b h1 h2 h3).trans (e.2.1 b h1 h2 h3), f.2.2.trans e.2.2⟩
theorem frN_u (h : zm_H) {b : Nat} (hb : b = 23 ∨ b = 24 ∨ b = 25) (v : Int32) : frN h (zm_ui h 45 b v) := ⟨fun a h1 h2 => ui_f h1, fun c h1 h2 h3 => ui_k (by omega), rfl⟩
theorem frN_e (h : zm_H) (c : Nat) (x v : Int32) : frN h (zm_ui (zm_ui h 45 25 v) 64 c x) := ⟨fun a h1 h2 => by rw [ui_f h2, ui_f h1], fun b h1 h2 h3 => by rw [ui_c (by omega), ui_k h3], rfl⟩
def mdS (f : Nat → Int32) (S c o p : Nat) (h : zm_H) : Prop := S ≤ 120 ∧ h.1 45 15 = iN S ∧ (∀ i, i < S → h.1 56 i = f i) ∧ h.1 45 23 = iN p ∧ h.1 45 24 = iN o ∧ h.1 45 25 = iN c
theorem mdS_3 {f : Nat → Int32} {S c o p q : Nat} {h : zm_H} (r : mdS f S c o p h) : mdS f S c o q (zm_ui h 45 23 (iN q)) := ⟨r.1, by rw [ui_k (by omega)]; exact r.2.1, fun i hi => by rw [ui_c (by omega)]; exact r.2.2.1 i hi, ui_s _ _ _ _, by rw [ui_k (by omega)]; exact r.2.2.2.2.1, by rw [ui_k (by omega)]; exact r.2.2.2.2.2⟩
theorem mdS_4 {f : Nat → Int32} {S c o p q : Nat} {h : zm_H} (r : mdS f S c o p h) : mdS f S c q p (zm_ui h 45 24 (iN q)) := ⟨r.1, by rw [ui_k (by omega)]; exact r.2.1, fun i hi => by rw [ui_c (by omega)]; exact r.2.2.1 i hi, by rw [ui_k (by omega)]; exact r.2.2.2.1, ui_s _ _ _ _, by rw [ui_k (by omega)]; exact r.2.2.2.2.2⟩
theorem mdS_P {f : Nat → Int32} {S c o p c2 o2 p2 : Nat} {h K : zm_H} (r : mdS f S c o p h) (e : frN h K) (e3 : K.1 45 23 = iN p2) (e4 : K.1 45 24 = iN o2) (e5 : K.1 45 25 = iN c2) : mdS f S c2 o2 p2 K := ⟨r.1, by rw [e.2.1 15 (by omega) (by omega) (by omega)]; exact r.2.1, fun i hi => by rw [e.1 56 (by omega) (by omega)]; exact r.2.2.1 i hi, e3, e4, e5⟩
theorem signM (d : Nat) {f : Nat → Int32} {S c o p : Nat} {h : zm_H} (r : mdS f S c o p h) (hp : p ≤ S) : fM_sign (d + 1) h = some (some (.int (sgn f S p)), h) := by
  obtain ⟨r1, r2, r3, r4, r5, r6⟩ := r
  unfold sgn
  rw [fM_sign_eq, r4, r2]
  by_cases q : p < S
  · rw [if_pos q, cF (by rw [iN_le (by omega) (by omega)]; omega), gR_56 (by omega), iN_c (by omega), r3 p q]; rfl
  · rw [if_neg q, cT (by rw [iN_le (by omega) (by omega)]; omega)]
theorem isM (d : Nat) (x : Int32) {f : Nat → Int32} {S c o p : Nat} {h : zm_H} (r : mdS f S c o p h) (hp : p ≤ S) : fM_is (d + 2) x h = cond (decide (sgn f S p = x)) (some (some (.int 1), zm_ui h 45 23 (iN (p + 1)))) (some (some (.int 0), h)) := by
  rw [fM_is_eq, signM d r hp, bI, r.2.2.2.1, iN_addr]
theorem codesM (d : Nat) (x : Int32) {c : Nat} {h : zm_H} (r : h.1 45 25 = iN c) (hc : c < 200) : fM_codes (d + 1) x h = some (some (.int 1), zm_ui (zm_ui h 45 25 (iN (c + 1))) 64 c x) := by
  rw [fM_codes_eq, r, gW_64 (by omega), iN_c (by omega), iN_addr]; rfl
theorem isDigitM (d : Nat) {f : Nat → Int32} {S c o p : Nat} {h : zm_H} (r : mdS f S c o p h) (hp : p ≤ S) : fM_isDigit (d + 2) h = some (some (.int (zi (isD (sgn f S p)))), h) := by
  rw [fM_isDigit_eq, signM d r hp, bI, signM d r hp, bI]; unfold isD
  cases decide (sgn f S p < 48) <;> cases decide (57 < sgn f S p) <;> rfl
def nmo (x : Int32) : Int32 := match nm x with
  | none => -1
  | some c => iN c
theorem nameM (d : Nat) (x : Int32) (h : zm_H) : fM_nameOf (d + 1) x h = some (some (.int (nmo x)), h) := by
  have e : ∀ y l, nmo y = l → x = y → nmo x = l := fun y l h1 h2 => by rw [h2]; exact h1
  rw [fM_nameOf_eq]
  by_cases q0 : x = 98
  · rw [cT q0, e 98 5 rfl q0]
  · rw [cF q0]
    by_cases q1 : x = 107
    · rw [cT q1, e 107 1 rfl q1]
    · rw [cF q1]
      by_cases q2 : x = 110
      · rw [cT q2, e 110 4 rfl q2]
      · rw [cF q2]
        by_cases q3 : x = 115
        · rw [cT q3, e 115 2 rfl q3]
        · rw [cF q3]
          by_cases q4 : x = 116
          · rw [cT q4, e 116 0 rfl q4]
          · rw [cF q4]
            by_cases q5 : x = 119
            · rw [cT q5, e 119 3 rfl q5]
            · rw [cF q5]
              have : nmo x = -1 := by
                unfold nmo nm
                rw [if_neg q4, if_neg q1, if_neg q3, if_neg q5, if_neg q2, if_neg q0]
              rw [this]
def reM (c o : Nat) (h : zm_H) (call : zm_R) (r : Nat × Option (List Nat)) : Prop := ∃ K, frN h K ∧ K.1 45 23 = iN r.1 ∧ match r.2 with
  | none => call = some (some (.int 0), K)
  | some t => call = some (some (.int 1), K) ∧ K.1 45 25 = iN (c + t.length) ∧ K.1 45 24 = iN o ∧ (∀ i, i < c → K.1 64 i = h.1 64 i) ∧ atL (K.1 64) c (t.map iN)
theorem reM_n {c o p : Nat} {h K : zm_H} {call : zm_R} (e : frN h K) (e3 : K.1 45 23 = iN p) (hc : call = some (some (.int 0), K)) : reM c o h call (p, none) := ⟨K, e, e3, hc⟩
/-- what a level's loop does -/
noncomputable def stM (nxt c9 : zm_H → zm_R) (D lvl p : Nat) (h : zm_H) : Option (Nat × Nat) → zm_R
  | none => some (some (.int 1), h)
  | some (l, x) => if l = lvl then zb_I (nxt (zm_ui h 45 23 (iN (p + 1)))) (fun v h3 => cond (!(decide (v = 0))) (zb_I (fM_codes (D + 1) (iN x) h3) (fun _ h5 => c9 h5)) (some (some (.int 0), h3))) else some (some (.int 1), h)
theorem loopM {nxt : zm_H → zm_R} {c9 : Nat → zm_H → zm_R} {D lvl o E : Nat} {f : Nat → Int32} {S : Nat} (ok : Nat → Nat → Prop) (okS : ∀ k p q, ok (k + 1) p → p < q → ok k q) (z0 : ∀ p c h, ok 0 p → p ≤ S → mdS f S c o p h → c9 0 h = some (some (.int 1), h)) (st : ∀ k p c h, ok (k + 1) p → p ≤ S → mdS f S c o p h → c9 (k + 1) h = stM nxt (c9 k) D lvl p h (opl (sgn f S p))) {g : Nat → Nat × Option (List Nat)} (hg : ∀ p, p ≤ S → okP S E p (g p)) (sub : ∀ p c h, p ≤ S → c ≤ p → mdS f S c o p h → reM c o h (nxt h) (g p)) {h0 : zm_H} {c0 : Nat} :
    ∀ (k p : Nat) (t : List Nat) (h : zm_H), ok k p → p ≤ S → c0 + t.length ≤ p → mdS f S (c0 + t.length) o p h → frN h0 h → (∀ i, i < c0 → h.1 64 i = h0.1 64 i) → atL (h.1 64) c0 (t.map iN) → reM c0 o h0 (c9 k h) (lpz g f S lvl k p t) := by
  intro k
  induction k with
  | zero =>
    intro p t h hx hp hc r fr r10 rt
    refine ⟨h, fr, r.2.2.2.1, ?_, r.2.2.2.2.2, r.2.2.2.2.1, r10, rt⟩
    exact z0 p _ h hx hp r
  | succ k ih =>
    intro p t h hx hp hc r fr r10 rt
    have hS := r.1
    rw [st k p _ h hx hp r, lpz]
    cases q : opl (sgn f S p) with
    | none => exact ⟨h, fr, r.2.2.2.1, rfl, r.2.2.2.2.2, r.2.2.2.2.1, r10, rt⟩
    | some lc =>
      obtain ⟨l, x2⟩ := lc
      obtain ⟨o1, o2, o3, o4, o5⟩ := opl_c q
      have hp2 := sgn_lt o5
      simp only [stM]
      by_cases e : l = lvl
      · rw [if_pos e, if_pos e]
        have G := hg (p + 1) (by omega)
        obtain ⟨K, k1, k2, k3⟩ := sub (p + 1) (c0 + t.length) (zm_ui h 45 23 (iN (p + 1))) (by omega) (by omega) (mdS_3 r)
        have f1 : frN h0 K := frN_t (frN_t fr (frN_u _ (by omega) _)) k1
        generalize g (p + 1) = res at *
        obtain ⟨p2, t2⟩ := res
        cases t2 with
        | none =>
          simp only at k3
          exact reM_n f1 k2 (by rw [k3, bI, cN, cT rfl])
        | some t2 =>
          obtain ⟨j1, j2, j5, j3, j4⟩ := k3
          obtain ⟨g1, g2, g3⟩ := G
          obtain ⟨g4, g5, g6, g7⟩ := g3 t2 rfl
          simp only at g1 g2 g5 k2
          have lenE : (t ++ t2 ++ [x2]).length = t.length + t2.length + 1 := by simp only [List.length_append, List.length_singleton]
          rw [j1, bI, cN, cF (by decide), codesM D _ j2 (by omega), bI]
          refine ih p2 (t ++ t2 ++ [x2]) _ (okS k p p2 hx (by omega)) g1 (by rw [lenE]; omega) ?_ (frN_t f1 (frN_e _ _ _ _)) ?_ ?_
          · rw [lenE]
            exact mdS_P (mdS_3 r (q := p + 1)) (frN_t k1 (frN_e _ _ _ _)) (by rw [ui_c (by omega), ui_k (by omega)]; exact k2) (by rw [ui_c (by omega), ui_k (by omega)]; exact j5) (by rw [ui_c (by omega), ui_s]; exact congrArg iN (by omega))
          · intro i hi
            rw [ui_k (by omega), ui_c (by omega), j3 i (by omega), ui_c (by omega)]; exact r10 i hi
          · rw [List.map_append, List.map_append, atL_app, atL_app, List.length_append, List.length_map, List.length_map]
            refine ⟨⟨atL_k _ _ (fun i h1 h2 => ?_) rt, atL_k _ _ (fun i h1 h2 => ?_) j4⟩, ?_, trivial⟩
            · rw [List.length_map] at h2
              rw [ui_k (by omega), ui_c (by omega), j3 i (by omega), ui_c (by omega)]
            · rw [List.length_map] at h2
              rw [ui_k (by omega), ui_c (by omega)]
            · rw [← Nat.add_assoc, ui_s]
      · rw [if_neg e, if_neg e]
        exact ⟨h, fr, r.2.2.2.1, rfl, r.2.2.2.2.2, r.2.2.2.2.1, r10, rt⟩
