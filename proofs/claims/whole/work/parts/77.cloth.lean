/-! lines; cloth -/
def lval (g : Nat → Int32) (b : Int32) : List (List Nat × List Nat) → Int32
  | [] => 0
  | (a, s) :: ls => if a ≠ [] ∧ (evs g b [] a).headD 0 = 0 then lval g b ls else zm_max 0 (zm_min 60 ((evs g b [] s).headD 0))
theorem cc_ne {c : Nat} (hc : c < 20000) : ¬ cc c = -59 := by
  by_cases h18 : 18 ≤ c
  · have e : cc c = iN (c - 18) := by
      unfold cc; split <;> first | omega | rfl
    rw [e]
    have l0 : (0 : Int32) ≤ iN (c - 18) := by simp (disch := omega) only [iN_add, iN_addl, iN_addr, iN_mul, iN_mull, iN_mulr, iN_sub, iN_subl, iN_subr, iN_c, iN_lt, iN_ltl, iN_ltr, iN_le, iN_lel, iN_ler, iN_eq, iN_eql, iN_eqr]; omega
    generalize iN (c - 18) = y at l0; grind
  · rcases cases18 (Nat.lt_of_not_le h18) with rfl | rfl | rfl | rfl | rfl | rfl | rfl | rfl | rfl | rfl | rfl | rfl | rfl | rfl | rfl | rfl | rfl | rfl <;> decide
theorem skipC (d : Nat) {b : Int32} {z : Nat} (hz : z ≤ 128) {h : zm_H} (e2 : h.1 11 2 = iN z) : ∀ (l : List Nat) (p : Nat), (∀ c ∈ l, c < 20000) → p + l.length ≤ z → atL (h.1 12) p (l.map cc) →
    fLa_valueFor_c10 (d + 2) b 0 (iN p) h = fLa_valueFor_c10 (d + 2) b 0 (iN (p + l.length)) h := by
  intro l
  induction l with
  | nil => intro p _ _ _; rfl
  | cons c l ih =>
    intro p hc hp ea
    rw [List.length_cons] at hp
    rw [fLa_valueFor_c10_eq, e2, cF (by simp (disch := omega) only [iN_add, iN_addl, iN_addr, iN_mul, iN_mull, iN_mulr, iN_sub, iN_subl, iN_subr, iN_c, iN_lt, iN_ltl, iN_ltr, iN_le, iN_lel, iN_ler, iN_eq, iN_eql, iN_eqr]; omega), gR_12 (by omega), iN_c (by omega), show h.1 12 p = cc c from ea.1, Bool.cond_true, cN, cF (cc_ne (hc c (List.mem_cons_self ..))), cN, cT (by decide), iN_addr]
    rw [ih (p + 1) (fun x hx => hc x (List.mem_cons_of_mem _ hx)) (by omega) ea.2, List.length_cons, show p + 1 + l.length = p + (l.length + 1) by omega]
theorem endC (d : Nat) {b : Int32} {z p : Nat} (hz : z ≤ 128) {h : zm_H} (e2 : h.1 11 2 = iN z) (e3 : h.1 11 3 = iN 1) (hp : p < z) (ea : h.1 12 p = -59) : fLa_valueFor_c10 (d + 2) b 1 (iN p) h = some (some (.int (h.1 13 0)), zm_ui h 11 3 (iN 0)) := by
  rw [fLa_valueFor_c10_eq, e2, cF (by simp (disch := omega) only [iN_add, iN_addl, iN_addr, iN_mul, iN_mull, iN_mulr, iN_sub, iN_subl, iN_subr, iN_c, iN_lt, iN_ltl, iN_ltr, iN_le, iN_lel, iN_ler, iN_eq, iN_eql, iN_eqr]; omega), gR_12 (by omega), iN_c (by omega), ea, Bool.cond_true, cN, cT (by decide), cF (by decide), pop_s d (n := 0) (by omega) e3, bI]
theorem endC0 (d : Nat) {b : Int32} {z p : Nat} (hz : z ≤ 128) {h : zm_H} (e2 : h.1 11 2 = iN z) (hp : p < z) (ea : h.1 12 p = -59) : fLa_valueFor_c10 (d + 2) b 0 (iN p) h = fLa_valueFor_c10 (d + 2) b 1 (iN (p + 1)) h := by
  rw [fLa_valueFor_c10_eq, e2, cF (by simp (disch := omega) only [iN_add, iN_addl, iN_addr, iN_mul, iN_mull, iN_mulr, iN_sub, iN_subl, iN_subr, iN_c, iN_lt, iN_ltl, iN_ltr, iN_le, iN_lel, iN_ler, iN_eq, iN_eql, iN_eqr]; omega), gR_12 (by omega), iN_c (by omega), ea, Bool.cond_true, cN, cT (by decide), cT (by decide), iN_addr]
theorem askC (d : Nat) {b : Int32} {z p : Nat} (hz : z ≤ 128) {h : zm_H} (e2 : h.1 11 2 = iN z) (e3 : h.1 11 3 = iN 1) (hp : p < z) (ea : h.1 12 p = -63) : fLa_valueFor_c10 (d + 2) b 1 (iN p) h = cond (decide (h.1 13 0 = 0)) (fLa_valueFor_c10 (d + 2) b 0 (iN (p + 1)) (zm_ui h 11 3 (iN 0))) (fLa_valueFor_c10 (d + 2) b 1 (iN (p + 1)) (zm_ui h 11 3 (iN 0))) := by
  rw [fLa_valueFor_c10_eq, e2, cF (by simp (disch := omega) only [iN_add, iN_addl, iN_addr, iN_mul, iN_mull, iN_mulr, iN_sub, iN_subl, iN_subr, iN_c, iN_lt, iN_ltl, iN_ltr, iN_le, iN_lel, iN_ler, iN_eq, iN_eql, iN_eqr]; omega), gR_12 (by omega), iN_c (by omega), ea, Bool.cond_true, cN, cF (by decide), cN, cF (by decide), cN, cT (by decide), pop_s d (n := 0) (by omega) e3, bI, iN_addr]
theorem one_st {f : Nat → Int32} {st : List Int32} (h1 : st.length = 1) (h2 : stk f st) : f 0 = st.headD 0 := by
  match st, h1, h2 with
  | [v], _, h2 => exact h2.1
theorem linesC (d : Nat) {g : Nat → Int32} {b : Int32} {z : Nat} (hz : z ≤ 128) : ∀ (ls : List (List Nat × List Nat)) (p : Nat) (h : zm_H), (∀ x ∈ ls, lok x) → p + (lcl ls).length = z → h.1 11 3 = iN 0 → h.1 11 2 = iN z → atL (h.1 12) p (lcl ls) → cE g h →
    ∃ K v, fLa_valueFor_c10 (d + 2) b 1 (iN p) h = some (some (.int v), K) ∧ zm_max 0 (zm_min 60 v) = lval g b ls ∧ frC h K := by
  intro ls
  induction ls with
  | nil =>
    intro p h _ hp e3 e2 _ _
    refine ⟨h, 0, ?_, rfl, frC_r h⟩
    obtain rfl : p = z := by simpa [lcl] using hp
    rw [fLa_valueFor_c10_eq, e2, cT (by simp (disch := omega) only [iN_add, iN_addl, iN_addr, iN_mul, iN_mull, iN_mulr, iN_sub, iN_subl, iN_subr, iN_c, iN_lt, iN_ltl, iN_ltr, iN_le, iN_lel, iN_ler, iN_eq, iN_eql, iN_eqr]; omega)]
  | cons x ls ih =>
    intro p h hx hp e3 e2 ea rE
    obtain ⟨a, s⟩ := x
    obtain ⟨ok1, ok2, ok3, ok4⟩ := hx (a, s) (List.mem_cons_self ..)
    have hls : ∀ x ∈ ls, lok x := fun y hy => hx y (List.mem_cons_of_mem _ hy)
    -- the say from a place on
    have say : ∀ (q : Nat) (k : zm_H), q + s.length + 1 + (lcl ls).length = z → k.1 11 3 = iN 0 → k.1 11 2 = iN z → atL (k.1 12) q (s.map cc ++ (-59 :: lcl ls)) → cE g k →
        ∃ K, fLa_valueFor_c10 (d + 2) b 1 (iN q) k = some (some (.int ((evs g b [] s).headD 0)), K) ∧ frC k K := by
      intro q k hq e3 e2 ea rE
      rw [atL_app, List.length_map] at ea
      obtain ⟨K, k1, k2, k3, k4, k5⟩ := frgC d (g := g) (b := b) (m := 1) hz s q [] k (by simp) ok2 ok4 (by omega) e3 e2 ea.1 rE trivial
      refine ⟨zm_ui K 11 3 (iN 0), ?_, frC_t k2 (frC_11 _ _)⟩
      rw [k1, endC d hz (by rw [k2.2.1 2 (by omega)]; exact e2) k3 (by omega) (by rw [k2.1 12 (by omega) (by omega)]; exact ea.2.1), one_st k5 k4]
    by_cases ha : a = []
    · subst ha
      have hl : lcl (([], s) :: ls) = s.map cc ++ (-59 :: lcl ls) := by simp [lcl]
      rw [hl] at hp ea
      simp only [List.length_append, List.length_map, List.length_cons] at hp
      obtain ⟨K, k1, k2⟩ := say p h (by omega) e3 e2 ea rE
      exact ⟨K, _, k1, by rw [lval, if_neg (by simp)], k2⟩
    · have hl : lcl ((a, s) :: ls) = a.map cc ++ (-63 :: (s.map cc ++ (-59 :: lcl ls))) := by simp [lcl, ha]
      rw [hl] at hp ea
      simp only [List.length_append, List.length_map, List.length_cons] at hp
      rw [atL_app, List.length_map] at ea
      have ok1 := ok1.resolve_left ha
      obtain ⟨K, k1, k2, k3, k4, k5⟩ := frgC d (g := g) (b := b) (m := 1) hz a p [] h (by simp) ok1 ok3 (by omega) e3 e2 ea.1 rE trivial
      have e2' : K.1 11 2 = iN z := by rw [k2.2.1 2 (by omega)]; exact e2
      have hk := askC d (b := b) hz e2' k3 (by omega : p + a.length < z) (by rw [k2.1 12 (by omega) (by omega)]; exact ea.2.1)
      rw [one_st k5 k4] at hk
      have k12 : (zm_ui K 11 3 (iN 0)).1 12 = h.1 12 := by rw [ui_f (by omega), k2.1 12 (by omega) (by omega)]
      have k2' : frC h (zm_ui K 11 3 (iN 0)) := frC_t k2 (frC_11 _ _)
      by_cases hv : (evs g b [] a).headD 0 = 0
      · rw [cT hv] at hk
        have ea2 := ea.2.2
        rw [atL_app, List.length_map] at ea2
        have sk := skipC d (b := b) hz (h := zm_ui K 11 3 (iN 0)) (by rw [ui_k (by omega)]; exact e2') s (p + a.length + 1) ok4 (by omega) (by rw [k12]; exact ea2.1)
        have e0 := endC0 d (b := b) hz (h := zm_ui K 11 3 (iN 0)) (p := p + a.length + 1 + s.length) (by rw [ui_k (by omega)]; exact e2') (by omega) (by rw [k12]; exact ea2.2.1)
        obtain ⟨M, v, m1, m2, m3⟩ := ih (p + a.length + 1 + s.length + 1) (zm_ui K 11 3 (iN 0)) hls (by omega) (ui_s _ _ _ _) (by rw [ui_k (by omega)]; exact e2') (by rw [k12]; exact ea2.2.2) (cE_f k2' rE)
        refine ⟨M, v, ?_, ?_, frC_t k2' m3⟩
        · rw [k1, hk, sk, e0, m1]
        · rw [lval, if_pos ⟨ha, hv⟩, m2]
      · rw [cF hv] at hk
        obtain ⟨M, m1, m2⟩ := say (p + a.length + 1) (zm_ui K 11 3 (iN 0)) (by omega) (ui_s _ _ _ _) (by rw [ui_k (by omega)]; exact e2') (by rw [k12]; exact ea.2.2) (cE_f k2' rE)
        refine ⟨M, (evs g b [] s).headD 0, ?_, ?_, frC_t k2' m2⟩
        · rw [k1, hk, m1]
        · rw [lval, if_neg (fun e => hv e.2)]
def ltot : List (List Nat × List Nat) → Nat
  | [] => 0
  | (a, s) :: ls => a.length + s.length + ltot ls
theorem ltot_le (ls : List (List Nat × List Nat)) : ltot ls ≤ (lcl ls).length := by
  induction ls with
  | nil => exact Nat.le_refl _
  | cons x ls ih =>
    obtain ⟨a, s⟩ := x
    by_cases ha : a = []
    · subst ha; simp [ltot, lcl]; omega
    · simp [ltot, lcl, ha]; omega
theorem workedM (d : Nat) {g : Nat → Int32} {b : Int32} {t k : Nat} (ht : t < 8) (hk : k < 5) {l : List Nat} {p : Nat} {h : zm_H} (hp : p + l.length ≤ 200) (hd : dep 36 0 l = some 1) (hc : ∀ c ∈ l, c < 20000) (ea : atL (h.1 60) p (l.map iN)) (rE : mE g t k h) :
    ∃ K, fM_worked (d + 2) (iN p) (iN (p + l.length)) (iN t) (iN k) b h = some (some (.int ((evs g b [] l).headD 0)), K) ∧ frM h K := by
  obtain ⟨K, k1, k2⟩ := frgM d (g := g) (b := b) ht hk hp l p [] h (by simp) hd hc rfl ea rE trivial
  refine ⟨K, ?_, k2⟩
  rw [fM_worked_eq]; exact k1
theorem linesM (d : Nat) {g : Nat → Int32} {b : Int32} {t k n : Nat} (ht : t < 8) (hk : k < 5) (hn : n ≤ 60) : ∀ (ls : List (List Nat × List Nat)) (i p : Nat) (h : zm_H), (∀ x ∈ ls, lok x) → i + ls.length = n → p + ltot ls ≤ 200 → h.1 45 18 = iN n → lml h i p ls → mE g t k h →
    ∃ K, fM_cloth_c52 (d + 4) (iN t) (iN k) b (iN i) h = some (some (.int (lval g b ls)), K) ∧ frM h K := by
  intro ls
  induction ls with
  | nil =>
    intro i p h _ hi _ e _ _
    obtain rfl : i = n := by simpa using hi
    refine ⟨h, ?_, frM_r h⟩
    rw [fM_cloth_c52_eq, e, cT (by simp (disch := omega) only [iN_add, iN_addl, iN_addr, iN_mul, iN_mull, iN_mulr, iN_sub, iN_subl, iN_subr, iN_c, iN_lt, iN_ltl, iN_ltr, iN_le, iN_lel, iN_ler, iN_eq, iN_eql, iN_eqr]; omega)]; rfl
  | cons x ls ih =>
    intro i p h hx hi hp e rl rE
    obtain ⟨a, s⟩ := x
    obtain ⟨ok1, ok2, ok3, ok4⟩ := hx (a, s) (List.mem_cons_self ..)
    obtain ⟨r1, r2, r3, r4, r5, r6⟩ := rl
    rw [List.length_cons] at hi
    rw [ltot] at hp
    rw [fM_cloth_c52_eq, e, cF (by simp (disch := omega) only [iN_add, iN_addl, iN_addr, iN_mul, iN_mull, iN_mulr, iN_sub, iN_subl, iN_subr, iN_c, iN_lt, iN_ltl, iN_ltr, iN_le, iN_lel, iN_ler, iN_eq, iN_eql, iN_eqr]; omega), gR_58 (by omega), gR_57 (by omega), iN_c (by omega), r1, r2, Bool.cond_true, Bool.cond_true, gR_59 (by omega), r3]
    simp only [Bool.cond_true]
    by_cases ha : a = []
    · subst ha
      rw [cT (by simp (disch := omega) only [iN_add, iN_addl, iN_addr, iN_mul, iN_mull, iN_mulr, iN_sub, iN_subl, iN_subr, iN_c, iN_lt, iN_ltl, iN_ltr, iN_le, iN_lel, iN_ler, iN_eq, iN_eql, iN_eqr]; simp)]
      obtain ⟨K, k1, k2⟩ := workedM (d + 1) (b := b) ht hk (l := s) (p := p) (h := h) (by omega) ok2 ok4 r5 rE
      refine ⟨K, ?_, k2⟩
      have : iN (p + ([] : List Nat).length + s.length) = iN (p + s.length) := rfl
      rw [this, show iN (p + ([] : List Nat).length) = iN p from rfl, k1, lval, if_neg (by simp)]; rfl
    · have hal : 0 < a.length := List.length_pos_iff.mpr ha
      rw [cF (by simp (disch := omega) only [iN_add, iN_addl, iN_addr, iN_mul, iN_mull, iN_mulr, iN_sub, iN_subl, iN_subr, iN_c, iN_lt, iN_ltl, iN_ltr, iN_le, iN_lel, iN_ler, iN_eq, iN_eql, iN_eqr]; omega)]
      obtain ⟨K, k1, k2⟩ := workedM (d + 1) (b := b) ht hk (l := a) (p := p) (h := h) (by omega) (ok1.resolve_left ha) ok3 r4 rE
      rw [k1, bI, cN, lval]
      by_cases hv : (evs g b [] a).headD 0 = 0
      · obtain ⟨M, m1, m2⟩ := ih (i + 1) (p + a.length + s.length) K (fun y hy => hx y (List.mem_cons_of_mem _ hy)) (by omega) (by omega) (by rw [k2.1 45 (by omega)]; exact e) (lml_d (k2.1 57 (by omega)) (k2.1 58 (by omega)) (k2.1 59 (by omega)) (k2.1 60 (by omega)) ls _ _ r6) (mE_f k2 rE)
        refine ⟨M, ?_, frM_t k2 m2⟩
        rw [cT hv, iN_addr, m1, if_pos ⟨ha, hv⟩]
      · obtain ⟨M, m1, m2⟩ := workedM (d + 1) (b := b) ht hk (l := s) (p := p + a.length) (h := K) (by omega) ok2 ok4 (by rw [k2.1 60 (by omega)]; exact r5) (mE_f k2 rE)
        refine ⟨M, ?_, frM_t k2 m2⟩
        rw [cF hv, gR_58 (by omega), gR_59 (by omega), k2.1 58 (by omega), k2.1 59 (by omega), r2, r3, m1, if_neg (fun e => hv e.2)]; rfl
/-- THE LAW that is told -/
def lwC (lw : Option (List (List Nat × List Nat))) (h : zm_H) : Prop := match lw with
  | none => h.1 11 2 = 0
  | some ls => ls ≠ [] ∧ (lcl ls).length ≤ 128 ∧ h.1 11 2 = iN (lcl ls).length ∧ atL (h.1 12) 0 (lcl ls) ∧ ∀ x ∈ ls, lok x
def lwM (lw : Option (List (List Nat × List Nat))) (h : zm_H) : Prop := match lw with
  | none => h.1 45 17 = 0
  | some ls => h.1 45 17 = 1 ∧ ls.length ≤ 60 ∧ ltot ls ≤ 200 ∧ h.1 45 18 = iN ls.length ∧ lml h 0 0 ls ∧ ∀ x ∈ ls, lok x
def clo (lw : Option (List (List Nat × List Nat))) (g : Nat → Int32) (b : Int32) : Int32 := match lw with
  | none => zm_max 0 (g 2 * g 6 + g 2 - g 3 - g 5 / 10)
  | some ls => lval g b ls
theorem rL_lw {h : zm_H} (r : rL h) : ∃ lw, lwC lw h ∧ lwM lw h := by
  rcases r with ⟨r0, r1⟩ | ⟨r0, ls, r1, r2, r3, r4, r5, r6, r7, r8⟩
  · exact ⟨none, r1, r0⟩
  · exact ⟨some ls, ⟨r1, r3, r4, r5, r8⟩, r0, r2, by have := ltot_le ls; omega, r6, r7, r8⟩
theorem lwC_f {lw : Option (List (List Nat × List Nat))} {h K : zm_H} (e : frC h K) (r : lwC lw h) : lwC lw K := by
  cases lw with
  | none => exact (e.2.1 2 (by omega)).trans r
  | some ls => exact ⟨r.1, r.2.1, (e.2.1 2 (by omega)).trans r.2.2.1, by rw [e.1 12 (by omega) (by omega)]; exact r.2.2.2.1, r.2.2.2.2⟩
theorem lwM_f {lw : Option (List (List Nat × List Nat))} {h K : zm_H} (e : frM h K) (r : lwM lw h) : lwM lw K := by
  have e45 := e.1 45 (by omega)
  cases lw with
  | none => unfold lwM at *; rw [e45]; exact r
  | some ls => exact ⟨by rw [e45]; exact r.1, r.2.1, r.2.2.1, by rw [e45]; exact r.2.2.2.1, lml_d (e.1 57 (by omega)) (e.1 58 (by omega)) (e.1 59 (by omega)) (e.1 60 (by omega)) ls _ _ r.2.2.2.2.1, r.2.2.2.2.2⟩
theorem clothC (d : Nat) {lw : Option (List (List Nat × List Nat))} {g : Nat → Int32} {h : zm_H} (rl : lwC lw h) (rE : cE g h) (b : Int32) : ∃ K, fHa_cloth (d + 4) b h = some (some (.int (clo lw g b)), K) ∧ frC h K := by
  cases lw with
  | none =>
    have rl : h.1 11 2 = 0 := rl
    refine ⟨h, ?_, frC_r h⟩
    rw [fHa_cloth_eq, fLa_isTold_eq, rl, cT (by decide), bI, cT (by decide), rE 2 (by omega) (by omega), rE 3 (by omega) (by omega), rE 5 (by omega) (by omega), rE 6 (by omega) (by omega)]; rfl
  | some ls =>
    obtain ⟨l1, l2, l3, l4, l5⟩ := rl
    have hl : 0 < (lcl ls).length := by
      cases ls with
      | nil => exact absurd rfl l1
      | cons x ls => obtain ⟨a, s⟩ := x; simp [lcl]; omega
    obtain ⟨K, v, k1, k2, k3⟩ := linesC (d + 1) (g := g) (b := b) l2 ls 0 (zm_ui h 11 3 0) l5 (by omega) (by rw [ui_s]; rfl) (by rw [ui_k (by omega)]; exact l3) (by rw [ui_f (by omega)]; exact l4) (cE_f (frC_11 _ _) rE)
    refine ⟨K, ?_, frC_t (frC_11 _ _) k3⟩
    rw [fHa_cloth_eq, fLa_isTold_eq, l3, cF (by simp (disch := omega) only [iN_add, iN_addl, iN_addr, iN_mul, iN_mull, iN_mulr, iN_sub, iN_subl, iN_subr, iN_c, iN_lt, iN_ltl, iN_ltr, iN_le, iN_lel, iN_ler, iN_eq, iN_eql, iN_eqr]; omega), bI, cF (by decide), fLa_valueFor_eq]
    rw [show (0 : Int32) = iN 0 from rfl] at k1 ⊢
    rw [k1, bI]
    rw [show clo (some ls) g b = lval g b ls from rfl, ← k2]; rfl
theorem clothM (d : Nat) {lw : Option (List (List Nat × List Nat))} {g : Nat → Int32} {t k : Nat} (ht : t < 8) (hk : k < 5) {h : zm_H} (rl : lwM lw h) (rE : mE g t k h) (b : Int32) : ∃ K, fM_cloth (d + 5) (iN t) (iN k) b h = some (some (.int (clo lw g b)), K) ∧ frM h K := by
  cases lw with
  | none =>
    have rl : h.1 45 17 = 0 := rl
    obtain ⟨g1, g2, g3, g4, g5, g6, g7, g8, g9⟩ := rE
    refine ⟨h, ?_, frM_r h⟩
    rw [fM_cloth_eq, rl, cN, cT (by decide), gR_47 ht, gR_52 hk, gR_48 ht, gR_50 ht, iN_c (by omega), iN_c (by omega), g2, g6, g3, g5]; rfl
  | some ls =>
    obtain ⟨l1, l2, l3, l4, l5, l6⟩ := rl
    obtain ⟨K, k1, k2⟩ := linesM (d + 1) (b := b) ht hk l2 ls 0 0 h l6 (by omega) (by omega) l4 l5 rE
    refine ⟨K, ?_, k2⟩
    rw [fM_cloth_eq, l1, cN, cF (by decide)]; exact k1
theorem max0_ge (x : Int32) : 0 ≤ zm_max 0 x := by unfold zm_max; grind
theorem lval_ge (g : Nat → Int32) (b : Int32) (ls : List (List Nat × List Nat)) : 0 ≤ lval g b ls := by
  induction ls with
  | nil => exact (by decide : (0 : Int32) ≤ 0)
  | cons x ls ih =>
    obtain ⟨a, s⟩ := x
    rw [lval]; split
    · exact ih
    · exact max0_ge _
theorem clo_ge (lw : Option (List (List Nat × List Nat))) (g : Nat → Int32) (b : Int32) : 0 ≤ clo lw g b := by
  cases lw with
  | none => exact max0_ge _
  | some ls => exact lval_ge _ _ _
