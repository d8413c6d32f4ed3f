/-! the script, the cases of the law -/
theorem frz (l : Launch) {d mi pc : Nat} {Lc : zm_L} {S : List Value} {h h' : zm_H} {r : Option Value} (hmi : mi < 240) (hr : zm_lim d mi pc Lc S h = some (r, h')) {a : Nat} (ha : 1000 ≤ a) : h'.1 a = h.1 a := funext fun n => (zw_lim_sound (l := l) (ad := fun n => n) (cA := 0) (cJ := 0) (cS := 0) (D := (fun _ => 0, fun _ _ => 0)) (A := fun _ => True) (sv := h.1) hmi hr (show zw_F h.1 h from fun _ _ _ => rfl)).1 a n ha
def frF (e : zm_H → zm_R) : Prop := ∀ h r h', e h = some (r, h') → ∀ a, 1000 ≤ a → h'.1 a = h.1 a
def scr (L : Nat) (xs : Nat → Int32) (h : zm_H) : Prop := h.1 2000 = xs ∧ h.1 2001 0 = iN L
theorem scr_RR {L : Nat} {xs : Nat → Int32} {h : zm_H} (r : RR L xs h) : scr L xs h := by
  obtain ⟨_, _, _, _, _, _, _, W, _⟩ := r
  exact ⟨W.1, W.2.1⟩
theorem scr_f {L : Nat} {xs : Nat → Int32} {h h' : zm_H} (s : scr L xs h) (f : ∀ a, 1000 ≤ a → h'.1 a = h.1 a) : scr L xs h' := ⟨(f 2000 (by omega)).trans s.1, by rw [f 2001 (by omega)]; exact s.2⟩
theorem scr_in {L : Nat} {xs : Nat → Int32} {h : zm_H} (s : scr L xs h) (hL : L ≤ 3072) {j : Nat} (hj : j < L) : zm_inR h 2000 (iN j) = true := by
  have e1 : (zm_kd 2000).1 = 5 := by decide +kernel
  have e2 : zm_lenOf h 2000 = L := by
    rw [zm_lenOf, e1, s.2, iN_c (by omega)]
    (try rfl)
  rw [zm_inR, e2, e1, at_iN hj (by omega)]
  (try rfl)
theorem scr_v {L : Nat} {xs : Nat → Int32} {h : zm_H} (s : scr L xs h) {j : Nat} (hj : j < 2147483648) : h.1 2000 (iN j).toNatClampNeg = xs j := by rw [s.1, iN_c hj]
theorem lg_self (v : Int64) : lg_cmp v v = 0 := (lg_cmp_eq v v).mpr rfl
theorem case0 {L : Nat} {xs : Nat → Int32} {h : zm_H} {i : Nat} {e m : zm_H → zm_R} {K : zm_H → zm_R} (hL : L ≤ 3072) (hi : i + 6 ≤ L) (r : RR L xs h) (k : okC L xs (e ) (m ) h) (f : frF (e )) : ∃ h2, RR L xs h2 ∧ zb_I (e  h) (fun v2 h1 => zb_I (m  h1) (fun v4 h3 => cond (decide (v2 = v4)) (K h3) (some (some (.int 0), h3)))) = K h2 := by
  obtain ⟨v, h1, h2, j1, j2, j3⟩ := k
  have s := scr_RR r
  have s1 := scr_f s (f _ _ _ j1)
  refine ⟨h2, j3, ?_⟩
  rw [j1, bI, j2, bI, cT rfl]
theorem case1 {L : Nat} {xs : Nat → Int32} {h : zm_H} {i : Nat} {e m : Int32 → zm_H → zm_R} {K : zm_H → zm_R} (hL : L ≤ 3072) (hi : i + 6 ≤ L) (r : RR L xs h) (k : ∀ a, okC L xs (e a) (m a) h) (f : ∀ a, frF (e a)) : ∃ h2, RR L xs h2 ∧ cond (zm_inR h 2000 (iN i + (1 : Int32))) (zb_I (e (h.1 2000 (iN i + (1 : Int32)).toNatClampNeg) h) (fun v2 h1 => cond (zm_inR h1 2000 (iN i + (1 : Int32))) (zb_I (m (h1.1 2000 (iN i + (1 : Int32)).toNatClampNeg) h1) (fun v4 h3 => cond (decide (v2 = v4)) (K h3) (some (some (.int 0), h3)))) none)) none = K h2 := by
  obtain ⟨v, h1, h2, j1, j2, j3⟩ := k (xs (i + 1))
  have s := scr_RR r
  have s1 := scr_f s (f _ _ _ _ j1)
  refine ⟨h2, j3, ?_⟩
  rw [iN_addr, scr_in s hL (by omega), scr_v s (by omega), Bool.cond_true, j1, bI, scr_in s1 hL (by omega), scr_v s1 (by omega), Bool.cond_true, j2, bI, cT rfl]
theorem case2 {L : Nat} {xs : Nat → Int32} {h : zm_H} {i : Nat} {e m : Int32 → Int32 → zm_H → zm_R} {K : zm_H → zm_R} (hL : L ≤ 3072) (hi : i + 6 ≤ L) (r : RR L xs h) (k : ∀ a b, okC L xs (e a b) (m a b) h) (f : ∀ a b, frF (e a b)) : ∃ h2, RR L xs h2 ∧ cond (zm_inR h 2000 (iN i + (1 : Int32))) (cond (zm_inR h 2000 (iN i + (2 : Int32))) (zb_I (e (h.1 2000 (iN i + (1 : Int32)).toNatClampNeg) (h.1 2000 (iN i + (2 : Int32)).toNatClampNeg) h) (fun v2 h1 => cond (zm_inR h1 2000 (iN i + (1 : Int32))) (cond (zm_inR h1 2000 (iN i + (2 : Int32))) (zb_I (m (h1.1 2000 (iN i + (1 : Int32)).toNatClampNeg) (h1.1 2000 (iN i + (2 : Int32)).toNatClampNeg) h1) (fun v4 h3 => cond (decide (v2 = v4)) (K h3) (some (some (.int 0), h3)))) none) none)) none) none = K h2 := by
  obtain ⟨v, h1, h2, j1, j2, j3⟩ := k (xs (i + 1)) (xs (i + 2))
  have s := scr_RR r
  have s1 := scr_f s (f _ _ _ _ _ j1)
  refine ⟨h2, j3, ?_⟩
  rw [iN_addr, iN_addr, scr_in s hL (by omega), scr_in s hL (by omega), scr_v s (by omega), scr_v s (by omega), Bool.cond_true, Bool.cond_true, j1, bI, scr_in s1 hL (by omega), scr_in s1 hL (by omega), scr_v s1 (by omega), scr_v s1 (by omega), Bool.cond_true, Bool.cond_true, j2, bI, cT rfl]
theorem case3 {L : Nat} {xs : Nat → Int32} {h : zm_H} {i : Nat} {e m : Int32 → Int32 → Int32 → zm_H → zm_R} {K : zm_H → zm_R} (hL : L ≤ 3072) (hi : i + 6 ≤ L) (r : RR L xs h) (k : ∀ a b c, okC L xs (e a b c) (m a b c) h) (f : ∀ a b c, frF (e a b c)) : ∃ h2, RR L xs h2 ∧ cond (zm_inR h 2000 (iN i + (1 : Int32))) (cond (zm_inR h 2000 (iN i + (2 : Int32))) (cond (zm_inR h 2000 (iN i + (3 : Int32))) (zb_I (e (h.1 2000 (iN i + (1 : Int32)).toNatClampNeg) (h.1 2000 (iN i + (2 : Int32)).toNatClampNeg) (h.1 2000 (iN i + (3 : Int32)).toNatClampNeg) h) (fun v2 h1 => cond (zm_inR h1 2000 (iN i + (1 : Int32))) (cond (zm_inR h1 2000 (iN i + (2 : Int32))) (cond (zm_inR h1 2000 (iN i + (3 : Int32))) (zb_I (m (h1.1 2000 (iN i + (1 : Int32)).toNatClampNeg) (h1.1 2000 (iN i + (2 : Int32)).toNatClampNeg) (h1.1 2000 (iN i + (3 : Int32)).toNatClampNeg) h1) (fun v4 h3 => cond (decide (v2 = v4)) (K h3) (some (some (.int 0), h3)))) none) none) none)) none) none) none = K h2 := by
  obtain ⟨v, h1, h2, j1, j2, j3⟩ := k (xs (i + 1)) (xs (i + 2)) (xs (i + 3))
  have s := scr_RR r
  have s1 := scr_f s (f _ _ _ _ _ _ j1)
  refine ⟨h2, j3, ?_⟩
  rw [iN_addr, iN_addr, iN_addr, scr_in s hL (by omega), scr_in s hL (by omega), scr_in s hL (by omega), scr_v s (by omega), scr_v s (by omega), scr_v s (by omega), Bool.cond_true, Bool.cond_true, Bool.cond_true, j1, bI, scr_in s1 hL (by omega), scr_in s1 hL (by omega), scr_in s1 hL (by omega), scr_v s1 (by omega), scr_v s1 (by omega), scr_v s1 (by omega), Bool.cond_true, Bool.cond_true, Bool.cond_true, j2, bI, cT rfl]
theorem case4 {L : Nat} {xs : Nat → Int32} {h : zm_H} {i : Nat} {e m : Int32 → Int32 → Int32 → Int32 → zm_H → zm_R} {K : zm_H → zm_R} (hL : L ≤ 3072) (hi : i + 6 ≤ L) (r : RR L xs h) (k : ∀ a b c s, okC L xs (e a b c s) (m a b c s) h) (f : ∀ a b c s, frF (e a b c s)) : ∃ h2, RR L xs h2 ∧ cond (zm_inR h 2000 (iN i + (1 : Int32))) (cond (zm_inR h 2000 (iN i + (2 : Int32))) (cond (zm_inR h 2000 (iN i + (3 : Int32))) (cond (zm_inR h 2000 (iN i + (4 : Int32))) (zb_I (e (h.1 2000 (iN i + (1 : Int32)).toNatClampNeg) (h.1 2000 (iN i + (2 : Int32)).toNatClampNeg) (h.1 2000 (iN i + (3 : Int32)).toNatClampNeg) (h.1 2000 (iN i + (4 : Int32)).toNatClampNeg) h) (fun v2 h1 => cond (zm_inR h1 2000 (iN i + (1 : Int32))) (cond (zm_inR h1 2000 (iN i + (2 : Int32))) (cond (zm_inR h1 2000 (iN i + (3 : Int32))) (cond (zm_inR h1 2000 (iN i + (4 : Int32))) (zb_I (m (h1.1 2000 (iN i + (1 : Int32)).toNatClampNeg) (h1.1 2000 (iN i + (2 : Int32)).toNatClampNeg) (h1.1 2000 (iN i + (3 : Int32)).toNatClampNeg) (h1.1 2000 (iN i + (4 : Int32)).toNatClampNeg) h1) (fun v4 h3 => cond (decide (v2 = v4)) (K h3) (some (some (.int 0), h3)))) none) none) none) none)) none) none) none) none = K h2 := by
  obtain ⟨v, h1, h2, j1, j2, j3⟩ := k (xs (i + 1)) (xs (i + 2)) (xs (i + 3)) (xs (i + 4))
  have s := scr_RR r
  have s1 := scr_f s (f _ _ _ _ _ _ _ j1)
  refine ⟨h2, j3, ?_⟩
  rw [iN_addr, iN_addr, iN_addr, iN_addr, scr_in s hL (by omega), scr_in s hL (by omega), scr_in s hL (by omega), scr_in s hL (by omega), scr_v s (by omega), scr_v s (by omega), scr_v s (by omega), scr_v s (by omega), Bool.cond_true, Bool.cond_true, Bool.cond_true, Bool.cond_true, j1, bI, scr_in s1 hL (by omega), scr_in s1 hL (by omega), scr_in s1 hL (by omega), scr_in s1 hL (by omega), scr_v s1 (by omega), scr_v s1 (by omega), scr_v s1 (by omega), scr_v s1 (by omega), Bool.cond_true, Bool.cond_true, Bool.cond_true, Bool.cond_true, j2, bI, cT rfl]
theorem case5 {L : Nat} {xs : Nat → Int32} {h : zm_H} {i : Nat} {e m : Int32 → Int32 → Int32 → Int32 → Int32 → zm_H → zm_R} {K : zm_H → zm_R} (hL : L ≤ 3072) (hi : i + 6 ≤ L) (r : RR L xs h) (k : ∀ a b c s t, okC L xs (e a b c s t) (m a b c s t) h) (f : ∀ a b c s t, frF (e a b c s t)) : ∃ h2, RR L xs h2 ∧ cond (zm_inR h 2000 (iN i + (1 : Int32))) (cond (zm_inR h 2000 (iN i + (2 : Int32))) (cond (zm_inR h 2000 (iN i + (3 : Int32))) (cond (zm_inR h 2000 (iN i + (4 : Int32))) (cond (zm_inR h 2000 (iN i + (5 : Int32))) (zb_I (e (h.1 2000 (iN i + (1 : Int32)).toNatClampNeg) (h.1 2000 (iN i + (2 : Int32)).toNatClampNeg) (h.1 2000 (iN i + (3 : Int32)).toNatClampNeg) (h.1 2000 (iN i + (4 : Int32)).toNatClampNeg) (h.1 2000 (iN i + (5 : Int32)).toNatClampNeg) h) (fun v2 h1 => cond (zm_inR h1 2000 (iN i + (1 : Int32))) (cond (zm_inR h1 2000 (iN i + (2 : Int32))) (cond (zm_inR h1 2000 (iN i + (3 : Int32))) (cond (zm_inR h1 2000 (iN i + (4 : Int32))) (cond (zm_inR h1 2000 (iN i + (5 : Int32))) (zb_I (m (h1.1 2000 (iN i + (1 : Int32)).toNatClampNeg) (h1.1 2000 (iN i + (2 : Int32)).toNatClampNeg) (h1.1 2000 (iN i + (3 : Int32)).toNatClampNeg) (h1.1 2000 (iN i + (4 : Int32)).toNatClampNeg) (h1.1 2000 (iN i + (5 : Int32)).toNatClampNeg) h1) (fun v4 h3 => cond (decide (v2 = v4)) (K h3) (some (some (.int 0), h3)))) none) none) none) none) none)) none) none) none) none) none = K h2 := by
  obtain ⟨v, h1, h2, j1, j2, j3⟩ := k (xs (i + 1)) (xs (i + 2)) (xs (i + 3)) (xs (i + 4)) (xs (i + 5))
  have s := scr_RR r
  have s1 := scr_f s (f _ _ _ _ _ _ _ _ j1)
  refine ⟨h2, j3, ?_⟩
  rw [iN_addr, iN_addr, iN_addr, iN_addr, iN_addr, scr_in s hL (by omega), scr_in s hL (by omega), scr_in s hL (by omega), scr_in s hL (by omega), scr_in s hL (by omega), scr_v s (by omega), scr_v s (by omega), scr_v s (by omega), scr_v s (by omega), scr_v s (by omega), Bool.cond_true, Bool.cond_true, Bool.cond_true, Bool.cond_true, Bool.cond_true, j1, bI, scr_in s1 hL (by omega), scr_in s1 hL (by omega), scr_in s1 hL (by omega), scr_in s1 hL (by omega), scr_in s1 hL (by omega), scr_v s1 (by omega), scr_v s1 (by omega), scr_v s1 (by omega), scr_v s1 (by omega), scr_v s1 (by omega), Bool.cond_true, Bool.cond_true, Bool.cond_true, Bool.cond_true, Bool.cond_true, j2, bI, cT rfl]
theorem case2J {L : Nat} {xs : Nat → Int32} {h : zm_H} {i : Nat} {e m : Int32 → Int32 → zm_H → zm_R} {K : zm_H → zm_R} (hL : L ≤ 3072) (hi : i + 6 ≤ L) (r : RR L xs h) (k : ∀ a b, okJ L xs (e a b) (m a b) h) (f : ∀ a b, frF (e a b)) : ∃ h2, RR L xs h2 ∧ cond (zm_inR h 2000 (iN i + (1 : Int32))) (cond (zm_inR h 2000 (iN i + (2 : Int32))) (zb_J (e (h.1 2000 (iN i + (1 : Int32)).toNatClampNeg) (h.1 2000 (iN i + (2 : Int32)).toNatClampNeg) h) (fun v2 h1 => cond (zm_inR h1 2000 (iN i + (1 : Int32))) (cond (zm_inR h1 2000 (iN i + (2 : Int32))) (zb_J (m (h1.1 2000 (iN i + (1 : Int32)).toNatClampNeg) (h1.1 2000 (iN i + (2 : Int32)).toNatClampNeg) h1) (fun v4 h3 => cond (decide ((lg_cmp v2 v4) = 0)) (K h3) (some (some (.int 0), h3)))) none) none)) none) none = K h2 := by
  obtain ⟨v, h1, h2, j1, j2, j3⟩ := k (xs (i + 1)) (xs (i + 2))
  have s := scr_RR r
  have s1 := scr_f s (f _ _ _ _ _ j1)
  refine ⟨h2, j3, ?_⟩
  rw [iN_addr, iN_addr, scr_in s hL (by omega), scr_in s hL (by omega), scr_v s (by omega), scr_v s (by omega), Bool.cond_true, Bool.cond_true, j1, bJ, scr_in s1 hL (by omega), scr_in s1 hL (by omega), scr_v s1 (by omega), scr_v s1 (by omega), Bool.cond_true, Bool.cond_true, j2, bJ, lg_self, cT rfl]
theorem cs_tie (l : Launch) (d : Nat) {L : Nat} {xs : Nat → Int32} {h : zm_H} {i : Nat} (hL : L ≤ 3072) (hi : i + 6 ≤ L) (r : RR L xs h) : ∃ h2, RR L xs h2 ∧ fL_law_c224 (d + 99 + 1) (iN i) h = fL_law_c1737 (d + 99 + 1) (iN i) h2 := by
  obtain ⟨h2, r2, e2⟩ := case2 (e := fE_tie (d + 99)) (m := fM_tie (d + 99)) (K := fun h => fL_law_c1737 (d + 99 + 1) (iN i) h) hL hi r (fun a b => K_tie (d + 94) r a b) (fun a b h r h' j c hc => frz l (by decide) j hc)
  exact ⟨h2, r2, (fL_law_c224_eq (d + 99) (iN i) h).trans e2⟩
theorem cs_ties (l : Launch) (d : Nat) {L : Nat} {xs : Nat → Int32} {h : zm_H} {i : Nat} (hL : L ≤ 3072) (hi : i + 6 ≤ L) (r : RR L xs h) : ∃ h2, RR L xs h2 ∧ fL_law_c257 (d + 99 + 1) (iN i) h = fL_law_c1737 (d + 99 + 1) (iN i) h2 := by
  obtain ⟨h2, r2, e2⟩ := case3 (e := fE_ties (d + 99)) (m := fM_ties (d + 99)) (K := fun h => fL_law_c1737 (d + 99 + 1) (iN i) h) hL hi r (fun a b c => K_ties (d + 93) r a b c) (fun a b c h r h' j c hc => frz l (by decide) j hc)
  exact ⟨h2, r2, (fL_law_c257_eq (d + 99) (iN i) h).trans e2⟩
theorem cs_tier (l : Launch) (d : Nat) {L : Nat} {xs : Nat → Int32} {h : zm_H} {i : Nat} (hL : L ≤ 3072) (hi : i + 6 ≤ L) (r : RR L xs h) : ∃ h2, RR L xs h2 ∧ fL_law_c300 (d + 99 + 1) (iN i) h = fL_law_c1737 (d + 99 + 1) (iN i) h2 := by
  obtain ⟨h2, r2, e2⟩ := case2 (e := fE_tier (d + 99)) (m := fM_tier (d + 99)) (K := fun h => fL_law_c1737 (d + 99 + 1) (iN i) h) hL hi r (fun a b => K_tier (d + 94) r a b) (fun a b h r h' j c hc => frz l (by decide) j hc)
  exact ⟨h2, r2, (fL_law_c300_eq (d + 99) (iN i) h).trans e2⟩
theorem cs_mend (l : Launch) (d : Nat) {L : Nat} {xs : Nat → Int32} {h : zm_H} {i : Nat} (hL : L ≤ 3072) (hi : i + 6 ≤ L) (r : RR L xs h) : ∃ h2, RR L xs h2 ∧ fL_law_c333 (d + 99 + 1) (iN i) h = fL_law_c1737 (d + 99 + 1) (iN i) h2 := by
  obtain ⟨h2, r2, e2⟩ := case3 (e := fE_mend (d + 99)) (m := fM_mend (d + 99)) (K := fun h => fL_law_c1737 (d + 99 + 1) (iN i) h) hL hi r (fun a b c => K_mend (d + 93) r a b c) (fun a b c h r h' j c hc => frz l (by decide) j hc)
  exact ⟨h2, r2, (fL_law_c333_eq (d + 99) (iN i) h).trans e2⟩
theorem cs_of (l : Launch) (d : Nat) {L : Nat} {xs : Nat → Int32} {h : zm_H} {i : Nat} (hL : L ≤ 3072) (hi : i + 6 ≤ L) (r : RR L xs h) : ∃ h2, RR L xs h2 ∧ fL_law_c376 (d + 99 + 1) (iN i) h = fL_law_c1737 (d + 99 + 1) (iN i) h2 := by
  obtain ⟨h2, r2, e2⟩ := case2 (e := fE_of (d + 99)) (m := fM_of (d + 99)) (K := fun h => fL_law_c1737 (d + 99 + 1) (iN i) h) hL hi r (fun a b => K_of (d + 93) r a b) (fun a b h r h' j c hc => frz l (by decide) j hc)
  exact ⟨h2, r2, (fL_law_c376_eq (d + 99) (iN i) h).trans e2⟩
theorem cs_feed (l : Launch) (d : Nat) {L : Nat} {xs : Nat → Int32} {h : zm_H} {i : Nat} (hL : L ≤ 3072) (hi : i + 6 ≤ L) (r : RR L xs h) : ∃ h2, RR L xs h2 ∧ fL_law_c409 (d + 99 + 1) (iN i) h = fL_law_c1737 (d + 99 + 1) (iN i) h2 := by
  obtain ⟨h2, r2, e2⟩ := case1 (e := fE_feed (d + 99)) (m := fM_feed (d + 99)) (K := fun h => fL_law_c1737 (d + 99 + 1) (iN i) h) hL hi r (fun a => K_feed (d + 93) r a) (fun a h r h' j c hc => frz l (by decide) j hc)
  exact ⟨h2, r2, (fL_law_c409_eq (d + 99) (iN i) h).trans e2⟩
theorem cs_law (l : Launch) (d : Nat) {L : Nat} {xs : Nat → Int32} {h : zm_H} {i : Nat} (hL : L ≤ 3072) (hi : i + 6 ≤ L) (r : RR L xs h) : ∃ h2, RR L xs h2 ∧ fL_law_c432 (d + 99 + 1) (iN i) h = fL_law_c1737 (d + 99 + 1) (iN i) h2 := by
  obtain ⟨h2, r2, e2⟩ := case0 (e := fE_law (d + 99)) (m := fM_law (d + 99)) (K := fun h => fL_law_c1737 (d + 99 + 1) (iN i) h) hL hi r (K_law (d + 7) r) (fun h r h' j c hc => frz l (by decide) j hc)
  exact ⟨h2, r2, (fL_law_c432_eq (d + 99) (iN i) h).trans e2⟩
theorem cs_hangs (l : Launch) (d : Nat) {L : Nat} {xs : Nat → Int32} {h : zm_H} {i : Nat} (hL : L ≤ 3072) (hi : i + 6 ≤ L) (r : RR L xs h) : ∃ h2, RR L xs h2 ∧ fL_law_c445 (d + 99 + 1) (iN i) h = fL_law_c1737 (d + 99 + 1) (iN i) h2 := by
  obtain ⟨h2, r2, e2⟩ := case3 (e := fE_hangs (d + 99)) (m := fM_hangs (d + 99)) (K := fun h => fL_law_c1737 (d + 99 + 1) (iN i) h) hL hi r (fun a b c => K_hangs (d + 79) r a b c) (fun a b c h r h' j c hc => frz l (by decide) j hc)
  exact ⟨h2, r2, (fL_law_c445_eq (d + 99) (iN i) h).trans e2⟩
theorem cs_where (l : Launch) (d : Nat) {L : Nat} {xs : Nat → Int32} {h : zm_H} {i : Nat} (hL : L ≤ 3072) (hi : i + 6 ≤ L) (r : RR L xs h) : ∃ h2, RR L xs h2 ∧ fL_law_c488 (d + 99 + 1) (iN i) h = fL_law_c1737 (d + 99 + 1) (iN i) h2 := by
  obtain ⟨h2, r2, e2⟩ := case2 (e := fE_where (d + 99)) (m := fM_where (d + 99)) (K := fun h => fL_law_c1737 (d + 99 + 1) (iN i) h) hL hi r (fun a b => K_where (d + 79) r a b) (fun a b h r h' j c hc => frz l (by decide) j hc)
  exact ⟨h2, r2, (fL_law_c488_eq (d + 99) (iN i) h).trans e2⟩
theorem cs_knot (l : Launch) (d : Nat) {L : Nat} {xs : Nat → Int32} {h : zm_H} {i : Nat} (hL : L ≤ 3072) (hi : i + 6 ≤ L) (r : RR L xs h) : ∃ h2, RR L xs h2 ∧ fL_law_c521 (d + 99 + 1) (iN i) h = fL_law_c1737 (d + 99 + 1) (iN i) h2 := by
  obtain ⟨h2, r2, e2⟩ := case2 (e := fE_knot (d + 99)) (m := fM_knot (d + 99)) (K := fun h => fL_law_c1737 (d + 99 + 1) (iN i) h) hL hi r (fun a b => K_knot (d + 79) r a b) (fun a b h r h' j c hc => frz l (by decide) j hc)
  exact ⟨h2, r2, (fL_law_c521_eq (d + 99) (iN i) h).trans e2⟩
theorem cs_correct (l : Launch) (d : Nat) {L : Nat} {xs : Nat → Int32} {h : zm_H} {i : Nat} (hL : L ≤ 3072) (hi : i + 6 ≤ L) (r : RR L xs h) : ∃ h2, RR L xs h2 ∧ fL_law_c554 (d + 99 + 1) (iN i) h = fL_law_c1737 (d + 99 + 1) (iN i) h2 := by
  obtain ⟨h2, r2, e2⟩ := case3 (e := fE_correct (d + 99)) (m := fM_correct (d + 99)) (K := fun h => fL_law_c1737 (d + 99 + 1) (iN i) h) hL hi r (fun a b c => K_correct (d + 79) r a b c) (fun a b c h r h' j c hc => frz l (by decide) j hc)
  exact ⟨h2, r2, (fL_law_c554_eq (d + 99) (iN i) h).trans e2⟩
theorem cs_share (l : Launch) (d : Nat) {L : Nat} {xs : Nat → Int32} {h : zm_H} {i : Nat} (hL : L ≤ 3072) (hi : i + 6 ≤ L) (r : RR L xs h) : ∃ h2, RR L xs h2 ∧ fL_law_c597 (d + 99 + 1) (iN i) h = fL_law_c1737 (d + 99 + 1) (iN i) h2 := by
  obtain ⟨h2, r2, e2⟩ := case2 (e := fE_share (d + 99)) (m := fM_share (d + 99)) (K := fun h => fL_law_c1737 (d + 99 + 1) (iN i) h) hL hi r (fun a b => K_share (d + 79) r a b) (fun a b h r h' j c hc => frz l (by decide) j hc)
  exact ⟨h2, r2, (fL_law_c597_eq (d + 99) (iN i) h).trans e2⟩
theorem cs_bow (l : Launch) (d : Nat) {L : Nat} {xs : Nat → Int32} {h : zm_H} {i : Nat} (hL : L ≤ 3072) (hi : i + 6 ≤ L) (r : RR L xs h) : ∃ h2, RR L xs h2 ∧ fL_law_c630 (d + 99 + 1) (iN i) h = fL_law_c1737 (d + 99 + 1) (iN i) h2 := by
  obtain ⟨h2, r2, e2⟩ := case2 (e := fE_bow (d + 99)) (m := fM_bow (d + 99)) (K := fun h => fL_law_c1737 (d + 99 + 1) (iN i) h) hL hi r (fun a b => K_bow (d + 79) r a b) (fun a b h r h' j c hc => frz l (by decide) j hc)
  exact ⟨h2, r2, (fL_law_c630_eq (d + 99) (iN i) h).trans e2⟩
theorem cs_stain (l : Launch) (d : Nat) {L : Nat} {xs : Nat → Int32} {h : zm_H} {i : Nat} (hL : L ≤ 3072) (hi : i + 6 ≤ L) (r : RR L xs h) : ∃ h2, RR L xs h2 ∧ fL_law_c663 (d + 99 + 1) (iN i) h = fL_law_c1737 (d + 99 + 1) (iN i) h2 := by
  obtain ⟨h2, r2, e2⟩ := case2 (e := fE_stain (d + 99)) (m := fM_stain (d + 99)) (K := fun h => fL_law_c1737 (d + 99 + 1) (iN i) h) hL hi r (fun a b => K_stain (d + 79) r a b) (fun a b h r h' j c hc => frz l (by decide) j hc)
  exact ⟨h2, r2, (fL_law_c663_eq (d + 99) (iN i) h).trans e2⟩
theorem cs_hide (l : Launch) (d : Nat) {L : Nat} {xs : Nat → Int32} {h : zm_H} {i : Nat} (hL : L ≤ 3072) (hi : i + 6 ≤ L) (r : RR L xs h) : ∃ h2, RR L xs h2 ∧ fL_law_c696 (d + 99 + 1) (iN i) h = fL_law_c1737 (d + 99 + 1) (iN i) h2 := by
  obtain ⟨h2, r2, e2⟩ := case1 (e := fE_hide (d + 99)) (m := fM_hide (d + 99)) (K := fun h => fL_law_c1737 (d + 99 + 1) (iN i) h) hL hi r (fun a => K_hide (d + 79) r a) (fun a h r h' j c hc => frz l (by decide) j hc)
  exact ⟨h2, r2, (fL_law_c696_eq (d + 99) (iN i) h).trans e2⟩
theorem cs_fit (l : Launch) (d : Nat) {L : Nat} {xs : Nat → Int32} {h : zm_H} {i : Nat} (hL : L ≤ 3072) (hi : i + 6 ≤ L) (r : RR L xs h) : ∃ h2, RR L xs h2 ∧ fL_law_c719 (d + 99 + 1) (iN i) h = fL_law_c1737 (d + 99 + 1) (iN i) h2 := by
  obtain ⟨h2, r2, e2⟩ := case2 (e := fE_fit (d + 99)) (m := fM_fit (d + 99)) (K := fun h => fL_law_c1737 (d + 99 + 1) (iN i) h) hL hi r (fun a b => K_fit (d + 79) r a b) (fun a b h r h' j c hc => frz l (by decide) j hc)
  exact ⟨h2, r2, (fL_law_c719_eq (d + 99) (iN i) h).trans e2⟩
theorem cs_wear (l : Launch) (d : Nat) {L : Nat} {xs : Nat → Int32} {h : zm_H} {i : Nat} (hL : L ≤ 3072) (hi : i + 6 ≤ L) (r : RR L xs h) : ∃ h2, RR L xs h2 ∧ fL_law_c752 (d + 99 + 1) (iN i) h = fL_law_c1737 (d + 99 + 1) (iN i) h2 := by
  obtain ⟨h2, r2, e2⟩ := case2 (e := fE_wear (d + 99)) (m := fM_wear (d + 99)) (K := fun h => fL_law_c1737 (d + 99 + 1) (iN i) h) hL hi r (fun a b => K_wear (d + 79) r a b) (fun a b h r h' j c hc => frz l (by decide) j hc)
  exact ⟨h2, r2, (fL_law_c752_eq (d + 99) (iN i) h).trans e2⟩
theorem cs_takes (l : Launch) (d : Nat) {L : Nat} {xs : Nat → Int32} {h : zm_H} {i : Nat} (hL : L ≤ 3072) (hi : i + 6 ≤ L) (r : RR L xs h) : ∃ h2, RR L xs h2 ∧ fL_law_c785 (d + 99 + 1) (iN i) h = fL_law_c1737 (d + 99 + 1) (iN i) h2 := by
  obtain ⟨h2, r2, e2⟩ := case2 (e := fE_takes (d + 99)) (m := fM_takes (d + 99)) (K := fun h => fL_law_c1737 (d + 99 + 1) (iN i) h) hL hi r (fun a b => K_takes (d + 79) r a b) (fun a b h r h' j c hc => frz l (by decide) j hc)
  exact ⟨h2, r2, (fL_law_c785_eq (d + 99) (iN i) h).trans e2⟩
theorem cs_six (l : Launch) (d : Nat) {L : Nat} {xs : Nat → Int32} {h : zm_H} {i : Nat} (hL : L ≤ 3072) (hi : i + 6 ≤ L) (r : RR L xs h) : ∃ h2, RR L xs h2 ∧ fL_law_c818 (d + 99 + 1) (iN i) h = fL_law_c1737 (d + 99 + 1) (iN i) h2 := by
  obtain ⟨h2, r2, e2⟩ := case3 (e := fE_six (d + 99)) (m := fM_six (d + 99)) (K := fun h => fL_law_c1737 (d + 99 + 1) (iN i) h) hL hi r (fun a b c => K_six (d + 79) r a b c) (fun a b c h r h' j c hc => frz l (by decide) j hc)
  exact ⟨h2, r2, (fL_law_c818_eq (d + 99) (iN i) h).trans e2⟩
theorem cs_order (l : Launch) (d : Nat) {L : Nat} {xs : Nat → Int32} {h : zm_H} {i : Nat} (hL : L ≤ 3072) (hi : i + 6 ≤ L) (r : RR L xs h) : ∃ h2, RR L xs h2 ∧ fL_law_c861 (d + 99 + 1) (iN i) h = fL_law_c1737 (d + 99 + 1) (iN i) h2 := by
  obtain ⟨h2, r2, e2⟩ := case3 (e := fE_order (d + 99)) (m := fM_order (d + 99)) (K := fun h => fL_law_c1737 (d + 99 + 1) (iN i) h) hL hi r (fun a b c => K_order (d + 79) r a b c) (fun a b c h r h' j c hc => frz l (by decide) j hc)
  exact ⟨h2, r2, (fL_law_c861_eq (d + 99) (iN i) h).trans e2⟩
theorem cs_taxi (l : Launch) (d : Nat) {L : Nat} {xs : Nat → Int32} {h : zm_H} {i : Nat} (hL : L ≤ 3072) (hi : i + 6 ≤ L) (r : RR L xs h) : ∃ h2, RR L xs h2 ∧ fL_law_c904 (d + 99 + 1) (iN i) h = fL_law_c1737 (d + 99 + 1) (iN i) h2 := by
  obtain ⟨h2, r2, e2⟩ := case3 (e := fE_taxi (d + 99)) (m := fM_taxi (d + 99)) (K := fun h => fL_law_c1737 (d + 99 + 1) (iN i) h) hL hi r (fun a b c => K_taxi (d + 79) r a b c) (fun a b c h r h' j c hc => frz l (by decide) j hc)
  exact ⟨h2, r2, (fL_law_c904_eq (d + 99) (iN i) h).trans e2⟩
theorem cs_oneMore (l : Launch) (d : Nat) {L : Nat} {xs : Nat → Int32} {h : zm_H} {i : Nat} (hL : L ≤ 3072) (hi : i + 6 ≤ L) (r : RR L xs h) : ∃ h2, RR L xs h2 ∧ fL_law_c947 (d + 99 + 1) (iN i) h = fL_law_c1737 (d + 99 + 1) (iN i) h2 := by
  obtain ⟨h2, r2, e2⟩ := case3 (e := fE_oneMore (d + 99)) (m := fM_oneMore (d + 99)) (K := fun h => fL_law_c1737 (d + 99 + 1) (iN i) h) hL hi r (fun a b c => K_oneMore (d + 79) r a b c) (fun a b c h r h' j c hc => frz l (by decide) j hc)
  exact ⟨h2, r2, (fL_law_c947_eq (d + 99) (iN i) h).trans e2⟩
theorem cs_judge (l : Launch) (d : Nat) {L : Nat} {xs : Nat → Int32} {h : zm_H} {i : Nat} (hL : L ≤ 3072) (hi : i + 6 ≤ L) (r : RR L xs h) : ∃ h2, RR L xs h2 ∧ fL_law_c990 (d + 99 + 1) (iN i) h = fL_law_c1737 (d + 99 + 1) (iN i) h2 := by
  obtain ⟨h2, r2, e2⟩ := case3 (e := fE_judge (d + 99)) (m := fM_judge (d + 99)) (K := fun h => fL_law_c1737 (d + 99 + 1) (iN i) h) hL hi r (fun a b c => K_judge (d + 79) r a b c) (fun a b c h r h' j c hc => frz l (by decide) j hc)
  exact ⟨h2, r2, (fL_law_c990_eq (d + 99) (iN i) h).trans e2⟩
theorem cs_which (l : Launch) (d : Nat) {L : Nat} {xs : Nat → Int32} {h : zm_H} {i : Nat} (hL : L ≤ 3072) (hi : i + 6 ≤ L) (r : RR L xs h) : ∃ h2, RR L xs h2 ∧ fL_law_c1033 (d + 99 + 1) (iN i) h = fL_law_c1737 (d + 99 + 1) (iN i) h2 := by
  obtain ⟨h2, r2, e2⟩ := case3 (e := fE_which (d + 99)) (m := fM_which (d + 99)) (K := fun h => fL_law_c1737 (d + 99 + 1) (iN i) h) hL hi r (fun a b c => K_which (d + 79) r a b c) (fun a b c h r h' j c hc => frz l (by decide) j hc)
  exact ⟨h2, r2, (fL_law_c1033_eq (d + 99) (iN i) h).trans e2⟩
theorem cs_began (l : Launch) (d : Nat) {L : Nat} {xs : Nat → Int32} {h : zm_H} {i : Nat} (hL : L ≤ 3072) (hi : i + 6 ≤ L) (r : RR L xs h) : ∃ h2, RR L xs h2 ∧ fL_law_c1076 (d + 99 + 1) (iN i) h = fL_law_c1737 (d + 99 + 1) (iN i) h2 := by
  obtain ⟨h2, r2, e2⟩ := case3 (e := fE_began (d + 99)) (m := fM_began (d + 99)) (K := fun h => fL_law_c1737 (d + 99 + 1) (iN i) h) hL hi r (fun a b c => K_began (d + 79) r a b c) (fun a b c h r h' j c hc => frz l (by decide) j hc)
  exact ⟨h2, r2, (fL_law_c1076_eq (d + 99) (iN i) h).trans e2⟩
theorem cs_thickness (l : Launch) (d : Nat) {L : Nat} {xs : Nat → Int32} {h : zm_H} {i : Nat} (hL : L ≤ 3072) (hi : i + 6 ≤ L) (r : RR L xs h) : ∃ h2, RR L xs h2 ∧ fL_law_c1119 (d + 99 + 1) (iN i) h = fL_law_c1737 (d + 99 + 1) (iN i) h2 := by
  obtain ⟨h2, r2, e2⟩ := case3 (e := fE_thickness (d + 99)) (m := fM_thickness (d + 99)) (K := fun h => fL_law_c1737 (d + 99 + 1) (iN i) h) hL hi r (fun a b c => K_thickness (d + 79) r a b c) (fun a b c h r h' j c hc => frz l (by decide) j hc)
  exact ⟨h2, r2, (fL_law_c1119_eq (d + 99) (iN i) h).trans e2⟩
theorem cs_drawn (l : Launch) (d : Nat) {L : Nat} {xs : Nat → Int32} {h : zm_H} {i : Nat} (hL : L ≤ 3072) (hi : i + 6 ≤ L) (r : RR L xs h) : ∃ h2, RR L xs h2 ∧ fL_law_c1162 (d + 99 + 1) (iN i) h = fL_law_c1737 (d + 99 + 1) (iN i) h2 := by
  obtain ⟨h2, r2, e2⟩ := case4 (e := fE_drawn (d + 99)) (m := fM_drawn (d + 99)) (K := fun h => fL_law_c1737 (d + 99 + 1) (iN i) h) hL hi r (fun a b c s => K_drawn (d + 79) r a b c s) (fun a b c s h r h' j c hc => frz l (by decide) j hc)
  exact ⟨h2, r2, (fL_law_c1162_eq (d + 99) (iN i) h).trans e2⟩
theorem cs_tieOn (l : Launch) (d : Nat) {L : Nat} {xs : Nat → Int32} {h : zm_H} {i : Nat} (hL : L ≤ 3072) (hi : i + 6 ≤ L) (r : RR L xs h) : ∃ h2, RR L xs h2 ∧ fL_law_c1215 (d + 99 + 1) (iN i) h = fL_law_c1737 (d + 99 + 1) (iN i) h2 := by
  obtain ⟨h2, r2, e2⟩ := case2 (e := fE_tieOn (d + 99)) (m := fM_tieOn (d + 99)) (K := fun h => fL_law_c1737 (d + 99 + 1) (iN i) h) hL hi r (fun a b => K_tieOn (d + 79) r a b) (fun a b h r h' j c hc => frz l (by decide) j hc)
  exact ⟨h2, r2, (fL_law_c1215_eq (d + 99) (iN i) h).trans e2⟩
theorem cs_untie (l : Launch) (d : Nat) {L : Nat} {xs : Nat → Int32} {h : zm_H} {i : Nat} (hL : L ≤ 3072) (hi : i + 6 ≤ L) (r : RR L xs h) : ∃ h2, RR L xs h2 ∧ fL_law_c1248 (d + 99 + 1) (iN i) h = fL_law_c1737 (d + 99 + 1) (iN i) h2 := by
  obtain ⟨h2, r2, e2⟩ := case1 (e := fE_untie (d + 99)) (m := fM_untie (d + 99)) (K := fun h => fL_law_c1737 (d + 99 + 1) (iN i) h) hL hi r (fun a => K_untie (d + 93) r a) (fun a h r h' j c hc => frz l (by decide) j hc)
  exact ⟨h2, r2, (fL_law_c1248_eq (d + 99) (iN i) h).trans e2⟩
theorem cs_led (l : Launch) (d : Nat) {L : Nat} {xs : Nat → Int32} {h : zm_H} {i : Nat} (hL : L ≤ 3072) (hi : i + 6 ≤ L) (r : RR L xs h) : ∃ h2, RR L xs h2 ∧ fL_law_c1271 (d + 99 + 1) (iN i) h = fL_law_c1737 (d + 99 + 1) (iN i) h2 := by
  obtain ⟨h2, r2, e2⟩ := case1 (e := fE_led (d + 99)) (m := fM_led (d + 99)) (K := fun h => fL_law_c1737 (d + 99 + 1) (iN i) h) hL hi r (fun a => K_led (d + 93) r a) (fun a h r h' j c hc => frz l (by decide) j hc)
  exact ⟨h2, r2, (fL_law_c1271_eq (d + 99) (iN i) h).trans e2⟩
theorem cs_image (l : Launch) (d : Nat) {L : Nat} {xs : Nat → Int32} {h : zm_H} {i : Nat} (hL : L ≤ 3072) (hi : i + 6 ≤ L) (r : RR L xs h) : ∃ h2, RR L xs h2 ∧ fL_law_c1294 (d + 99 + 1) (iN i) h = fL_law_c1737 (d + 99 + 1) (iN i) h2 := by
  obtain ⟨h2, r2, e2⟩ := case0 (e := fE_image (d + 99)) (m := fM_image (d + 99)) (K := fun h => fL_law_c1737 (d + 99 + 1) (iN i) h) hL hi r (K_image (d + 93) r) (fun h r h' j c hc => frz l (by decide) j hc)
  exact ⟨h2, r2, (fL_law_c1294_eq (d + 99) (iN i) h).trans e2⟩
theorem cs_back (l : Launch) (d : Nat) {L : Nat} {xs : Nat → Int32} {h : zm_H} {i : Nat} (hL : L ≤ 3072) (hi : i + 6 ≤ L) (r : RR L xs h) : ∃ h2, RR L xs h2 ∧ fL_law_c1307 (d + 99 + 1) (iN i) h = fL_law_c1737 (d + 99 + 1) (iN i) h2 := by
  obtain ⟨h2, r2, e2⟩ := case0 (e := fE_back (d + 99)) (m := fM_back (d + 99)) (K := fun h => fL_law_c1737 (d + 99 + 1) (iN i) h) hL hi r (K_back (d + 93) r) (fun h r h' j c hc => frz l (by decide) j hc)
  exact ⟨h2, r2, (fL_law_c1307_eq (d + 99) (iN i) h).trans e2⟩
theorem cs_undo (l : Launch) (d : Nat) {L : Nat} {xs : Nat → Int32} {h : zm_H} {i : Nat} (hL : L ≤ 3072) (hi : i + 6 ≤ L) (r : RR L xs h) : ∃ h2, RR L xs h2 ∧ fL_law_c1320 (d + 99 + 1) (iN i) h = fL_law_c1737 (d + 99 + 1) (iN i) h2 := by
  obtain ⟨h2, r2, e2⟩ := case0 (e := fE_undo (d + 99)) (m := fM_undo (d + 99)) (K := fun h => fL_law_c1737 (d + 99 + 1) (iN i) h) hL hi r (K_undo (d + 93) r) (fun h r h' j c hc => frz l (by decide) j hc)
  exact ⟨h2, r2, (fL_law_c1320_eq (d + 99) (iN i) h).trans e2⟩
theorem cs_redo (l : Launch) (d : Nat) {L : Nat} {xs : Nat → Int32} {h : zm_H} {i : Nat} (hL : L ≤ 3072) (hi : i + 6 ≤ L) (r : RR L xs h) : ∃ h2, RR L xs h2 ∧ fL_law_c1333 (d + 99 + 1) (iN i) h = fL_law_c1737 (d + 99 + 1) (iN i) h2 := by
  obtain ⟨h2, r2, e2⟩ := case0 (e := fE_redo (d + 99)) (m := fM_redo (d + 99)) (K := fun h => fL_law_c1737 (d + 99 + 1) (iN i) h) hL hi r (K_redo (d + 93) r) (fun h r h' j c hc => frz l (by decide) j hc)
  exact ⟨h2, r2, (fL_law_c1333_eq (d + 99) (iN i) h).trans e2⟩
theorem cs_body (l : Launch) (d : Nat) {L : Nat} {xs : Nat → Int32} {h : zm_H} {i : Nat} (hL : L ≤ 3072) (hi : i + 6 ≤ L) (r : RR L xs h) : ∃ h2, RR L xs h2 ∧ fL_law_c1346 (d + 99 + 1) (iN i) h = fL_law_c1737 (d + 99 + 1) (iN i) h2 := by
  obtain ⟨h2, r2, e2⟩ := case1 (e := fE_body (d + 99)) (m := fM_body (d + 99)) (K := fun h => fL_law_c1737 (d + 99 + 1) (iN i) h) hL hi r (fun a => K_body (d + 93) r a) (fun a h r h' j c hc => frz l (by decide) j hc)
  exact ⟨h2, r2, (fL_law_c1346_eq (d + 99) (iN i) h).trans e2⟩
theorem cs_act (l : Launch) (d : Nat) {L : Nat} {xs : Nat → Int32} {h : zm_H} {i : Nat} (hL : L ≤ 3072) (hi : i + 6 ≤ L) (r : RR L xs h) : ∃ h2, RR L xs h2 ∧ fL_law_c1369 (d + 99 + 1) (iN i) h = fL_law_c1737 (d + 99 + 1) (iN i) h2 := by
  obtain ⟨h2, r2, e2⟩ := case3 (e := fE_act (d + 99)) (m := fM_act (d + 99)) (K := fun h => fL_law_c1737 (d + 99 + 1) (iN i) h) hL hi r (fun a b c => K_act (d + 39) r a b c) (fun a b c h r h' j c hc => frz l (by decide) j hc)
  exact ⟨h2, r2, (fL_law_c1369_eq (d + 99) (iN i) h).trans e2⟩
theorem cs_trace (l : Launch) (d : Nat) {L : Nat} {xs : Nat → Int32} {h : zm_H} {i : Nat} (hL : L ≤ 3072) (hi : i + 6 ≤ L) (r : RR L xs h) : ∃ h2, RR L xs h2 ∧ fL_law_c1412 (d + 99 + 1) (iN i) h = fL_law_c1737 (d + 99 + 1) (iN i) h2 := by
  obtain ⟨h2, r2, e2⟩ := case1 (e := fE_trace (d + 99)) (m := fM_trace (d + 99)) (K := fun h => fL_law_c1737 (d + 99 + 1) (iN i) h) hL hi r (fun a => K_trace (d + 93) r a) (fun a h r h' j c hc => frz l (by decide) j hc)
  exact ⟨h2, r2, (fL_law_c1412_eq (d + 99) (iN i) h).trans e2⟩
theorem cs_keep (l : Launch) (d : Nat) {L : Nat} {xs : Nat → Int32} {h : zm_H} {i : Nat} (hL : L ≤ 3072) (hi : i + 6 ≤ L) (r : RR L xs h) : ∃ h2, RR L xs h2 ∧ fL_law_c1435 (d + 99 + 1) (iN i) h = fL_law_c1737 (d + 99 + 1) (iN i) h2 := by
  obtain ⟨h2, r2, e2⟩ := case2 (e := fE_keep (d + 99)) (m := fM_keep (d + 99)) (K := fun h => fL_law_c1737 (d + 99 + 1) (iN i) h) hL hi r (fun a b => K_keep (d + 93) r a b) (fun a b h r h' j c hc => frz l (by decide) j hc)
  exact ⟨h2, r2, (fL_law_c1435_eq (d + 99) (iN i) h).trans e2⟩
theorem cs_row (l : Launch) (d : Nat) {L : Nat} {xs : Nat → Int32} {h : zm_H} {i : Nat} (hL : L ≤ 3072) (hi : i + 6 ≤ L) (r : RR L xs h) : ∃ h2, RR L xs h2 ∧ fL_law_c1468 (d + 99 + 1) (iN i) h = fL_law_c1737 (d + 99 + 1) (iN i) h2 := by
  obtain ⟨h2, r2, e2⟩ := case3 (e := fE_row (d + 99)) (m := fM_row (d + 99)) (K := fun h => fL_law_c1737 (d + 99 + 1) (iN i) h) hL hi r (fun a b c => K_row (d + 93) r a b c) (fun a b c h r h' j c hc => frz l (by decide) j hc)
  exact ⟨h2, r2, (fL_law_c1468_eq (d + 99) (iN i) h).trans e2⟩
theorem cs_put (l : Launch) (d : Nat) {L : Nat} {xs : Nat → Int32} {h : zm_H} {i : Nat} (hL : L ≤ 3072) (hi : i + 6 ≤ L) (r : RR L xs h) : ∃ h2, RR L xs h2 ∧ fL_law_c1511 (d + 99 + 1) (iN i) h = fL_law_c1737 (d + 99 + 1) (iN i) h2 := by
  obtain ⟨h2, r2, e2⟩ := case4 (e := fun a b c s => fE_put (d + 99) a b (c.toInt64 <<< ((32 : Int32).toInt64 &&& 63) ||| (s.toInt64 &&& (4294967295 : Int64)))) (m := fun a b c s => fM_put (d + 99) a b (c.toInt64 <<< ((32 : Int32).toInt64 &&& 63) ||| (s.toInt64 &&& (4294967295 : Int64)))) (K := fun h => fL_law_c1737 (d + 99 + 1) (iN i) h) hL hi r (fun a b c s => K_put (d + 93) r a b (c.toInt64 <<< ((32 : Int32).toInt64 &&& 63) ||| (s.toInt64 &&& (4294967295 : Int64)))) (fun a b c s h r h' j c hc => frz l (by decide) j hc)
  exact ⟨h2, r2, (fL_law_c1511_eq (d + 99) (iN i) h).trans e2⟩
theorem cs_element (l : Launch) (d : Nat) {L : Nat} {xs : Nat → Int32} {h : zm_H} {i : Nat} (hL : L ≤ 3072) (hi : i + 6 ≤ L) (r : RR L xs h) : ∃ h2, RR L xs h2 ∧ fL_law_c1584 (d + 99 + 1) (iN i) h = fL_law_c1737 (d + 99 + 1) (iN i) h2 := by
  obtain ⟨h2, r2, e2⟩ := case2J (e := fE_element (d + 99)) (m := fM_element (d + 99)) (K := fun h => fL_law_c1737 (d + 99 + 1) (iN i) h) hL hi r (fun a b => K_element (d + 93) r a b) (fun a b h r h' j c hc => frz l (by decide) j hc)
  exact ⟨h2, r2, (fL_law_c1584_eq (d + 99) (iN i) h).trans e2⟩
theorem cs_shift (l : Launch) (d : Nat) {L : Nat} {xs : Nat → Int32} {h : zm_H} {i : Nat} (hL : L ≤ 3072) (hi : i + 6 ≤ L) (r : RR L xs h) : ∃ h2, RR L xs h2 ∧ fL_law_c1618 (d + 99 + 1) (iN i) h = fL_law_c1737 (d + 99 + 1) (iN i) h2 := by
  obtain ⟨h2, r2, e2⟩ := case5 (e := fE_shift (d + 99)) (m := fM_shift (d + 99)) (K := fun h => fL_law_c1737 (d + 99 + 1) (iN i) h) hL hi r (fun a b c s t => K_shift (d + 93) r a b c s t) (fun a b c s t h r h' j c hc => frz l (by decide) j hc)
  exact ⟨h2, r2, (fL_law_c1618_eq (d + 99) (iN i) h).trans e2⟩
theorem cs_taken (l : Launch) (d : Nat) {L : Nat} {xs : Nat → Int32} {h : zm_H} {i : Nat} (hL : L ≤ 3072) (hi : i + 6 ≤ L) (r : RR L xs h) : ∃ h2, RR L xs h2 ∧ fL_law_c1681 (d + 99 + 1) (iN i) h = fL_law_c1737 (d + 99 + 1) (iN i) h2 := by
  obtain ⟨h2, r2, e2⟩ := case2 (e := fE_taken (d + 99)) (m := fM_taken (d + 99)) (K := fun h => fL_law_c1737 (d + 99 + 1) (iN i) h) hL hi r (fun a b => K_taken (d + 93) r a b) (fun a b h r h' j c hc => frz l (by decide) j hc)
  exact ⟨h2, r2, (fL_law_c1681_eq (d + 99) (iN i) h).trans e2⟩
theorem cs_count (l : Launch) (d : Nat) {L : Nat} {xs : Nat → Int32} {h : zm_H} {i : Nat} (hL : L ≤ 3072) (hi : i + 6 ≤ L) (r : RR L xs h) : ∃ h2, RR L xs h2 ∧ fL_law_c1714 (d + 99 + 1) (iN i) h = fL_law_c1737 (d + 99 + 1) (iN i) h2 := by
  obtain ⟨h2, r2, e2⟩ := case1 (e := fE_count (d + 99)) (m := fM_count (d + 99)) (K := fun h => fL_law_c1737 (d + 99 + 1) (iN i) h) hL hi r (fun a => K_count (d + 93) r a) (fun a h r h' j c hc => frz l (by decide) j hc)
  exact ⟨h2, r2, (fL_law_c1714_eq (d + 99) (iN i) h).trans e2⟩
/-! the loop of the law -/
theorem stepL (l : Launch) (d : Nat) {L : Nat} {xs : Nat → Int32} {h : zm_H} {i : Nat} (hL : L ≤ 3072) (hi : i + 6 ≤ L) (r : RR L xs h) : ∃ h2, RR L xs h2 ∧ fL_law_c18 (d + 99 + 1) (iN i) h = fL_law_c1737 (d + 99 + 1) (iN i) h2 := by
  have s := scr_RR r
  rw [fL_law_c18_eq, s.2, cF (by rw [iN_subr (by omega), iN_lt (by omega) (by omega)]; omega), scr_in s hL (by omega), Bool.cond_true, scr_v s (by omega)]
  obtain ⟨v, hv⟩ : ∃ v, v = xs i &&& (63 : Int32) := ⟨_, rfl⟩
  rw [← hv]
  by_cases q0 : v = 0
  · rw [cT q0]; exact cs_tie l d hL hi r
  rw [cF q0]
  by_cases q1 : v = 1
  · rw [cT q1]; exact cs_ties l d hL hi r
  rw [cF q1]
  by_cases q2 : v = 2
  · rw [cT q2]; exact cs_tier l d hL hi r
  rw [cF q2]
  by_cases q3 : v = 3
  · rw [cT q3]; exact cs_mend l d hL hi r
  rw [cF q3]
  by_cases q4 : v = 4
  · rw [cT q4]; exact cs_of l d hL hi r
  rw [cF q4]
  by_cases q5 : v = 5
  · rw [cT q5]; exact cs_feed l d hL hi r
  rw [cF q5]
  by_cases q6 : v = 6
  · rw [cT q6]; exact cs_law l d hL hi r
  rw [cF q6]
  by_cases q7 : v = 7
  · rw [cT q7]; exact cs_hangs l d hL hi r
  rw [cF q7]
  by_cases q8 : v = 8
  · rw [cT q8]; exact cs_where l d hL hi r
  rw [cF q8]
  by_cases q9 : v = 9
  · rw [cT q9]; exact cs_knot l d hL hi r
  rw [cF q9]
  by_cases q10 : v = 10
  · rw [cT q10]; exact cs_correct l d hL hi r
  rw [cF q10]
  by_cases q11 : v = 11
  · rw [cT q11]; exact cs_share l d hL hi r
  rw [cF q11]
  by_cases q12 : v = 12
  · rw [cT q12]; exact cs_bow l d hL hi r
  rw [cF q12]
  by_cases q13 : v = 13
  · rw [cT q13]; exact cs_stain l d hL hi r
  rw [cF q13]
  by_cases q14 : v = 14
  · rw [cT q14]; exact cs_hide l d hL hi r
  rw [cF q14]
  by_cases q15 : v = 15
  · rw [cT q15]; exact cs_fit l d hL hi r
  rw [cF q15]
  by_cases q16 : v = 16
  · rw [cT q16]; exact cs_wear l d hL hi r
  rw [cF q16]
  by_cases q17 : v = 17
  · rw [cT q17]; exact cs_takes l d hL hi r
  rw [cF q17]
  by_cases q18 : v = 18
  · rw [cT q18]; exact cs_six l d hL hi r
  rw [cF q18]
  by_cases q19 : v = 19
  · rw [cT q19]; exact cs_order l d hL hi r
  rw [cF q19]
  by_cases q20 : v = 20
  · rw [cT q20]; exact cs_taxi l d hL hi r
  rw [cF q20]
  by_cases q21 : v = 21
  · rw [cT q21]; exact cs_oneMore l d hL hi r
  rw [cF q21]
  by_cases q22 : v = 22
  · rw [cT q22]; exact cs_judge l d hL hi r
  rw [cF q22]
  by_cases q23 : v = 23
  · rw [cT q23]; exact cs_which l d hL hi r
  rw [cF q23]
  by_cases q24 : v = 24
  · rw [cT q24]; exact cs_began l d hL hi r
  rw [cF q24]
  by_cases q25 : v = 25
  · rw [cT q25]; exact cs_thickness l d hL hi r
  rw [cF q25]
  by_cases q26 : v = 26
  · rw [cT q26]; exact cs_drawn l d hL hi r
  rw [cF q26]
  by_cases q27 : v = 27
  · rw [cT q27]; exact cs_tieOn l d hL hi r
  rw [cF q27]
  by_cases q28 : v = 28
  · rw [cT q28]; exact cs_untie l d hL hi r
  rw [cF q28]
  by_cases q29 : v = 29
  · rw [cT q29]; exact cs_led l d hL hi r
  rw [cF q29]
  by_cases q30 : v = 30
  · rw [cT q30]; exact cs_image l d hL hi r
  rw [cF q30]
  by_cases q31 : v = 31
  · rw [cT q31]; exact cs_back l d hL hi r
  rw [cF q31]
  by_cases q32 : v = 32
  · rw [cT q32]; exact cs_undo l d hL hi r
  rw [cF q32]
  by_cases q33 : v = 33
  · rw [cT q33]; exact cs_redo l d hL hi r
  rw [cF q33]
  by_cases q34 : v = 34
  · rw [cT q34]; exact cs_body l d hL hi r
  rw [cF q34]
  by_cases q35 : v = 35
  · rw [cT q35]; exact cs_act l d hL hi r
  rw [cF q35]
  by_cases q36 : v = 36
  · rw [cT q36]; exact cs_trace l d hL hi r
  rw [cF q36]
  by_cases q37 : v = 37
  · rw [cT q37]; exact cs_keep l d hL hi r
  rw [cF q37]
  by_cases q38 : v = 38
  · rw [cT q38]; exact cs_row l d hL hi r
  rw [cF q38]
  by_cases q39 : v = 39
  · rw [cT q39]; exact cs_put l d hL hi r
  rw [cF q39]
  by_cases q40 : v = 40
  · rw [cT q40]; exact cs_element l d hL hi r
  rw [cF q40]
  by_cases q41 : v = 41
  · rw [cT q41]; exact cs_shift l d hL hi r
  rw [cF q41]
  by_cases q42 : v = 42
  · rw [cT q42]; exact cs_taken l d hL hi r
  rw [cF q42]
  by_cases q43 : v = 43
  · rw [cT q43]; exact cs_count l d hL hi r
  rw [cF q43]
  exact ⟨h, r, rfl⟩
theorem lt_six {L i : Nat} (hL : L ≤ 3072) (hi : i ≤ 3078) (h : L < i + 6) : iN L - 6 < iN i := by
  by_cases q : 6 ≤ L
  · rw [iN_subr q, iN_lt (by omega) (by omega)]; omega
  · have e : iN L - 6 < iN 0 := by
      rcases (show L = 0 ∨ L = 1 ∨ L = 2 ∨ L = 3 ∨ L = 4 ∨ L = 5 by omega) with rfl | rfl | rfl | rfl | rfl | rfl <;> decide +kernel
    have f : iN 0 ≤ iN i := by rw [iN_le (by omega) (by omega)]; omega
    exact Int32.lt_of_lt_of_le e f
theorem loopL (l : Launch) (d : Nat) {L : Nat} {xs : Nat → Int32} (hL : L ≤ 3072) : ∀ (n i : Nat) (h : zm_H), L ≤ i + n → i ≤ L + 6 → RR L xs h → ∃ h', fL_law_c18 (d + 99 + 1) (iN i) h = some (some (.int 1), h') := by
  intro n
  induction n with
  | zero =>
    intro i h hn hi r
    refine ⟨h, ?_⟩
    rw [fL_law_c18_eq, (scr_RR r).2, cT (lt_six hL (by omega) (by omega))]
  | succ n ih =>
    intro i h hn hi r
    by_cases q : L < i + 6
    · refine ⟨h, ?_⟩
      rw [fL_law_c18_eq, (scr_RR r).2, cT (lt_six hL (by omega) q)]
    · obtain ⟨h2, r2, e⟩ := stepL l d hL (by omega : i + 6 ≤ L) r
      rw [e, fL_law_c1737_eq, iN_addr]
      exact ih (i + 6) h2 (by omega) (by omega) r2
/-! the start -/
theorem st_v (L : Nat) (xs : Nat → Int32) {o : Nat} (ho : o < 1000) (j : Nat) : (zp_h0 (zs_sv L xs)).1 o j = zp_val o j := by
  have e : Nat.blt o 1000 = true := by rw [Nat.blt_eq]; exact ho
  show cond (Nat.blt o 1000) (zp_val o j) (zs_sv L xs o j) = zp_val o j
  rw [e, Bool.cond_true]
theorem RR_0 (L : Nat) (xs : Nat → Int32) : RR L xs (zp_h0 (zs_sv L xs)) := by
  have v : ∀ o j, o < 1000 → (zp_h0 (zs_sv L xs)).1 o j = zp_val o j := fun o j ho => st_v L xs ho j
  have w : ∀ a n, 1000 ≤ a → (zp_h0 (zs_sv L xs)).1 a n = zs_sv L xs a n := zp_h0_F _
  generalize zp_h0 (zs_sv L xs) = h at v w ⊢
  have e0 : ∀ k, k < 12 → zs_v 0 k = lo k := by decide +kernel
  have e1 : ∀ k, k < 12 → zs_v 1 k = hi k := by decide +kernel
  have e2 : ∀ k, k < 8 → zs_v 2 k = abv k := by decide +kernel
  have e3 : ∀ k, k < 32 → zs_v 3 k = own k := by decide +kernel
  have m1 : ∀ w, w < 13 → mc w < 1000 := by decide +kernel
  have m2 : ∀ w, w < 13 → ∀ n, n < cnt 0 0 w → zp_val (mc w) (mi w n) = zp_val 2 (w * 8 + n) := by decide +kernel
  have m3 : ∀ w, w < 12 → ∀ n, n < cnt 0 0 w → lo w ≤ zp_val 2 (w * 8 + n) ∧ zp_val 2 (w * 8 + n) ≤ hi w := by decide +kernel
  have m4 : ∀ t, t < 8 → zp_val 2 (32 + t) = 0 ∧ zp_val 2 (96 + t) = 0 := by decide +kernel
  have m5 : ∀ s, s < 6 → zp_val (33 + s) 1 = -1 ∧ zp_val (33 + s) 2 = -1 ∧ zp_val (33 + s) 3 = 0 ∧ zp_val 73 s = -1 ∧ zp_val 74 s = 0 := by decide +kernel
  have z0 : ∀ o j, o < 1000 → zp_val o j = 0 → h.1 o j = iN 0 := fun o j ho hz => (v o j ho).trans hz
  have z1 : ∀ o j, o < 1000 → zp_val o j = 0 → h.1 o j = 0 := fun o j ho hz => (v o j ho).trans hz
  have zz : ∀ o j p q, o < 1000 → p < 1000 → zp_val o j = zp_val p q → h.1 o j = h.1 p q := fun o j p q ho hp hz => (v o j ho).trans (hz.trans (v p q hp).symm)
  have cW : rW L xs h := ⟨funext fun n => w 2000 n (by omega), w 2001 0 (by omega), fun k hk => (w 1000 k (by omega)).trans (e0 k hk), fun k hk => (w 1001 k (by omega)).trans (e1 k hk), fun k hk => (w 1002 k (by omega)).trans (e2 k hk), fun k hk => (w 1003 k (by omega)).trans (e3 k hk)⟩
  have cN : rN 0 0 h := by
    refine ⟨⟨by omega, by omega, z0 1 1 (by omega) (by decide +kernel), z0 45 0 (by omega) (by decide +kernel), z0 1 2 (by omega) (by decide +kernel), z0 45 11 (by omega) (by decide +kernel)⟩, fun w n hw hn => zz _ _ _ _ (m1 w hw) (by omega) (m2 w hw n hn), fun w n hw hn => ?_, fun t _ ht => ⟨z1 2 (32 + t) (by omega) (m4 t ht).1, z1 2 (96 + t) (by omega) (m4 t ht).2⟩⟩
    show lo w ≤ h.1 2 (w * 8 + n) ∧ h.1 2 (w * 8 + n) ≤ hi w
    rw [v 2 _ (by omega)]
    exact m3 w hw n hn
  have cC : rC 0 0 0 0 h := ⟨⟨by omega, by omega, z0 3 4 (by omega) (by decide +kernel), z0 3 5 (by omega) (by decide +kernel), z0 45 39 (by omega) (by decide +kernel), z0 45 38 (by omega) (by decide +kernel)⟩, fun i hi => absurd hi (by omega)⟩
  have cT : rT 0 h := ⟨by omega, z0 8 2 (by omega) (by decide +kernel), z0 45 15 (by omega) (by decide +kernel), fun i hi => absurd hi (by omega)⟩
  have cL : rL h := Or.inl ⟨z1 45 17 (by omega) (by decide +kernel), z1 11 2 (by omega) (by decide +kernel)⟩
  have cG : rG h := ⟨zz _ _ _ _ (by omega) (by omega) (by decide +kernel), zz _ _ _ _ (by omega) (by omega) (by decide +kernel), zz _ _ _ _ (by omega) (by omega) (by decide +kernel), zz _ _ _ _ (by omega) (by omega) (by decide +kernel)⟩
  have cI : rI 0 h := ⟨zz _ _ _ _ (by omega) (by omega) (by decide +kernel), Or.inl (z1 0 10 (by omega) (by decide +kernel))⟩
  have cB : rB 0 0 h := ⟨by omega, z0 29 2 (by omega) (by decide +kernel), z0 45 41 (by omega) (by decide +kernel), fun i hi => absurd hi (by omega), by omega, z0 29 3 (by omega) (by decide +kernel), z0 45 43 (by omega) (by decide +kernel), fun i hi => absurd hi (by omega)⟩
  have cS : rS 0 h := fun s hs => Or.inl ⟨(v _ _ (by omega)).trans (m5 s hs).1, (v _ _ (by omega)).trans (m5 s hs).2.1, (v _ _ (by omega)).trans (m5 s hs).2.2.1, (v _ _ (by omega)).trans (m5 s hs).2.2.2.1, (v _ _ (by omega)).trans (m5 s hs).2.2.2.2⟩
  exact ⟨0, 0, 0, 0, 0, 0, 0, cW, cN, cC, cT, cL, cG, cI, cB, cS⟩
theorem whole_B (l : Launch) (L : Nat) (xs : Nat → Int32) (hL : L ≤ 3072) : ∃ h', fL_law_c18 200 0 (zp_h0 (zs_sv L xs)) = some (some (.int 1), h') := by
  have G : ∀ D, 100 ≤ D → ∃ h', fL_law_c18 D (iN 0) (zp_h0 (zs_sv L xs)) = some (some (.int 1), h') := by
    intro D hD
    obtain ⟨d, rfl⟩ : ∃ d, D = d + 99 + 1 := ⟨D - 100, by omega⟩
    exact loopL l d hL L 0 _ (by omega) (by omega) (RR_0 L xs)
  exact G 200 (by omega)
