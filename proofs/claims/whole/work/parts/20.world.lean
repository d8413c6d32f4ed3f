/-! the abstract memory in the machine's heap: cell k lies at ad k -/
def zw_v (ad : Nat → Nat) (v : Value) : Value := match v with
  | .ref k => .ref (ad k)
  | v => v
theorem zw_v_cat (ad : Nat → Nat) (v : Value) : (zw_v ad v).category = v.category := by cases v <;> rfl
theorem zw_cat (ad : Nat → Nat) : ∀ l : List Value, ((l.map (zw_v ad)).map fun v => v.category).sum = zm_cat l
  | [] => rfl
  | v :: r => by
    show (zw_v ad v).category + ((r.map (zw_v ad)).map fun v => v.category).sum = v.category + zm_cat r
    rw [zw_v_cat, zw_cat ad r]
def zw_fv (ad : Nat → Nat) (h : zm_H) (o k : Nat) : Value := cond (zm_fr (zm_kd o).2 k) (.ref (ad (zm_rt o k))) (.int (h.1 o k))
def zw_cell (ad : Nat → Nat) (cA cJ cS : ClassId) (h : zm_H) (o : Nat) : va_E := match (zm_kd o).1 with
  | 0 => .inr ((zm_kd o).2, (List.range (zm_nF (zm_kd o).2)).map (zw_fv ad h o))
  | 1 => .inl (cA, (zm_kd o).2, .inl (h.1 o))
  | 2 => .inl (cJ, (zm_kd o).2, .inr (.inl (h.2 o)))
  | _ => .inl (cS, (zm_kd o).2, .inr (.inr (.inr (.inr (fun j => some (ad (zm_rt o j)))))))
def zw (ad : Nat → Nat) (cA cJ cS : ClassId) (h : zm_H) : va_W := (List.range zm_NC).map (fun o => (ad o, zw_cell ad cA cJ cS h o))
def zw_ty (cA cJ cS : ClassId) : List (ClassId × FieldType) := [(cA, .int), (cJ, .long), (cS, .object "EndTooLong$Shelf")]
section ZW
variable {ad : Nat → Nat} {cA cJ cS : ClassId} {h h' : zm_H}
theorem zw_at {o : Nat} (ho : o < zm_NC) : (zw ad cA cJ cS h)[o]? = some (ad o, zw_cell ad cA cJ cS h o) := by
  unfold zw
  rw [List.getElem?_map, List.getElem?_range ho]
  rfl
theorem zw_cell_eq {o : Nat} (h1 : h'.1 o = h.1 o) (h2 : h'.2 o = h.2 o) : zw_cell ad cA cJ cS h' o = zw_cell ad cA cJ cS h o := by
  have e : zw_fv ad h' o = zw_fv ad h o := by
    funext k
    unfold zw_fv
    rw [h1]
  unfold zw_cell
  rw [e, h1, h2]
theorem zw_set {o : Nat} (ho : o < zm_NC) (hr : ∀ j, j ≠ o → h'.1 j = h.1 j ∧ h'.2 j = h.2 j) : (zw ad cA cJ cS h).set o (ad o, zw_cell ad cA cJ cS h' o) = zw ad cA cJ cS h' := by
  apply List.ext_getElem?
  intro j
  by_cases hj : j = o
  · subst hj
    rw [List.getElem?_set_self (by unfold zw; simpa using ho), zw_at ho]
  · rw [List.getElem?_set_ne (Ne.symm hj)]
    unfold zw
    rw [List.getElem?_map, List.getElem?_map]
    cases hq : (List.range zm_NC)[j]? with
    | none => rfl
    | some x =>
      have hx : x = j := by
        have := List.getElem?_eq_some_iff.mp hq
        obtain ⟨_, e⟩ := this
        simpa using e.symm
      subst hx
      show some (ad x, _) = some (ad x, _)
      rw [zw_cell_eq (hr x hj).1 (hr x hj).2]
theorem zw_addr : (zw ad cA cJ cS h).map (fun q => q.1) = (zw ad cA cJ cS h').map (fun q => q.1) := by
  unfold zw
  rw [List.map_map, List.map_map]
  rfl
theorem zw_D {A : Nat → Prop} (hD : va_D A (zw ad cA cJ cS h)) : va_D A (zw ad cA cJ cS h') := by
  have key : ∀ (k : Nat) (q : Nat × va_E), (zw ad cA cJ cS h')[k]? = some q → ∃ q0, (zw ad cA cJ cS h)[k]? = some q0 ∧ q0.1 = q.1 := by
    intro k q hq
    have hk : k < zm_NC := by
      have := (List.getElem?_eq_some_iff.mp hq).1
      unfold zw at this
      simpa using this
    rw [zw_at hk] at hq
    cases hq
    exact ⟨_, zw_at hk, rfl⟩
  refine ⟨fun i j p q hi hj hpq => ?_, fun k q hq => ?_⟩
  · obtain ⟨p0, a1, a2⟩ := key i p hi
    obtain ⟨q0, b1, b2⟩ := key j q hj
    exact hD.1 i j p0 q0 a1 b1 (by rw [a2, b2]; exact hpq)
  · obtain ⟨q0, b1, b2⟩ := key k q hq
    rw [← b2]
    exact hD.2 k q0 b1
end ZW
/-! kinds -/
theorem zk2_ge (a : Nat) : 4 ≤ (zm_kd2 a).1 := by
  unfold zm_kd2
  repeat' (first | (cases Nat.blt a _ <;> simp only [cond]) | (cases Nat.beq a _ <;> simp only [cond]) | decide)
theorem zk_lt {o : Nat} (h : (zm_kd o).1 < 4) : o < zm_NC := by
  cases hb : Nat.blt o zm_NC with
  | true => exact Nat.le_of_ble_eq_true hb
  | false =>
    have e : zm_kd o = zm_kd2 o := by
      unfold zm_kd
      have hb : Nat.blt o 83 = false := hb
      rw [hb]
      rfl
    rw [e] at h
    have := zk2_ge o
    omega
theorem zk_ge {o : Nat} (h : 4 ≤ (zm_kd o).1) : zm_NC ≤ o := by
  cases Nat.lt_or_ge o zm_NC with
  | inr q => exact q
  | inl q =>
    have hall : ∀ o, o < zm_NC → (zm_kd o).1 < 4 := by decide +kernel
    have := hall o q
    omega
theorem zm_isO_eq {o ci : Nat} (h : zm_isO o ci = true) : (zm_kd o).1 = 0 ∧ (zm_kd o).2 = ci := by
  unfold zm_isO at h
  rw [Bool.and_eq_true] at h
  exact ⟨Nat.eq_of_beq_eq_true h.1, Nat.eq_of_beq_eq_true h.2⟩
theorem zm_at_in {n : Nat} {j : Int32} (h : zm_at n j = true) : vp_in j n := by
  unfold zm_at at h
  rw [Bool.and_eq_true] at h
  have h1 : ¬ j < 0 := by
    have := h.1
    simpa using this
  have h2 : j.toNatClampNeg < n := Nat.le_of_ble_eq_true h.2
  unfold vp_in
  intro q
  rcases q with q | q
  · exact h1 q
  · omega
/-! the statics and the script: what never changes -/
def zw_F (sv : Nat → Nat → Int32) (h : zm_H) : Prop := ∀ a n, 1000 ≤ a → h.1 a n = sv a n
theorem zw_F_ui {sv : Nat → Nat → Int32} {h : zm_H} {c k : Nat} {v : Int32} (hF : zw_F sv h) (hc : c < zm_NC) : zw_F sv (zm_ui h c k v) := by
  intro a n ha
  show (if a = c ∧ n = k then v else h.1 a n) = sv a n
  rw [if_neg (by intro q; have := q.1; have : c < 83 := hc; omega)]
  exact hF a n ha
theorem zw_F_ul {sv : Nat → Nat → Int32} {h : zm_H} {c k : Nat} {v : Int64} (hF : zw_F sv h) : zw_F sv (zm_ul h c k v) := hF
theorem zw_F_cpy {sv : Nat → Nat → Int32} {h : zm_H} {a b c d e : Nat} (hF : zw_F sv h) : zw_F sv (zm_cpy h a b c d e) := hF
def zw_S (ad : Nat → Nat) (A : Nat → Prop) (sv : Nat → Nat → Int32) (s : State) : Prop :=
  (∀ z, z < 4 → va_Z (zs_C z) (zs_n z) "[I" (.ref (ad (1000 + z))) A s s.heap ∧ va_T .int (ad (1000 + z)) (zm_kd (1000 + z)).2 (fun n => .int (sv (1000 + z) n)) A s s.heap) ∧
  va_X (ad 2000) (sv 2001 0).toNatClampNeg (sv 2000) s s.heap ∧ ¬ A (ad 2000) ∧ ad 2000 < s.heap.size ∧ Int32.ofNat (sv 2001 0).toNatClampNeg = sv 2001 0
theorem zw_S.moved {ad : Nat → Nat} {A : Nat → Prop} {sv : Nat → Nat → Int32} {s U : State} {locs : List Loc} (h : zw_S ad A sv s) (hvm : s.vm.Alike U.vm) (hS : va_S A s.heap U.heap locs) : zw_S ad A sv U := by
  obtain ⟨h1, h2, h3, h4, h5⟩ := h
  refine ⟨fun z hz => ⟨((h1 z hz).1.kept hS.2.1).moved hvm, ((h1 z hz).2.kept hS.2.1).moved hvm⟩, (h2.kept (hS.2.1 _ h4 h3)).moved hvm, h3, Nat.lt_of_lt_of_le h4 hS.1, h5⟩
theorem zkd_4 {a : Nat} (h : (zm_kd a).1 = 4) : ∃ z, z < 4 ∧ a = 1000 + z := by
  have h83 : zm_NC ≤ a := zk_ge (by omega)
  have e : zm_kd a = zm_kd2 a := by
    unfold zm_kd
    rw [show Nat.blt a 83 = false from by
      cases hb : Nat.blt a 83 with
      | false => rfl
      | true => have : a < 83 := Nat.le_of_ble_eq_true hb; have : 83 ≤ a := h83; omega]
    rfl
  rw [e] at h
  have key : ∀ n, Nat.beq a n = true → a = n := fun n q => Nat.eq_of_beq_eq_true q
  by_cases h0 : a = 1000
  · exact ⟨0, by omega, by omega⟩
  by_cases h1 : a = 1001
  · exact ⟨1, by omega, by omega⟩
  by_cases h2 : a = 1002
  · exact ⟨2, by omega, by omega⟩
  by_cases h3 : a = 1003
  · exact ⟨3, by omega, by omega⟩
  exfalso
  have b0 : Nat.beq a 1000 = false := by cases hb : Nat.beq a 1000 with | false => rfl | true => exact absurd (key _ hb) h0
  have b1 : Nat.beq a 1001 = false := by cases hb : Nat.beq a 1001 with | false => rfl | true => exact absurd (key _ hb) h1
  have b2 : Nat.beq a 1002 = false := by cases hb : Nat.beq a 1002 with | false => rfl | true => exact absurd (key _ hb) h2
  have b3 : Nat.beq a 1003 = false := by cases hb : Nat.beq a 1003 with | false => rfl | true => exact absurd (key _ hb) h3
  unfold zm_kd2 at h
  rw [b0, b1, b2, b3] at h
  revert h
  repeat' (first | (cases Nat.blt a _ <;> simp only [cond]) | (cases Nat.beq a _ <;> simp only [cond]) | decide)
theorem zkd_5 {a : Nat} (h : (zm_kd a).1 = 5) : a = 2000 := by
  have h83 : zm_NC ≤ a := zk_ge (by omega)
  have e : zm_kd a = zm_kd2 a := by
    unfold zm_kd
    rw [show Nat.blt a 83 = false from by
      cases hb : Nat.blt a 83 with
      | false => rfl
      | true => have : a < 83 := Nat.le_of_ble_eq_true hb; have : 83 ≤ a := h83; omega]
    rfl
  rw [e] at h
  by_cases h0 : a = 2000
  · exact h0
  exfalso
  have b0 : Nat.beq a 2000 = false := by cases hb : Nat.beq a 2000 with | false => rfl | true => exact absurd (Nat.eq_of_beq_eq_true hb) h0
  unfold zm_kd2 at h
  rw [b0] at h
  revert h
  repeat' (first | (cases Nat.blt a _ <;> simp only [cond]) | (cases Nat.beq a _ <;> simp only [cond]) | decide)
/-! the locals -/
def zw_lh (ad : Nat → Nat) (ls : Array Slot) (nL : Nat) (L : zm_L) : Prop := ls.size = nL ∧ lv_wf ls ∧ ∀ (i : Nat) (v : Value), zm_gl L i = some v → ls[i]? = some (.val (zw_v ad v))
def zw_l (ad : Nat → Nat) (L : zm_L) : List (Nat × Value) := (List.range L.length).filterMap (fun i => (zm_gl L i).map (fun v => (i, zw_v ad v)))
theorem zw_l_in {ad : Nat → Nat} {L : zm_L} {i : Nat} {v : Value} (h : zm_gl L i = some v) : (i, zw_v ad v) ∈ zw_l ad L := by
  have hi : i < L.length := by
    unfold zm_gl at h
    cases hq : L[i]? with
    | none => rw [hq] at h; cases h
    | some x => exact (List.getElem?_eq_some_iff.mp hq).1
  unfold zw_l
  exact List.mem_filterMap.mpr ⟨i, List.mem_range.mpr hi, by rw [h]; rfl⟩
theorem zw_lh.has {ad : Nat → Nat} {ls : Array Slot} {nL : Nat} {L : zm_L} (h : zw_lh ad ls nL L) : lv_has ls nL (zw_l ad L) := by
  refine ⟨h.1, h.2.1, fun q hq => ?_⟩
  unfold zw_l at hq
  obtain ⟨i, -, hi⟩ := List.mem_filterMap.mp hq
  cases hg : zm_gl L i with
  | none => rw [hg] at hi; cases hi
  | some v =>
    rw [hg] at hi
    cases hi
    exact h.2.2 i v hg
theorem zm_gl_set {L : zm_L} {i j : Nat} {x : Option Value} {v : Value} (h : zm_gl (L.set i x) j = some v) : (j = i ∧ x = some v) ∨ (j ≠ i ∧ zm_gl L j = some v) := by
  unfold zm_gl at h ⊢
  by_cases hj : j = i
  · subst hj
    left
    refine ⟨rfl, ?_⟩
    by_cases hl : j < L.length
    · rw [List.getElem?_set_self hl] at h
      cases x with
      | none => cases h
      | some y => exact h
    · rw [List.getElem?_eq_none (by simpa using hl)] at h
      cases h
  · right
    rw [List.getElem?_set_ne (Ne.symm hj)] at h
    exact ⟨hj, h⟩
theorem zm_okL_at {L : zm_L} {i j : Nat} {v : Value} (h : zm_okL L i = true) (hj : j + 1 = i) (hv : zm_gl L j = some v) : v.category = 1 := by
  subst hj
  unfold zm_okL at h
  dsimp only at h
  rw [hv] at h
  exact Nat.eq_of_beq_eq_true h
theorem zw_lh.set1 {ad : Nat → Nat} {ls' : Array Slot} {nL : Nat} {L : zm_L} {i : Nat} {x : Value} (hok : zm_okL L i = true) (h : lv_has ls' nL ((i, zw_v ad x) :: (zw_l ad L).filter (fun q => !(q.1 == i) && !(q.1 + 1 == i && q.2.category == 2)))) : zw_lh ad ls' nL (L.set i (some x)) := by
  refine ⟨h.1, h.2.1, fun j v hv => ?_⟩
  rcases zm_gl_set hv with ⟨h1, h2⟩ | ⟨h1, h2⟩
  · subst h1
    cases h2
    exact h.2.2 _ List.mem_cons_self
  · refine h.2.2 (j, zw_v ad v) (List.mem_cons_of_mem _ (List.mem_filter.mpr ⟨zw_l_in h2, ?_⟩))
    have hne : (j == i) = false := by simpa using h1
    by_cases hj : j + 1 = i
    · have hc := zm_okL_at hok hj h2
      simp [h1, zw_v_cat, hc]
    · simp [h1, hj]
theorem zw_lh.set2 {ad : Nat → Nat} {ls' : Array Slot} {nL : Nat} {L : zm_L} {i : Nat} {x : Value} (hok : zm_okL L i = true) (h : lv_has ls' nL ((i, zw_v ad x) :: (zw_l ad L).filter (fun q => !(q.1 == i) && (!(q.1 == i + 1) && !(q.1 + 1 == i && q.2.category == 2))))) : zw_lh ad ls' nL ((L.set i (some x)).set (i + 1) none) := by
  refine ⟨h.1, h.2.1, fun j v hv => ?_⟩
  rcases zm_gl_set hv with ⟨h1, h2⟩ | ⟨h0, h2⟩
  · cases h2
  · rcases zm_gl_set h2 with ⟨h1, h3⟩ | ⟨h1, h3⟩
    · cases h3
      rw [h1]
      exact h.2.2 _ List.mem_cons_self
    · refine h.2.2 (j, zw_v ad v) (List.mem_cons_of_mem _ (List.mem_filter.mpr ⟨zw_l_in h3, ?_⟩))
      by_cases hj : j + 1 = i
      · have hc := zm_okL_at hok hj h3
        simp [h1, h0, zw_v_cat, hc]
      · simp [h1, h0, hj]
theorem zm_mask_gl : ∀ (m : List Bool) (L : zm_L) (i : Nat) (v : Value), zm_gl (zm_mask m L) i = some v → zm_gl L i = some v
  | [], L, i, v, h => by
    unfold zm_mask at h
    cases i <;> cases h
  | b :: m, [], i, v, h => by
    cases b <;> (unfold zm_mask at h; cases i <;> cases h)
  | true :: m, x :: L, 0, v, h => h
  | false :: m, x :: L, 0, v, h => by cases h
  | true :: m, x :: L, i + 1, v, h => zm_mask_gl m L i v h
  | false :: m, x :: L, i + 1, v, h => zm_mask_gl m L i v h
theorem zw_lh.mask {ad : Nat → Nat} {ls : Array Slot} {nL : Nat} {L : zm_L} (h : zw_lh ad ls nL L) (m : List Bool) : zw_lh ad ls nL (zm_mask m L) := ⟨h.1, h.2.1, fun i v hv => h.2.2 i v (zm_mask_gl m L i v hv)⟩
/-- at a method's entry -/
theorem zm_args_len (ad : Nat → Nat) : ∀ as : List Value, (lg_sl (as.map (zw_v ad))).length = (zm_args as).length
  | [] => rfl
  | v :: r => by
    have ih := zm_args_len ad r
    unfold lg_sl at ih ⊢
    rw [List.map_cons, List.flatMap_cons, List.length_append, ih, zw_v_cat]
    rw [show zm_args (v :: r) = cond (Nat.beq v.category 2) (some v :: none :: zm_args r) (some v :: zm_args r) from rfl]
    rcases lv_cat v with hc | hc
    · rw [hc]
      show 1 + (zm_args r).length = (some v :: zm_args r).length
      simp [Nat.add_comm]
    · rw [hc]
      show 2 + (zm_args r).length = (some v :: none :: zm_args r).length
      simp
      omega
theorem zm_args_in (ad : Nat → Nat) : ∀ (as : List Value) (b i : Nat) (v : Value), zm_gl (zm_args as) i = some v → (b + i, zw_v ad v) ∈ lv_args b (as.map (zw_v ad))
  | [], b, i, v, h => by cases i <;> cases h
  | w :: r, b, i, v, h => by
    rw [List.map_cons]
    unfold lv_args
    rw [zw_v_cat]
    rw [show zm_args (w :: r) = cond (Nat.beq w.category 2) (some w :: none :: zm_args r) (some w :: zm_args r) from rfl] at h
    rcases lv_cat w with hc | hc
    · rw [hc] at h ⊢
      rw [if_neg (by decide)]
      cases i with
      | zero =>
        cases h
        exact List.mem_cons_self
      | succ i =>
        have := zm_args_in ad r (b + 1) i v h
        rw [show b + 1 + i = b + (i + 1) by omega] at this
        exact List.mem_cons_of_mem _ this
    · rw [hc] at h ⊢
      rw [if_pos rfl]
      match i, h with
      | 0, h =>
        cases h
        exact List.mem_cons_self
      | 1, h => cases h
      | i + 2, h =>
        have := zm_args_in ad r (b + 2) i v h
        rw [show b + 2 + i = b + (i + 2) by omega] at this
        exact List.mem_cons_of_mem _ this
theorem zm_pad_gl {l : zm_L} {n i : Nat} {v : Value} (h : zm_gl (zm_pad l n) i = some v) : zm_gl l i = some v := by
  unfold zm_pad zm_gl at h
  unfold zm_gl
  by_cases hi : i < l.length
  · rw [List.getElem?_append_left hi] at h
    exact h
  · rw [List.getElem?_append_right (by omega)] at h
    cases hq : (List.replicate (n - l.length) (none : Option Value))[i - l.length]? with
    | none => rw [hq] at h; cases h
    | some x =>
      rw [hq] at h
      have := List.mem_of_getElem? hq
      rw [List.mem_replicate] at this
      rw [this.2] at h
      cases h
theorem zw_lh.entry {ad : Nat → Nat} {c : Nat} {as : List Value} (h : zm_fit c as = true) : zw_lh ad ((lg_sl (as.map (zw_v ad)) ++ List.replicate (zm_ml c - (lg_sl (as.map (zw_v ad))).length) Slot.unset).toArray) (zm_ml c) (zm_ent c as) := by
  have hl := lv_entry (as.map (zw_v ad)) (n := zm_ml c) (by rw [zm_args_len]; exact Nat.le_of_ble_eq_true h)
  refine ⟨hl.1, hl.2.1, fun i v hv => ?_⟩
  have := zm_args_in ad as 0 i v (zm_pad_gl hv)
  rw [Nat.zero_add] at this
  exact hl.2.2 (i, zw_v ad v) this
