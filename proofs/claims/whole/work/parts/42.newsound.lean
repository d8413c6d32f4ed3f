/-! soundness of the constructors' machine -/
def zp_v (base : Nat) : Value → Value := zw_v (fun k => base + k)
def zp_c (base : Nat) (cA cJ cS : ClassId) (c : zp_C) : va_E := match c with
  | .inl q => .inr (q.1, q.2.map (zp_v base))
  | .inr (.inl xs) => .inl (cA, xs.length, .inl (fun j => xs.getD j 0))
  | .inr (.inr (.inl n)) => .inl (cJ, n, .inr (.inl (fun _ => 0)))
  | .inr (.inr (.inr rs)) => .inl (cS, rs.length, .inr (.inr (.inr (.inr (fun j => (rs.getD j none).map (fun k => base + k))))))
def zp (base : Nat) (cA cJ cS : ClassId) (hp : List zp_C) : va_W := hp.mapIdx (fun k c => (base + k, zp_c base cA cJ cS c))
section ZP
variable {base : Nat} {cA cJ cS : ClassId} {hp : List zp_C}
theorem zp_at {k : Nat} {c : zp_C} (h : hp[k]? = some c) : (zp base cA cJ cS hp)[k]? = some (base + k, zp_c base cA cJ cS c) := by
  unfold zp
  rw [List.getElem?_mapIdx, h]
  rfl
theorem zp_at_inv {k : Nat} {q : Nat × va_E} (h : (zp base cA cJ cS hp)[k]? = some q) : ∃ c, hp[k]? = some c ∧ q = (base + k, zp_c base cA cJ cS c) := by
  unfold zp at h
  rw [List.getElem?_mapIdx] at h
  cases hc : hp[k]? with
  | none => rw [hc] at h; cases h
  | some c => rw [hc] at h; cases h; exact ⟨c, rfl, rfl⟩
theorem zp_len_eq : (zp base cA cJ cS hp).length = hp.length := by
  unfold zp
  exact List.length_mapIdx
theorem zp_set {k : Nat} {c : zp_C} : (zp base cA cJ cS hp).set k (base + k, zp_c base cA cJ cS c) = zp base cA cJ cS (hp.set k c) := by
  apply List.ext_getElem?
  intro j
  by_cases hj : j = k
  · subst hj
    by_cases hl : j < hp.length
    · rw [List.getElem?_set_self (by rw [zp_len_eq]; exact hl), zp_at (List.getElem?_set_self hl)]
    · rw [List.getElem?_eq_none (by rw [List.length_set, zp_len_eq]; omega), List.getElem?_eq_none (by rw [zp_len_eq, List.length_set]; omega)]
  · rw [List.getElem?_set_ne (Ne.symm hj)]
    unfold zp
    rw [List.getElem?_mapIdx, List.getElem?_mapIdx, List.getElem?_set_ne (Ne.symm hj)]
theorem zp_push {c : zp_C} : zp base cA cJ cS (hp ++ [c]) = zp base cA cJ cS hp ++ [(base + hp.length, zp_c base cA cJ cS c)] := by
  apply List.ext_getElem?
  intro j
  by_cases hl : j < hp.length
  · rw [List.getElem?_append_left (by rw [zp_len_eq]; exact hl)]
    unfold zp
    rw [List.getElem?_mapIdx, List.getElem?_mapIdx, List.getElem?_append_left hl]
  · rw [List.getElem?_append_right (by rw [zp_len_eq]; omega), zp_len_eq]
    unfold zp
    rw [List.getElem?_mapIdx, List.getElem?_append_right (by omega)]
    by_cases hj : j = hp.length
    · subst hj
      simp
    · rw [List.getElem?_eq_none (by simp; omega), List.getElem?_eq_none (by simp; omega)]
      rfl
theorem zp_D {A : Nat → Prop} (hA : ∀ q, base ≤ q → A q) : va_D A (zp base cA cJ cS hp) := by
  refine ⟨fun i j p q hi hj hpq => ?_, fun k q hq => ?_⟩
  · obtain ⟨c1, -, rfl⟩ := zp_at_inv hi
    obtain ⟨c2, -, rfl⟩ := zp_at_inv hj
    have : base + i = base + j := hpq
    omega
  · obtain ⟨c1, -, rfl⟩ := zp_at_inv hq
    exact hA _ (Nat.le_add_right _ _)
theorem zp_sl_set {k : Nat} {c c' : zp_C} (h : hp[k]? = some c) (hs : zp_sz c' = zp_sz c) : zp_sl (hp.set k c') = zp_sl hp := by
  unfold zp_sl
  have e : (hp.set k c').map zp_sz = hp.map zp_sz := by
    apply List.ext_getElem?
    intro j
    rw [List.getElem?_map, List.getElem?_map]
    by_cases hj : j = k
    · subst hj
      rw [List.getElem?_set_self (List.getElem?_eq_some_iff.mp h).1, h]
      show some (zp_sz c') = some (zp_sz c)
      rw [hs]
    · rw [List.getElem?_set_ne (Ne.symm hj)]
  rw [e]
theorem zp_sl_push {c : zp_C} : zp_sl (hp ++ [c]) = zp_sl hp + zp_sz c := by
  unfold zp_sl
  rw [List.map_append, List.sum_append]
  simp
end ZP
def zp_N (s : State) : Prop := (∀ w ∈ zp_nest, va_Nw w s) ∧ va_AO "EndTooLong$Shelf" s
theorem zp_N.warm {s U : State} (h : zp_N s) (hW : s.WarmedH U.vm) : zp_N U := by
  refine ⟨fun w hw => ?_, h.2.moved hW.alike⟩
  have h1 := h.1 w hw
  unfold zp_nest at hw
  simp only [List.mem_cons, List.not_mem_nil, or_false] at hw
  rcases hw with rfl | rfl | rfl | rfl | rfl | rfl | rfl <;> exact va_Nw.warmM hW h1
theorem zp_N.call {U : State} {g : JFrame} {mk : MethodId} {a : Array Value} (h : zp_N U) : zp_N (U.calling g mk a) := by
  refine ⟨fun w hw => ?_, h.2.moved (u := U) (U := U.calling g mk a) (Vm.Alike.refl U.vm)⟩
  have h1 := h.1 w hw
  unfold zp_nest at hw
  simp only [List.mem_cons, List.not_mem_nil, or_false] at hw
  rcases hw with rfl | rfl | rfl | rfl | rfl | rfl | rfl <;> exact va_Nw.same (U := U.calling g mk a) rfl rfl h1
