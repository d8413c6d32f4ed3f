/-! soundness of the constructors' machine -/
def zp_v (base : Nat) : Value → Value := zw_v (fun k => base + k)
def zp_c (base : Nat) (cA cJ cS : ClassId) (c : zp_C) : va_E := match c with
  | .inl q => .inr (q.1, q.2.map (zp_v base))
  | .inr (.inl xs) => .inl (cA, xs.length, .inl (fun j => xs.getD j 0))
  | .inr (.inr (.inl n)) => .inl (cJ, n, .inr (.inl (fun _ => 0)))
  | .inr (.inr (.inr rs)) => .inl (cS, rs.length, .inr (.inr (.inr (.inr (fun j => (rs.getD j none).map (fun k => base + k))))))
def zp (base : Nat) (cA cJ cS : ClassId) (hp : List zp_C) : va_W := hp.mapIdx (fun k c => (base + k, zp_c base cA cJ cS c))
section ZP
variable {base : Nat} {cA cJ cS : ClassId} {hp : List zp_C}
theorem zp_at {k : Nat} {c : zp_C} (h : hp[k]? = some c) : (zp base cA cJ cS hp)[k]? = some (base + k, zp_c base cA cJ cS c) := by
  unfold zp
  rw [List.getElem?_mapIdx, h]
  rfl
theorem zp_at_inv {k : Nat} {q : Nat × va_E} (h : (zp base cA cJ cS hp)[k]? = some q) : ∃ c, hp[k]? = some c ∧ q = (base + k, zp_c base cA cJ cS c) := by
  unfold zp at h
  rw [List.getElem?_mapIdx] at h
  cases hc : hp[k]? with
  | none => rw [hc] at h; cases h
  | some c => rw [hc] at h; cases h; exact ⟨c, rfl, rfl⟩
theorem zp_len_eq : (zp base cA cJ cS hp).length = hp.length := by
  unfold zp
  exact List.length_mapIdx
theorem zp_set {k : Nat} {c : zp_C} : (zp base cA cJ cS hp).set k (base + k, zp_c base cA cJ cS c) = zp base cA cJ cS (hp.set k c) := by
  apply List.ext_getElem?
  intro j
  by_cases hj : j = k
  · subst hj
    by_cases hl : j < hp.length
    · rw [List.getElem?_set_self (by rw [zp_len_eq]; exact hl), zp_at (List.getElem?_set_self hl)]
    · rw [List.getElem?_eq_none (by rw [List.length_set, zp_len_eq]; omega), List.getElem?_eq_none (by rw [zp_len_eq, List.length_set]; omega)]
  · rw [List.getElem?_set_ne (Ne.symm hj)]
    unfold zp
    rw [List.getElem?_mapIdx, List.getElem?_mapIdx, List.getElem?_set_ne (Ne.symm hj)]
theorem zp_push {c : zp_C} : zp base cA cJ cS (hp ++ [c]) = zp base cA cJ cS hp ++ [(base + hp.length, zp_c base cA cJ cS c)] := by
  apply List.ext_getElem?
  intro j
  by_cases hl : j < hp.length
  · rw [List.getElem?_append_left (by rw [zp_len_eq]; exact hl)]
    unfold zp
    rw [List.getElem?_mapIdx, List.getElem?_mapIdx, List.getElem?_append_left hl]
  · rw [List.getElem?_append_right (by rw [zp_len_eq]; omega), zp_len_eq]
    unfold zp
    rw [List.getElem?_mapIdx, List.getElem?_append_right (by omega)]
    by_cases hj : j = hp.length
    · subst hj
      simp
    · rw [List.getElem?_eq_none (by simp; omega), List.getElem?_eq_none (by simp; omega)]
      rfl
theorem zp_D {A : Nat → Prop} (hA : ∀ q, base ≤ q → A q) : va_D A (zp base cA cJ cS hp) := by
  refine ⟨fun i j p q hi hj hpq => ?_, fun k q hq => ?_⟩
  · obtain ⟨c1, -, rfl⟩ := zp_at_inv hi
    obtain ⟨c2, -, rfl⟩ := zp_at_inv hj
    have : base + i = base + j := hpq
    omega
  · obtain ⟨c1, -, rfl⟩ := zp_at_inv hq
    exact hA _ (Nat.le_add_right _ _)
theorem zp_sl_set {k : Nat} {c c' : zp_C} (h : hp[k]? = some c) (hs : zp_sz c' = zp_sz c) : zp_sl (hp.set k c') = zp_sl hp := by
  unfold zp_sl
  have e : (hp.set k c').map zp_sz = hp.map zp_sz := by
    apply List.ext_getElem?
    intro j
    rw [List.getElem?_map, List.getElem?_map]
    by_cases hj : j = k
    · subst hj
      rw [List.getElem?_set_self (List.getElem?_eq_some_iff.mp h).1, h]
      show some (zp_sz c') = some (zp_sz c)
      rw [hs]
    · rw [List.getElem?_set_ne (Ne.symm hj)]
  rw [e]
theorem zp_sl_push {c : zp_C} : zp_sl (hp ++ [c]) = zp_sl hp + zp_sz c := by
  unfold zp_sl
  rw [List.map_append, List.sum_append]
  simp
end ZP
def zp_N (s : State) : Prop := (∀ w ∈ zp_nest, va_Nw w s) ∧ va_AO "EndTooLong$Shelf" s
theorem zp_N.warm {s U : State} (h : zp_N s) (hW : s.WarmedH U.vm) : zp_N U := by
  refine ⟨fun w hw => ?_, h.2.moved hW.alike⟩
  have h1 := h.1 w hw
  unfold zp_nest at hw
  simp only [List.mem_cons, List.not_mem_nil, or_false] at hw
  rcases hw with rfl | rfl | rfl | rfl | rfl | rfl | rfl <;> exact va_Nw.warmM hW h1
theorem zp_N.call {U : State} {g : JFrame} {mk : MethodId} {a : Array Value} (h : zp_N U) : zp_N (U.calling g mk a) := by
  refine ⟨fun w hw => ?_, h.2.moved (u := U) (U := U.calling g mk a) (Vm.Alike.refl U.vm)⟩
  have h1 := h.1 w hw
  unfold zp_nest at hw
  simp only [List.mem_cons, List.not_mem_nil, or_false] at hw
  rcases hw with rfl | rfl | rfl | rfl | rfl | rfl | rfl <;> exact va_Nw.same (U := U.calling g mk a) rfl rfl h1
def zp_W (l : Launch) (base : Nat) (cA cJ cS : ClassId) (D : va_G) (F mi pc : Nat) (L : zm_L) (S : List Value) (hp : List zp_C) (res : zp_S) : Prop :=
  ∀ {p : Program} {e : Env} {R : Room} {s : State} {m : MethodId} {args : Array Value} {below : List Frame} {meth : Method} {c : Code} {H : Heap} {locs : List Loc} {cells slots : Nat} {Q : State → Prop} {ls : Array Slot},
    p.tables.exec = Jvm.exec → c.code = zp_b mi → c.maxLocals = zp_ml mi → s.vm.findClass (zp_own mi) = some m.cls → (∀ w ∈ lw_g, w.before args s = true) → (mi < zp_NM → meth.name = "<init>") →
    va_K D vwCl (zw_ty cA cJ cS) s → zp_N s → base ≤ s.heap.size → (F + 1 ≤ R.frames ∧ 40 * F + 40 ≤ R.locals) →
    (cells + (res.2.2.2.length - hp.length) ≤ R.cells ∧ slots + (zp_sl res.2.2.2 - zp_sl hp) ≤ R.slots) →
    s.heap.size + cells = base + hp.length → va_P D vwCl (zp base cA cJ cS hp) H → va_S (fun q => base ≤ q) s.heap H locs → zw_lh (fun k => base + k) ls (zp_ml mi) L →
    (∀ (H' : Heap) (locs' : List Loc) (ls' : Array Slot), va_P D vwCl (zp base cA cJ cS res.2.2.2) H' → va_S (fun q => base ≤ q) s.heap H' locs' → zw_lh (fun k => base + k) ls' (zp_ml mi) res.2.1 →
      W p l e R s m args below meth c H' locs' (cells + (res.2.2.2.length - hp.length)) (slots + (zp_sl res.2.2.2 - zp_sl hp)) Q (F0 m res.1 ls' (res.2.2.1.map (zp_v base)))) →
    W p l e R s m args below meth c H locs cells slots Q (F0 m pc ls (S.map (zp_v base)))
theorem zp_chk_dec {mi pc : Nat} {e : ZI} (h : zp_chk mi pc e = true) : decode (zp_b mi) pc = .ok (e.1, e.2.1) := by
  unfold zp_chk at h
  rw [Bool.and_eq_true] at h
  exact of_decide_eq_true h.1
def zp_le (a b : List zp_C) : Prop := a.length ≤ b.length ∧ zp_sl a ≤ zp_sl b
theorem zp_le_push {a b : List zp_C} {c : zp_C} (h : zp_le (a ++ [c]) b) : zp_le a b ∧ a.length + 1 ≤ b.length ∧ zp_sl a + zp_sz c ≤ zp_sl b := by
  obtain ⟨h1, h2⟩ := h
  rw [zp_sl_push] at h2
  rw [List.length_append] at h1
  simp only [List.length_cons, List.length_nil] at h1
  exact ⟨⟨by omega, by omega⟩, by omega, by omega⟩
theorem zp_le_set {a b : List zp_C} {k : Nat} {c c' : zp_C} (hc : a[k]? = some c) (hs : zp_sz c' = zp_sz c) (h : zp_le (a.set k c') b) : zp_le a b := by
  obtain ⟨h1, h2⟩ := h
  rw [zp_sl_set hc hs] at h2
  rw [List.length_set] at h1
  exact ⟨h1, h2⟩
section ZPS
variable {l : Launch} {base : Nat} {cA cJ cS : ClassId} {D : va_G}
theorem zp_pushP {s : State} {hp : List zp_C} {H H1 : Heap} {locs : List Loc} {c : zp_C} (hz : H.size = base + hp.length) (hP : va_P D vwCl (zp base cA cJ cS hp) H) (hS : va_S (fun q => base ≤ q) s.heap H locs)
    (h1 : H1.size = base + hp.length + 1) (h2 : ∀ q, q < base + hp.length → H1[q]? = H[q]?) (h3 : va_at D vwCl (base + hp.length, zp_c base cA cJ cS c) H1) :
    H1.size = base + (hp ++ [c]).length ∧ va_P D vwCl (zp base cA cJ cS (hp ++ [c])) H1 ∧ va_S (fun q => base ≤ q) s.heap H1 locs := by
  refine ⟨by rw [h1, List.length_append]; rfl, ?_, ?_⟩
  · rw [zp_push]
    refine (hP.kept (fun k x hx => h2 x.1 (by rw [← hz]; exact (hP k x hx).lt))).app (fun k x hx => ?_)
    have hz0 : k < 1 := (List.getElem?_eq_some_iff.mp hx).1
    rw [show k = 0 by omega] at hx
    cases hx
    exact h3
  · exact ⟨Nat.le_trans hS.1 (by omega), fun x q1 q2 => (h2 x (by rw [← hz]; exact Nat.lt_of_lt_of_le q1 hS.1)).trans (hS.2.1 x q1 q2), hS.2.2⟩
theorem zp_szW {p : Program} {e : Env} {R : Room} {s : State} {m : MethodId} {args : Array Value} {below : List Frame} {meth : Method} {c : Code} {H : Heap} {locs : List Loc} {cells slots : Nat} {Q : State → Prop} {g : JFrame} {hp : List zp_C} (hnum : s.heap.size + cells = base + hp.length) (hP : va_P D vwCl (zp base cA cJ cS hp) H) (hS : va_S (fun q => base ≤ q) s.heap H locs) (hA : base ≤ s.heap.size)
    (k : H.size = base + hp.length → W p l e R s m args below meth c H locs cells slots Q g) : W p l e R s m args below meth c H locs cells slots Q g := by
  intro T hT X
  have h1 : T.heap.size ≤ s.heap.size + cells := X.same.2.2.1
  have h2 : base + hp.length ≤ H.size := by
    cases hl : hp.length with
    | zero => have := hS.1; omega
    | succ n =>
      have hn : n < hp.length := by omega
      have := (hP n _ (zp_at (List.getElem?_eq_getElem hn))).lt
      have h3 : base + n < H.size := this
      omega
  rw [hT] at h1
  exact k (by omega) T hT X
theorem zp_arrI {H1 : Heap} {q : Nat} {n : Nat} (h : H1[q]? = some (arrV cA n (fun _ => defaultValue (newarray.typeOf .int)))) : va_at D vwCl (q, zp_c base cA cJ cS (.inr (.inl (List.replicate n 0)))) H1 := by
  show H1[q]? = some (vp_cell cA ((List.replicate n (0 : Int32)).length, .inl (fun j => (List.replicate n (0 : Int32)).getD j 0)))
  rw [List.length_replicate, vp_cell_i, h]
  have e : (fun j => Value.int ((List.replicate n (0 : Int32)).getD j 0)) = (fun _ => Value.int 0) := by
    funext j
    rw [List.getD_eq_getElem?_getD]
    by_cases hj : j < n
    · rw [List.getElem?_replicate, if_pos hj]; rfl
    · rw [List.getElem?_replicate, if_neg hj]; rfl
  rw [e]
  rfl
theorem zp_arrQ {H1 : Heap} {q : Nat} {n : Nat} (h : H1[q]? = some (arrV cS n (fun _ => .null))) : va_at D vwCl (q, zp_c base cA cJ cS (.inr (.inr (.inr (List.replicate n none))))) H1 := by
  show H1[q]? = some (vp_cell cS ((List.replicate n (none : Option Nat)).length, .inr (.inr (.inr (.inr (fun j => ((List.replicate n (none : Option Nat)).getD j none).map (fun k => base + k)))))))
  rw [List.length_replicate, vp_cell_q, h]
  have e : (fun j => va_rf (((List.replicate n (none : Option Nat)).getD j none).map (fun k => base + k))) = (fun _ => Value.null) := by
    funext j
    rw [List.getD_eq_getElem?_getD]
    by_cases hj : j < n
    · rw [List.getElem?_replicate, if_pos hj]; rfl
    · rw [List.getElem?_replicate, if_neg hj]; rfl
  rw [e]
theorem zp_dflt_all : ∀ ci, ci < 11 → ∀ k, k < zm_nF ci → ∀ C T N, vwCl[ci]? = some (C, T, N) → ∀ ty, parseFieldDescriptor (T k).2.2.1 = some ty → some (zp_v base (cond (zm_fr ci k) .null (.int 0))) = some (defaultValue ty) := by
  intro ci hci k hk C T N hv ty hty
  have h1 : ∀ ci, ci < 11 → ∀ k, k < zm_nF ci → (match vwCl[ci]? with | some (_, T, _) => (match parseFieldDescriptor (T k).2.2.1 with | some ty => decide ((cond (zm_fr ci k) Value.null (.int 0)) = defaultValue ty) | none => true) | none => true) = true := by decide +kernel
  have h2 := h1 ci hci k hk
  rw [hv] at h2
  dsimp only at h2
  rw [hty] at h2
  have h3 := of_decide_eq_true h2
  rw [← h3]
  cases zm_fr ci k <;> rfl
theorem zp_dflt {ci j : Nat} {C : String} {T : u_T} {N : Nat} {ty : FieldType} (hv : vwCl[ci]? = some (C, T, N)) (hj : j < zm_nF ci) (hp1 : parseFieldDescriptor (T j).2.2.1 = some ty) : defaultValue ty = (Option.map (zp_v base) (Option.map (fun k => cond (zm_fr ci k) Value.null (.int 0)) (some j))).getD .null := by
  have hci : ci < 11 := by
    have := (List.getElem?_eq_some_iff.mp hv).1
    exact this
  have := zp_dflt_all (base := base) ci hci j hj C T N hv ty hp1
  exact (Option.some.inj this).symm
set_option maxHeartbeats 2000000 in
set_option maxRecDepth 100000 in
theorem zp_step {F mi pc : Nat} {L : zm_L} {S : List Value} {hp : List zp_C} {en : ZI} {q : zp_S} {res : zp_S} (hmi : mi < zp_NM + 1) (ht : zp_tab mi pc = some en) (ha : zp_act mi pc L S hp en = some (.inl q))
    (hle : zp_le q.2.2.2 res.2.2.2) (hW : zp_W l base cA cJ cS D F mi q.1 q.2.1 q.2.2.1 q.2.2.2 res) : zp_le hp res.2.2.2 ∧ zp_W l base cA cJ cS D F mi pc L S hp res := by
  have hck := zp_checked hmi ht
  have hd := zp_chk_dec hck
  obtain ⟨i, ln, aux, v, sw⟩ := en
  unfold zp_act at ha
  unfold zp_chk at hck
  rw [Bool.and_eq_true] at hck
  replace hck := hck.2
  dsimp only at hd
  have hne : ∀ {P : Prop}, (none : Option zp_A) = some (.inl q) → P := fun q => by cases q
  cases i
  case iconst n =>
    (try dsimp only at ha)
    (try dsimp only at hck)
    cases ha
    refine ⟨hle, ?_⟩
    intro p e R s m args below meth c H locs cells slots Q ls hx hb hml hown hts hin hK hN hA hR hcs hnum hP hS hL hret
    rw [Bool.and_eq_true] at hck
    cases zc_beq hck.1
    have hv := of_decide_eq_true hck.2
    subst hv
    exact lv_iconst hx hb hd rfl (hW hx hb hml hown hts hin hK hN hA hR hcs hnum hP hS hL hret)
  case bipush n =>
    (try dsimp only at ha)
    (try dsimp only at hck)
    cases ha
    refine ⟨hle, ?_⟩
    intro p e R s m args below meth c H locs cells slots Q ls hx hb hml hown hts hin hK hN hA hR hcs hnum hP hS hL hret
    rw [Bool.and_eq_true] at hck
    cases zc_beq hck.1
    have hv := of_decide_eq_true hck.2
    subst hv
    exact lv_bipush hx hb hd rfl (hW hx hb hml hown hts hin hK hN hA hR hcs hnum hP hS hL hret)
  case sipush n =>
    (try dsimp only at ha)
    (try dsimp only at hck)
    cases ha
    refine ⟨hle, ?_⟩
    intro p e R s m args below meth c H locs cells slots Q ls hx hb hml hown hts hin hK hN hA hR hcs hnum hP hS hL hret
    rw [Bool.and_eq_true] at hck
    cases zc_beq hck.1
    have hv := of_decide_eq_true hck.2
    subst hv
    exact lv_sipush hx hb hd rfl (hW hx hb hml hown hts hin hK hN hA hR hcs hnum hP hS hL hret)
  case ldc n =>
    (try dsimp only at ha)
    (try dsimp only at hck)
    cases ha
    refine ⟨hle, ?_⟩
    intro p e R s m args below meth c H locs cells slots Q ls hx hb hml hown hts hin hK hN hA hR hcs hnum hP hS hL hret
    split at hck
    · rename_i q x
      rw [Bool.and_eq_true] at hck
      cases zc_beq hck.1
      exact lv_ldc hx hb hown (hts _ (zc_w_in hck.2)) hd (hW hx hb hml hown hts hin hK hN hA hR hcs hnum hP hS hL hret)
    · cases hck
  case aload_n n =>
    (try dsimp only at ha)
    (try dsimp only at hck)
    split at ha
    · rename_i x hgl
      cases ha
      refine ⟨hle, ?_⟩
      intro p e R s m args below meth c H locs cells slots Q ls hx hb hml hown hts hin hK hN hA hR hcs hnum hP hS hL hret
      cases zc_beq hck
      exact lv_aload_n hx hb hd rfl (hL.2.2 _ _ hgl) (hW hx hb hml hown hts hin hK hN hA hR hcs hnum hP hS hL hret)
    · exact hne ha
  case iload_n n =>
    (try dsimp only at ha)
    (try dsimp only at hck)
    split at ha
    · rename_i x hgl
      cases ha
      refine ⟨hle, ?_⟩
      intro p e R s m args below meth c H locs cells slots Q ls hx hb hml hown hts hin hK hN hA hR hcs hnum hP hS hL hret
      cases zc_beq hck
      exact lv_iload_n hx hb hd rfl (hL.2.2 _ _ hgl) (hW hx hb hml hown hts hin hK hN hA hR hcs hnum hP hS hL hret)
    · exact hne ha
  case istore_n n =>
    (try dsimp only at ha)
    (try dsimp only at hck)
    split at ha
    · rename_i x rr
      cases hok : zm_okL L n with
      | false => rw [hok] at ha; exact hne ha
      | true =>
        rw [hok] at ha
        cases ha
        refine ⟨hle, ?_⟩
        intro p e R s m args below meth c H locs cells slots Q ls hx hb hml hown hts hin hK hN hA hR hcs hnum hP hS hL hret
        rw [Bool.and_eq_true] at hck
        cases zc_beq hck.1
        have hn := Nat.le_of_ble_eq_true hck.2
        exact lv_istore_n hx hb hd rfl hL.has hn rfl (fun ls' hl' => hW hx hb hml hown hts hin hK hN hA hR hcs hnum hP hS (zw_lh.set1 (x := .int x) hok hl') hret)
    · exact hne ha
  case astore_n n =>
    (try dsimp only at ha)
    (try dsimp only at hck)
    split at ha
    · rename_i x rr
      cases hok : zm_okL L n with
      | false => rw [hok] at ha; exact hne ha
      | true =>
        rw [hok] at ha
        cases ha
        refine ⟨hle, ?_⟩
        intro p e R s m args below meth c H locs cells slots Q ls hx hb hml hown hts hin hK hN hA hR hcs hnum hP hS hL hret
        rw [Bool.and_eq_true] at hck
        cases zc_beq hck.1
        have hn := Nat.le_of_ble_eq_true hck.2
        exact lv_astore_n hx hb hd rfl hL.has hn rfl (fun ls' hl' => hW hx hb hml hown hts hin hK hN hA hR hcs hnum hP hS (zw_lh.set1 (x := .ref x) hok hl') hret)
    · exact hne ha
  case iinc n k =>
    (try dsimp only at ha)
    (try dsimp only at hck)
    split at ha
    · rename_i x w hgl
      cases hok : zm_okL L n with
      | false => rw [hok] at ha; exact hne ha
      | true =>
        rw [hok] at ha
        cases ha
        refine ⟨hle, ?_⟩
        intro p e R s m args below meth c H locs cells slots Q ls hx hb hml hown hts hin hK hN hA hR hcs hnum hP hS hL hret
        rw [Bool.and_eq_true, Bool.and_eq_true] at hck
        cases zc_beq hck.1.1
        have hn := Nat.le_of_ble_eq_true hck.2
        have hw : w = Int32.ofInt k := by
          have := of_decide_eq_true hck.1.2
          exact Value.int.inj this
        obtain ⟨q, hqk⟩ := List.getElem?_of_mem (zw_l_in (ad := fun k => base + k) hgl)
        exact lv_iinc hx hb hd hL.has hqk (by rw [hw]) hn rfl (fun ls' hl' => hW hx hb hml hown hts hin hK hN hA hR hcs hnum hP hS (zw_lh.set1 (x := .int (x + w)) hok hl') hret)
    · exact hne ha
  case iadd =>
    (try dsimp only at ha)
    (try dsimp only at hck)
    split at ha
    · cases ha
      refine ⟨hle, ?_⟩
      intro p e R s m args below meth c H locs cells slots Q ls hx hb hml hown hts hin hK hN hA hR hcs hnum hP hS hL hret
      cases zc_beq hck
      exact lv_iadd hx hb hd (hW hx hb hml hown hts hin hK hN hA hR hcs hnum hP hS hL hret)
    · exact hne ha
  case imul =>
    (try dsimp only at ha)
    (try dsimp only at hck)
    split at ha
    · cases ha
      refine ⟨hle, ?_⟩
      intro p e R s m args below meth c H locs cells slots Q ls hx hb hml hown hts hin hK hN hA hR hcs hnum hP hS hL hret
      cases zc_beq hck
      exact lv_imul hx hb hd (hW hx hb hml hown hts hin hK hN hA hR hcs hnum hP hS hL hret)
    · exact hne ha
  case dup =>
    (try dsimp only at ha)
    (try dsimp only at hck)
    split at ha
    · cases ha
      refine ⟨hle, ?_⟩
      intro p e R s m args below meth c H locs cells slots Q ls hx hb hml hown hts hin hK hN hA hR hcs hnum hP hS hL hret
      cases zc_beq hck
      exact lv_dup hx hb hd rfl (hW hx hb hml hown hts hin hK hN hA hR hcs hnum hP hS hL hret)
    · exact hne ha
  case goto off =>
    (try dsimp only at ha)
    (try dsimp only at hck)
    split at ha
    · cases ha
      refine ⟨hle, ?_⟩
      intro p e R s m args below meth c H locs cells slots Q ls hx hb hml hown hts hin hK hN hA hR hcs hnum hP hS hL hret
      (try dsimp only at hck)
      rw [Bool.and_eq_true] at hck
      cases zc_beq hck.1
      exact lv_goto hx hb hd (of_decide_eq_true hck.2) (hW hx hb hml hown hts hin hK hN hA hR hcs hnum hP hS hL hret)
    · exact hne ha
  case if_icmp cd off =>
    (try dsimp only at ha)
    (try dsimp only at hck)
    split at ha
    · rename_i t y x rr
      cases ha
      refine ⟨hle, ?_⟩
      intro p e R s m args below meth c H locs cells slots Q ls hx hb hml hown hts hin hK hN hA hR hcs hnum hP hS hL hret
      (try dsimp only at hck)
      rw [Bool.and_eq_true] at hck
      cases zc_beq hck.1
      refine lv_icmpc hx hb hd (of_decide_eq_true hck.2) (fun hc => ?_) (fun hc => ?_)
      · have hW2 := hW hx hb hml hown hts hin hK hN hA hR hcs hnum hP hS hL hret
        rw [hc] at hW2
        exact hW2
      · have hW2 := hW hx hb hml hown hts hin hK hN hA hR hcs hnum hP hS hL hret
        rw [hc] at hW2
        exact hW2
    · exact hne ha
  case new n =>
    (try dsimp only at ha)
    (try dsimp only at hck)
    split at ha
    · rename_i ci p1 p2 p3
      cases ha
      obtain ⟨hle0, hle1, hle2⟩ := zp_le_push hle
      refine ⟨hle0, ?_⟩
      intro p e R s m args below meth c H locs cells slots Q ls hx hb hml hown hts hin hK hN hA hR hcs hnum hP hS hL hret
      (try dsimp only at hck)
      rw [Bool.and_eq_true] at hck
      cases zc_beq hck.1
      have hv := hck.2
      split at hv
      · rename_i Cn Tn Nn hvw
        simp only [Bool.and_eq_true] at hv
        obtain ⟨⟨⟨z1, z2⟩, z3⟩, z4⟩ := hv
        have z1 := zc_beq z1
        subst z1
        have hKn := hK.1 ci _ hvw
        obtain ⟨ty0, hty, -⟩ := zv_ty hvw
        have hz2 : zp_sz (.inl (ci, zp_df ci)) = zm_nF ci := rfl
        rw [hz2] at hle2
        refine zp_szW hnum hP hS hA (fun hz => ?_)
        refine W.newcK hx hb hown (hts _ (zc_w_in z2)) (hts _ (zc_w_in z3)) (hts _ (zc_w_in z4)) rfl hd (by omega) (by omega) hKn.2.1 hz fun H1 kC hkC e1 z1 o1 => ?_
        have hdf : ∀ j, j < zm_nF ci → defaultValue (ty0 j) = vp_V ((zp_df ci).map (zp_v base)) j := by
          intro j hj
          have hp1 := hty j hj
          unfold vp_V zp_df
          rw [List.getD_eq_getElem?_getD, List.getElem?_map, List.getElem?_map, List.getElem?_range hj]
          exact zp_dflt hvw hj hp1
        obtain ⟨q1, q2, q3⟩ := zp_pushP (c := .inl (ci, zp_df ci)) hz hP hS z1 o1 ⟨_, hvw, (u_born ty0 hts (zv_in hvw) hKn hkC e1 hty).to hdf⟩
        have hW2 := hW hx hb hml hown hts hin hK hN hA hR (cells := cells + 1) (slots := slots + zm_nF ci) (by rw [List.length_append, zp_sl_push, hz2]; simp only [List.length_cons, List.length_nil]; omega) (by rw [List.length_append]; simp only [List.length_cons, List.length_nil]; omega) q2 q3 hL (by
          intro H' locs' ls' r2 r3 r4
          have := hret H' locs' ls' r2 r3 r4
          rw [List.length_append, zp_sl_push, hz2]
          simp only [List.length_cons, List.length_nil]
          rw [show cells + 1 + (res.2.2.2.length - (hp.length + (0 + 1))) = cells + (res.2.2.2.length - hp.length) by omega, show slots + zm_nF ci + (zp_sl res.2.2.2 - (zp_sl hp + zm_nF ci)) = slots + (zp_sl res.2.2.2 - zp_sl hp) by omega]
          exact this)
        exact hW2
      · cases hv
    · exact hne ha
  case newarray tt =>
    (try dsimp only at ha)
    (try dsimp only at hck)
    (try dsimp only at hck)
    split at hck
    · rename_i pp
      rw [Bool.and_eq_true] at hck
      cases zc_beq hck.1
      split at ha
      · rename_i n rr
        cases hg : (!(decide (n < 0)) && Nat.ble n.toNatClampNeg 1000) with
        | false => rw [hg] at ha; exact hne ha
        | true =>
          rw [hg] at ha
          cases ha
          obtain ⟨hle0, hle1, hle2⟩ := zp_le_push hle
          refine ⟨hle0, ?_⟩
          intro p e R s m args below meth c H locs cells slots Q ls hx hb hml hown hts hin hK hN hA hR hcs hnum hP hS hL hret
          rw [Bool.and_eq_true, Bool.not_eq_true', decide_eq_false_iff_not] at hg
          have hn0 := hg.1
          have hn1 := Nat.le_of_ble_eq_true hg.2
          have hz2 : zp_sz (.inr (.inl (List.replicate n.toNatClampNeg 0))) = n.toNatClampNeg := List.length_replicate
          rw [hz2] at hle2
          refine zp_szW hnum hP hS hA (fun hz => ?_)
          refine va_newaK hx hb (hts _ (zc_w_in hck.2)) rfl hd rfl hn0 rfl (by show n.toNatClampNeg * 4 ≤ 536870912; omega) (by omega) (by omega) hz fun H1 cA2 e1 z1 o1 hAr hfc => ?_
          have hcc : cA2 = cA := by
            have h2 := (hK.2 0 _ rfl).2
            exact Option.some.inj (hfc.symm.trans h2)
          subst hcc
          obtain ⟨q1, q2, q3⟩ := zp_pushP (c := .inr (.inl (List.replicate n.toNatClampNeg 0))) hz hP hS z1 o1 (zp_arrI e1)
          have hW2 := hW hx hb hml hown hts hin hK hN hA hR (cells := cells + 1) (slots := slots + n.toNatClampNeg) (by rw [List.length_append, zp_sl_push, hz2]; simp only [List.length_cons, List.length_nil]; omega) (by rw [List.length_append]; simp only [List.length_cons, List.length_nil]; omega) q2 q3 hL (by
            intro H' locs' ls' r2 r3 r4
            have := hret H' locs' ls' r2 r3 r4
            rw [List.length_append, zp_sl_push, hz2]
            simp only [List.length_cons, List.length_nil]
            rw [show cells + 1 + (res.2.2.2.length - (hp.length + (0 + 1))) = cells + (res.2.2.2.length - hp.length) by omega, show slots + n.toNatClampNeg + (zp_sl res.2.2.2 - (zp_sl hp + n.toNatClampNeg)) = slots + (zp_sl res.2.2.2 - zp_sl hp) by omega]
            exact this)
          exact hW2
      · rename_i n rr
        cases hg : (!(decide (n < 0)) && Nat.ble n.toNatClampNeg 1000) with
        | false => rw [hg] at ha; exact hne ha
        | true =>
          rw [hg] at ha
          cases ha
          obtain ⟨hle0, hle1, hle2⟩ := zp_le_push hle
          refine ⟨hle0, ?_⟩
          intro p e R s m args below meth c H locs cells slots Q ls hx hb hml hown hts hin hK hN hA hR hcs hnum hP hS hL hret
          rw [Bool.and_eq_true, Bool.not_eq_true', decide_eq_false_iff_not] at hg
          have hn0 := hg.1
          have hn1 := Nat.le_of_ble_eq_true hg.2
          have hz2 : zp_sz (.inr (.inr (.inl n.toNatClampNeg))) = n.toNatClampNeg := rfl
          rw [hz2] at hle2
          refine zp_szW hnum hP hS hA (fun hz => ?_)
          refine va_newaK hx hb (hts _ (zc_w_in hck.2)) rfl hd rfl hn0 rfl (by show n.toNatClampNeg * 8 ≤ 536870912; omega) (by omega) (by omega) hz fun H1 cA2 e1 z1 o1 hAr hfc => ?_
          have hcc : cA2 = cJ := by
            have h2 := (hK.2 1 _ rfl).2
            exact Option.some.inj (hfc.symm.trans h2)
          subst hcc
          obtain ⟨q1, q2, q3⟩ := zp_pushP (c := .inr (.inr (.inl n.toNatClampNeg))) hz hP hS z1 o1 (e1)
          have hW2 := hW hx hb hml hown hts hin hK hN hA hR (cells := cells + 1) (slots := slots + n.toNatClampNeg) (by rw [List.length_append, zp_sl_push, hz2]; simp only [List.length_cons, List.length_nil]; omega) (by rw [List.length_append]; simp only [List.length_cons, List.length_nil]; omega) q2 q3 hL (by
            intro H' locs' ls' r2 r3 r4
            have := hret H' locs' ls' r2 r3 r4
            rw [List.length_append, zp_sl_push, hz2]
            simp only [List.length_cons, List.length_nil]
            rw [show cells + 1 + (res.2.2.2.length - (hp.length + (0 + 1))) = cells + (res.2.2.2.length - hp.length) by omega, show slots + n.toNatClampNeg + (zp_sl res.2.2.2 - (zp_sl hp + n.toNatClampNeg)) = slots + (zp_sl res.2.2.2 - zp_sl hp) by omega]
            exact this)
          exact hW2
      · exact hne ha
    · cases hck
  case anewarray k =>
    (try dsimp only at ha)
    (try dsimp only at hck)
    (try dsimp only at hck)
    split at hck
    · rename_i p1 p2
      rw [Bool.and_eq_true] at hck
      cases zc_beq hck.1
      split at ha
      · rename_i n rr
        cases hg : (!(decide (n < 0)) && Nat.ble n.toNatClampNeg 1000) with
        | false => rw [hg] at ha; exact hne ha
        | true =>
          rw [hg] at ha
          cases ha
          obtain ⟨hle0, hle1, hle2⟩ := zp_le_push hle
          refine ⟨hle0, ?_⟩
          intro p e R s m args below meth c H locs cells slots Q ls hx hb hml hown hts hin hK hN hA hR hcs hnum hP hS hL hret
          rw [Bool.and_eq_true, Bool.not_eq_true', decide_eq_false_iff_not] at hg
          have hn0 := hg.1
          have hn1 := Nat.le_of_ble_eq_true hg.2
          have hz2 : zp_sz (.inr (.inr (.inr (List.replicate n.toNatClampNeg none)))) = n.toNatClampNeg := List.length_replicate
          rw [hz2] at hle2
          refine zp_szW hnum hP hS hA (fun hz => ?_)
          refine W.anew hx hb hown (hts _ (zc_w_in hck.2)) (va_AO.use hN.2) rfl hd rfl hn0 (by omega) (by omega) (by omega) fun cA2 kA comp f1 f2 f3 f4 => ?_
          have hcc : cA2 = cS := by
            obtain ⟨_, _, _, _, _, h5⟩ := (hK.2 2 _ rfl).2
            exact Option.some.inj (f1.symm.trans h5)
          subst hcc
          generalize hH1 : H.push ({ cls := cA2, slots := Array.replicate n.toNatClampNeg .null, vm := .none } : Cell) = H1
          have z1 : H1.size = base + hp.length + 1 := by rw [← hH1, Array.size_push, hz]
          have e1 : H1[base + hp.length]? = some (arrV cA2 n.toNatClampNeg (fun _ => .null)) := by rw [← hH1, ← hz, Array.getElem?_push_size, ← arrV_new]
          have o1 : ∀ q : Nat, q < base + hp.length → H1[q]? = H[q]? := fun q hq => by rw [← hH1, Array.getElem?_push, if_neg (by omega)]
          rw [hz]
          obtain ⟨q1, q2, q3⟩ := zp_pushP (c := .inr (.inr (.inr (List.replicate n.toNatClampNeg none)))) hz hP hS z1 o1 (zp_arrQ e1)
          have hW2 := hW hx hb hml hown hts hin hK hN hA hR (cells := cells + 1) (slots := slots + n.toNatClampNeg) (by rw [List.length_append, zp_sl_push, hz2]; simp only [List.length_cons, List.length_nil]; omega) (by rw [List.length_append]; simp only [List.length_cons, List.length_nil]; omega) q2 q3 hL (by
            intro H' locs' ls' r2 r3 r4
            have := hret H' locs' ls' r2 r3 r4
            rw [List.length_append, zp_sl_push, hz2]
            simp only [List.length_cons, List.length_nil]
            rw [show cells + 1 + (res.2.2.2.length - (hp.length + (0 + 1))) = cells + (res.2.2.2.length - hp.length) by omega, show slots + n.toNatClampNeg + (zp_sl res.2.2.2 - (zp_sl hp + n.toNatClampNeg)) = slots + (zp_sl res.2.2.2 - zp_sl hp) by omega]
            exact this)
          exact hW2
      · exact hne ha
    · cases hck
  case getfield n =>
    (try dsimp only at ha)
    (try dsimp only at hck)
    split at ha
    · rename_i ci k t pl fin o rr
      split at ha
      · rename_i ci2 fs ho
        cases hcb : Nat.beq ci2 ci with
        | false => rw [hcb] at ha; exact hne ha
        | true =>
          rw [hcb] at ha
          cases zc_beq hcb
          dsimp only [cond] at ha
          split at ha
          · rename_i w hw
            cases ha
            refine ⟨hle, ?_⟩
            intro p e R s m args below meth c H locs cells slots Q ls hx hb hml hown hts hin hK hN hA hR hcs hnum hP hS hL hret
            (try dsimp only at hck)
            rw [Bool.and_eq_true] at hck
            cases zc_beq hck.1
            have hv := hck.2
            unfold zp_f at hv
            split at hv
            · rename_i Cn Tn Nn hvw
              simp only [Bool.and_eq_true] at hv
              obtain ⟨⟨⟨⟨⟨z1, z2⟩, z3⟩, z4⟩, z5⟩, z6⟩ := hv
              have z1 := Nat.le_of_ble_eq_true z1
              have z4 := of_decide_eq_true z4
              refine va_get (D := D) (C := Cn) (T := Tn) (N := Nn) (ref := Cn) hx hb hts (zv_in hvw) hown hK hP o (zp_at ho) hvw k z1 (hts _ (zc_w_in z3)) (fun y hy => by rw [z4] at hy; exact hy) (v := zp_v base w) ?_ hd (hW hx hb hml hown hts hin hK hN hA hR hcs hnum hP hS hL hret)
              rw [List.getElem?_map, hw]
              rfl
            · cases hv
          · exact hne ha
      · exact hne ha
    · exact hne ha
  case putfield n =>
    (try dsimp only at ha)
    (try dsimp only at hck)
    split at ha
    · rename_i ci k t pl fin w o rr
      split at ha
      · rename_i ci2 fs ho
        cases hcb : (Nat.beq ci2 ci && zp_ty t w && Nat.blt k fs.length) with
        | false => rw [hcb] at ha; exact hne ha
        | true =>
          rw [hcb] at ha
          cases ha
          rw [Bool.and_eq_true, Bool.and_eq_true] at hcb
          obtain ⟨⟨hc1, hc2⟩, hc3⟩ := hcb
          cases zc_beq hc1
          have hc3 := Nat.le_of_ble_eq_true hc3
          refine ⟨zp_le_set (c' := .inl (ci, fs.set k w)) ho rfl hle, ?_⟩
          intro p e R s m args below meth c H locs cells slots Q ls hx hb hml hown hts hin hK hN hA hR hcs hnum hP hS hL hret
          (try dsimp only at hck)
          rw [Bool.and_eq_true] at hck
          cases zc_beq hck.1
          have hv := hck.2
          unfold zp_f at hv
          split at hv
          · rename_i Cn Tn Nn hvw
            simp only [Bool.and_eq_true, Bool.not_true, Bool.false_or] at hv
            obtain ⟨⟨⟨⟨⟨z1, z2⟩, z3⟩, z4⟩, z5⟩, ⟨z6, z7⟩, z8⟩ := hv
            have z1 := Nat.le_of_ble_eq_true z1
            have z4 := of_decide_eq_true z4
            have z6 := of_decide_eq_true z6
            obtain ⟨ty0, hty, hnm⟩ := zv_ty hvw
            have hty2 : ∃ ty, parseFieldDescriptor (Tn k).2.2.1 = some ty ∧ narrow ty (zp_v base w) = zp_v base w ∧ fits ty (zp_v base w) = true := by
              cases w with
              | int x =>
                cases zc_beq hc2
                exact ⟨.int, by rw [of_decide_eq_true z8]; decide +kernel, rfl, rfl⟩
              | ref x =>
                cases zc_beq hc2
                have z8 : (match parseFieldDescriptor (Tn k).2.2.1 with | some (.object _) => true | some (.array _) => true | _ => false) = true := z8
                split at z8
                · rename_i nn hpd
                  exact ⟨_, hpd, rfl, rfl⟩
                · rename_i nn hpd
                  exact ⟨_, hpd, rfl, rfl⟩
                · cases z8
              | _ => cases hc2
            obtain ⟨ty, t1, t2, t3⟩ := hty2
            have hlen : k < (fs.map (zp_v base)).length := by rw [List.length_map]; exact hc3
            have hfin : ∀ (H1 : Heap) (locs1 : List Loc), va_P D vwCl ((zp base cA cJ cS hp).set o (base + o, .inr (ci, (fs.map (zp_v base)).set k (zp_v base w)))) H1 → va_S (fun q => base ≤ q) s.heap H1 locs1 → W p l e R s m args below meth c H1 locs1 cells slots Q (F0 m (pc + 3) ls (rr.map (zp_v base))) := by
              intro H1 locs1 hP1 hS1
              rw [← List.map_set] at hP1
              rw [show ((base + o, .inr (ci, (fs.set k w).map (zp_v base))) : Nat × va_E) = (base + o, zp_c base cA cJ cS (.inl (ci, fs.set k w))) from rfl, zp_set] at hP1
              have hW2 := hW hx hb hml hown hts hin hK hN hA hR (cells := cells) (slots := slots) (by rw [List.length_set, zp_sl_set (c' := .inl (ci, fs.set k w)) ho rfl]; exact hcs) (by rw [List.length_set]; exact hnum) hP1 hS1 hL (by
                rw [List.length_set, zp_sl_set (c' := .inl (ci, fs.set k w)) ho rfl]
                exact hret)
              exact hW2
            cases hfb : Nat.beq fin 1 with
            | false =>
              rw [hfb] at z6
              exact va_put (D := D) (ci := ci) (C := Cn) (T := Tn) (N := Nn) (ref := Cn) hx hb hts (zv_in hvw) ty0 hty hnm hown hK hP (zp_D (fun _ h => h)) hS o (zp_at ho) hvw k z1 (hts _ (zc_w_in z3)) (fun y hy => by rw [z4] at hy; exact hy) z6 t1 t2 t3 hlen hd (fun H1 locs1 hP1 _ hS1 => hfin H1 locs1 hP1 hS1)
            | true =>
              rw [hfb] at z6
              have hf0 : Nat.beq fin 0 = false := by cases zc_beq hfb; rfl
              rw [hf0] at z7
              simp only [Bool.false_or, Bool.or_eq_true, Bool.and_eq_true] at z7
              have z7 : decide (Cn = zp_own mi) = true ∧ Nat.blt mi zp_NM = true := by simpa using z7
              exact va_putF (D := D) (ci := ci) (C := Cn) (T := Tn) (N := Nn) (ref := Cn) hx hb hts (zv_in hvw) ty0 hty hnm hown hK hP (zp_D (fun _ h => h)) hS o (zp_at ho) hvw k z1 (hts _ (zc_w_in z3)) (fun y hy => by rw [z4] at hy; exact hy) z6 (hin (Nat.le_of_ble_eq_true z7.2)) (z4.trans (of_decide_eq_true z7.1)) t1 t2 t3 hlen hd (fun H1 locs1 hP1 _ hS1 => hfin H1 locs1 hP1 hS1)
          · cases hv
      · exact hne ha
    · exact hne ha
  case iastore =>
    (try dsimp only at ha)
    (try dsimp only at hck)
    split at ha
    · rename_i x j a rr
      split at ha
      · rename_i xs hxa
        cases hat : zm_at xs.length j with
        | false => rw [hat] at ha; exact hne ha
        | true =>
          rw [hat] at ha
          cases ha
          refine ⟨zp_le_set (c' := .inr (.inl (xs.set j.toNatClampNeg x))) hxa (by show (xs.set j.toNatClampNeg x).length = xs.length; exact List.length_set) hle, ?_⟩
          intro p e R s m args below meth c H locs cells slots Q ls hx hb hml hown hts hin hK hN hA hR hcs hnum hP hS hL hret
          cases zc_beq hck
          have hfun : ((base + a, .inl (cA, xs.length, .inl (upd (fun j => xs.getD j 0) j.toNatClampNeg x))) : Nat × va_E) = (base + a, zp_c base cA cJ cS (.inr (.inl (xs.set j.toNatClampNeg x)))) := by
            show _ = ((base + a, .inl (cA, (xs.set j.toNatClampNeg x).length, .inl (fun i => (xs.set j.toNatClampNeg x).getD i 0))) : Nat × va_E)
            rw [List.length_set]
            congr 4
            congr 1
            funext i
            show (if i = j.toNatClampNeg then x else xs.getD i 0) = _
            rw [List.getD_eq_getElem?_getD, List.getD_eq_getElem?_getD]
            by_cases hi : i = j.toNatClampNeg
            · subst hi
              rw [if_pos rfl, List.getElem?_set_self (by have := zm_at_in hat; unfold vp_in at this; omega)]
              rfl
            · rw [if_neg hi, List.getElem?_set_ne (Ne.symm hi)]
          refine va_iast hx hb hK hP (zp_D (fun _ h => h)) hS a 0 (zp_at hxa) rfl (zm_at_in hat) hd (fun H1 locs1 hP1 _ hS1 => ?_)
          rw [hfun, zp_set] at hP1
          exact hW hx hb hml hown hts hin hK hN hA hR (by rw [List.length_set, zp_sl_set (c' := .inr (.inl (xs.set j.toNatClampNeg x))) hxa (by show (xs.set j.toNatClampNeg x).length = xs.length; exact List.length_set)]; exact hcs) (by rw [List.length_set]; exact hnum) hP1 hS1 hL (by
            rw [List.length_set, zp_sl_set (c' := .inr (.inl (xs.set j.toNatClampNeg x))) hxa (by show (xs.set j.toNatClampNeg x).length = xs.length; exact List.length_set)]
            exact hret)
      · exact hne ha
    · exact hne ha
  case aastore =>
    (try dsimp only at ha)
    (try dsimp only at hck)
    split at ha
    · rename_i x j a rr
      split at ha
      · rename_i rs fs hxa hxx
        cases hat : zm_at rs.length j with
        | false => rw [hat] at ha; exact hne ha
        | true =>
          rw [hat] at ha
          cases ha
          refine ⟨zp_le_set (c' := .inr (.inr (.inr (rs.set j.toNatClampNeg (some x))))) hxa (by show (rs.set j.toNatClampNeg (some x)).length = rs.length; exact List.length_set) hle, ?_⟩
          intro p e R s m args below meth c H locs cells slots Q ls hx hb hml hown hts hin hK hN hA hR hcs hnum hP hS hL hret
          cases zc_beq hck
          have hfun : ((base + a, .inl (cS, rs.length, .inr (.inr (.inr (.inr (va_up (fun j => (rs.getD j none).map (fun k => base + k)) j.toNatClampNeg (some (base + x)))))))) : Nat × va_E) = (base + a, zp_c base cA cJ cS (.inr (.inr (.inr (rs.set j.toNatClampNeg (some x)))))) := by
            show _ = ((base + a, .inl (cS, (rs.set j.toNatClampNeg (some x)).length, .inr (.inr (.inr (.inr (fun i => ((rs.set j.toNatClampNeg (some x)).getD i none).map (fun k => base + k))))))) : Nat × va_E)
            rw [List.length_set]
            congr 7
            congr 1
            funext i
            show (if i = j.toNatClampNeg then some (base + x) else (rs.getD i none).map (fun k => base + k)) = _
            rw [List.getD_eq_getElem?_getD, List.getD_eq_getElem?_getD]
            by_cases hi : i = j.toNatClampNeg
            · subst hi
              rw [if_pos rfl, List.getElem?_set_self (by have := zm_at_in hat; unfold vp_in at this; omega)]
              rfl
            · rw [if_neg hi, List.getElem?_set_ne (Ne.symm hi)]
          refine va_astq (r := (RX7, TX7, 4)) (ci := 7) hx hb hK hP (zp_D (fun _ h => h)) hS a 2 x (zp_at hxa) rfl (zp_at hxx) rfl (zm_at_in hat) hd (fun H1 locs1 hP1 _ hS1 => ?_)
          rw [hfun, zp_set] at hP1
          exact hW hx hb hml hown hts hin hK hN hA hR (by rw [List.length_set, zp_sl_set (c' := .inr (.inr (.inr (rs.set j.toNatClampNeg (some x))))) hxa (by show (rs.set j.toNatClampNeg (some x)).length = rs.length; exact List.length_set)]; exact hcs) (by rw [List.length_set]; exact hnum) hP1 hS1 hL (by
            rw [List.length_set, zp_sl_set (c' := .inr (.inr (.inr (rs.set j.toNatClampNeg (some x))))) hxa (by show (rs.set j.toNatClampNeg (some x)).length = rs.length; exact List.length_set)]
            exact hret)
      · exact hne ha
    · exact hne ha
  case invokespecial n =>
    (try dsimp only at ha)
    (try dsimp only at hck)
    split at ha
    · rename_i p1 p2 p3
      split at ha
      · rename_i o rr
        cases hb8 : Nat.ble (zm_cat rr) 8 with
        | false => rw [hb8] at ha; exact hne ha
        | true =>
          rw [hb8] at ha
          cases ha
          refine ⟨hle, ?_⟩
          intro p e R s m args below meth c H locs cells slots Q ls hx hb hml hown hts hin hK hN hA hR hcs hnum hP hS hL hret
          (try dsimp only at hck)
          rw [Bool.and_eq_true, Bool.and_eq_true] at hck
          obtain ⟨⟨k1, k2⟩, k3⟩ := hck
          cases zc_beq k1
          refine W.objInit hx hb hown (hts _ (zc_w_in k2)) (hts _ (zc_w_in k3)) (hts _ zp_obj) rfl (by rw [hml]; exact hL.1) rfl hd (by omega) ?_ (hW hx hb hml hown hts hin hK hN hA hR hcs hnum hP hS hL hret)
          have h8 := Nat.le_of_ble_eq_true hb8
          show 2 * 0 + _ + 12 ≤ _
          rw [show ((List.map (zp_v base) rr).map fun v => v.category).sum = zm_cat rr from zw_cat _ rr]
          omega
      · exact hne ha
    · split at ha
      · rename_i o rr hdrop
        cases hb8 : (Nat.ble (zm_cat rr) 8 && Nat.beq (S.take _).length _) with
        | false => rw [hb8] at ha; exact hne ha
        | true => rw [hb8] at ha; cases ha
      · exact hne ha
    · exact hne ha
  case return_ =>
    (try dsimp only at ha)
    (try dsimp only at hck)
    split at ha
    · cases ha
    · exact hne ha
  all_goals first | exact hne ha | cases ha
end ZPS
