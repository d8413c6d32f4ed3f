/-! behind the constructors the world is the fixed one -/
def zp_ad (base : Nat) (old : Nat → Nat) (k : Nat) : Nat := cond (Nat.blt k 1000) (base + zp_perm k) (old k)
theorem zp_ad_lt {base : Nat} {old : Nat → Nat} {k : Nat} (h : Nat.blt k 1000 = true) : zp_ad base old k = base + zp_perm k := by
  unfold zp_ad
  rw [h]
  rfl
theorem zp_cellQ {cA : ClassId} {n : Nat} {f g : Nat → Option Nat} (h : ∀ j, j < n → f j = g j) : vp_cell cA (n, .inr (.inr (.inr (.inr f)))) = vp_cell cA (n, .inr (.inr (.inr (.inr g)))) := by
  rw [vp_cell_q, vp_cell_q]
  unfold arrV
  congr 1
  congr 1
  funext j
  show va_rf (f j.1) = va_rf (g j.1)
  rw [h j.1 j.2]
theorem zp_to_zw {base : Nat} {old : Nat → Nat} {cA cJ cS : ClassId} {D : va_G} {sv : Nat → Nat → Int32} {H : Heap} (hP : va_P D vwCl (zp base cA cJ cS zp_litM) H) : va_P D vwCl (zw (zp_ad base old) cA cJ cS (zp_h0 sv)) H := by
  intro o q hq
  have ho : o < 83 := by
    have := (List.getElem?_eq_some_iff.mp hq).1
    unfold zw at this
    simpa using this
  rw [zw_at ho] at hq
  cases hq
  have hb : Nat.blt o 1000 = true := Nat.ble_eq_true_of_le (by omega)
  rw [zp_ad_lt hb]
  have hok := zp_okc_all o ho
  unfold zp_okc at hok
  have hval : ∀ j, (zp_h0 sv).1 o j = zp_val o j := by
    intro j
    show cond (Nat.blt o 1000) _ _ = _
    rw [hb]
    rfl
  cases hc : zp_litM[zp_perm o]? with
  | none => rw [hc] at hok; cases hok
  | some c =>
    have hat := hP (zp_perm o) _ (zp_at hc)
    rw [hc] at hok
    rcases c with ⟨ci, fs⟩ | xs | n | rs
    · dsimp only at hok
      simp only [Bool.and_eq_true] at hok
      obtain ⟨⟨⟨k1, k2⟩, k3⟩, k4⟩ := hok
      have k1 := zc_beq k1; have k2 := zc_beq k2; have k3 := zc_beq k3
      have e : zw_cell (zp_ad base old) cA cJ cS (zp_h0 sv) o = zp_c base cA cJ cS (.inl (ci, fs)) := by
        unfold zw_cell
        rw [k1]
        show (Sum.inr ((zm_kd o).2, (List.range (zm_nF (zm_kd o).2)).map (zw_fv (zp_ad base old) (zp_h0 sv) o)) : va_E) = Sum.inr (ci, fs.map (zp_v base))
        rw [k2]
        congr 2
        apply List.ext_getElem?
        intro j
        rw [List.getElem?_map, List.getElem?_map]
        by_cases hj : j < zm_nF ci
        · rw [List.getElem?_range hj]
          have hk := List.all_eq_true.mp k4 j (List.mem_range.mpr hj)
          cases hf : fs[j]? with
          | none => rw [hf] at hk; cases hk
          | some v =>
            rw [hf] at hk
            show some (zw_fv (zp_ad base old) (zp_h0 sv) o j) = some (zp_v base v)
            unfold zw_fv
            rw [k2, hval j]
            cases v with
            | int x =>
              have hk : (!(zm_fr ci j)) = true := hk
              rw [Bool.not_eq_true'] at hk
              rw [hk]
              have : zp_val o j = x := by
                unfold zp_val
                rw [hc]
                dsimp only
                rw [hf]
              rw [this]
              rfl
            | ref x =>
              have hk : (zm_fr ci j && Nat.beq x (zp_perm (zm_rt o j)) && Nat.blt (zm_rt o j) 1000) = true := hk
              simp only [Bool.and_eq_true] at hk
              rw [hk.1.1]
              show some (Value.ref (zp_ad base old (zm_rt o j))) = some (Value.ref (base + x))
              rw [zp_ad_lt hk.2, zc_beq hk.1.2]
            | _ => cases hk
        · rw [List.getElem?_eq_none (by simpa using hj), List.getElem?_eq_none (by omega)]
          rfl
      rw [e]
      exact hat
    · dsimp only at hok
      simp only [Bool.and_eq_true] at hok
      obtain ⟨k1, k2⟩ := hok
      have k1 := zc_beq k1; have k2 := zc_beq k2
      have e : zw_cell (zp_ad base old) cA cJ cS (zp_h0 sv) o = zp_c base cA cJ cS (.inr (.inl xs)) := by
        unfold zw_cell
        rw [k1]
        show (Sum.inl (cA, (zm_kd o).2, Sum.inl ((zp_h0 sv).1 o)) : va_E) = Sum.inl (cA, xs.length, Sum.inl (fun j => xs.getD j 0))
        rw [k2]
        refine congrArg (fun f => (Sum.inl (cA, xs.length, Sum.inl f) : va_E)) ?_
        funext j
        rw [hval j]
        unfold zp_val
        rw [hc]
      rw [e]
      exact hat
    · dsimp only at hok
      simp only [Bool.and_eq_true] at hok
      obtain ⟨k1, k2⟩ := hok
      have k1 := zc_beq k1; have k2 := zc_beq k2
      have e : zw_cell (zp_ad base old) cA cJ cS (zp_h0 sv) o = zp_c base cA cJ cS (.inr (.inr (.inl n))) := by
        unfold zw_cell
        rw [k1]
        show (Sum.inl (cJ, (zm_kd o).2, Sum.inr (Sum.inl ((zp_h0 sv).2 o))) : va_E) = Sum.inl (cJ, n, Sum.inr (Sum.inl (fun _ => 0)))
        rw [k2]
        rfl
      rw [e]
      exact hat
    · dsimp only at hok
      simp only [Bool.and_eq_true] at hok
      obtain ⟨⟨k1, k2⟩, k3⟩ := hok
      have k1 := zc_beq k1; have k2 := zc_beq k2
      have e : zw_cell (zp_ad base old) cA cJ cS (zp_h0 sv) o = .inl (cS, rs.length, .inr (.inr (.inr (.inr (fun j => some (zp_ad base old (zm_rt o j))))))) := by
        unfold zw_cell
        rw [k1]
        show (Sum.inl (cS, (zm_kd o).2, _) : va_E) = _
        rw [k2]
      rw [e]
      show H[base + zp_perm o]? = some (vp_cell cS _)
      rw [zp_cellQ (g := fun j => (rs.getD j none).map (fun k => base + k))]
      · exact hat
      · intro j hj
        have hk := List.all_eq_true.mp k3 j (List.mem_range.mpr hj)
        rw [Bool.and_eq_true] at hk
        have h1 := of_decide_eq_true hk.1
        rw [List.getD_eq_getElem?_getD, h1, zp_ad_lt hk.2]
        rfl
theorem zp_zwD {base : Nat} {old : Nat → Nat} {cA cJ cS : ClassId} {h : zm_H} : va_D (fun q => base ≤ q) (zw (zp_ad base old) cA cJ cS h) := by
  have key : ∀ (k : Nat) (q : Nat × va_E), (zw (zp_ad base old) cA cJ cS h)[k]? = some q → k < 83 ∧ q.1 = base + zp_perm k := by
    intro k q hq
    have hk : k < 83 := by
      have := (List.getElem?_eq_some_iff.mp hq).1
      unfold zw at this
      simpa using this
    rw [zw_at hk] at hq
    cases hq
    exact ⟨hk, zp_ad_lt (Nat.ble_eq_true_of_le (by omega))⟩
  refine ⟨fun i j p q hi hj hpq => ?_, fun k q hq => ?_⟩
  · obtain ⟨a1, a2⟩ := key i p hi
    obtain ⟨b1, b2⟩ := key j q hj
    exact zp_perm_inj i a1 j b1 (by rw [a2, b2] at hpq; omega)
  · obtain ⟨_, a2⟩ := key k q hq
    show base ≤ q.1
    rw [a2]
    omega
theorem zp_h0_F (sv : Nat → Nat → Int32) : zw_F sv (zp_h0 sv) := by
  intro a n ha
  show cond (Nat.blt a 1000) _ _ = _
  cases hb : Nat.blt a 1000 with
  | false => rfl
  | true => have : a < 1000 := Nat.le_of_ble_eq_true hb; omega
