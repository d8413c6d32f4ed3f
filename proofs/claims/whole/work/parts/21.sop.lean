/-! the instructions of the stack alone, over the machine -/
theorem zm_i1_inv {f : Int32 → Int32} {S S' : List Value} {g : Bool} (h : zm_i1 f S = some (g, S')) : ∃ x r, S = .int x :: r ∧ g = true ∧ S' = .int (f x) :: r := by
  unfold zm_i1 at h
  split at h
  · cases h; exact ⟨_, _, rfl, rfl, rfl⟩
  · cases h
theorem zm_i2_inv {f : Int32 → Int32 → Int32} {S S' : List Value} {g : Bool} (h : zm_i2 f S = some (g, S')) : ∃ x y r, S = .int y :: .int x :: r ∧ g = true ∧ S' = .int (f x y) :: r := by
  unfold zm_i2 at h
  split at h
  · cases h; exact ⟨_, _, _, rfl, rfl, rfl⟩
  · cases h
theorem zm_l2_inv {f : Int64 → Int64 → Int64} {S S' : List Value} {g : Bool} (h : zm_l2 f S = some (g, S')) : ∃ x y r, S = .long y :: .long x :: r ∧ g = true ∧ S' = .long (f x y) :: r := by
  unfold zm_l2 at h
  split at h
  · cases h; exact ⟨_, _, _, rfl, rfl, rfl⟩
  · cases h
theorem zm_dv_inv {f : Int32 → Int32 → Int32} {S S' : List Value} {g : Bool} (h : zm_dv f S = some (g, S')) : ∃ x y r, S = .int y :: .int x :: r ∧ g = !(decide (y = 0)) ∧ S' = .int (f x y) :: r := by
  unfold zm_dv at h
  split at h
  · cases h; exact ⟨_, _, _, rfl, rfl, rfl⟩
  · cases h
theorem zm_chk_dec {mi pc : Nat} {e : ZI} (h : zm_chk mi pc e = true) : decode (zm_b mi) pc = .ok (e.1, e.2.1) := by
  unfold zm_chk at h
  rw [Bool.and_eq_true] at h
  exact of_decide_eq_true h.1
theorem zc_beq {a b : Nat} (h : Nat.beq a b = true) : a = b := Nat.eq_of_beq_eq_true h
section SOP
variable {p : Program} {l : Launch} {e : Env} {R : Room} {s : State} {m : MethodId} {args : Array Value} {below : List Frame} {meth : Method} {c : Code} {H : Heap} {locs : List Loc} {cells slots : Nat} {Q : State → Prop}
variable {mi pc ln : Nat} {ls : Array Slot} {ad : Nat → Nat} {aux : List Nat} {v : Value} {sw : List (Int32 × Nat)}
set_option maxHeartbeats 4000000 in
theorem zw_sop {i : Instr} {S S' : List Value} {g : Bool} (hx : p.tables.exec = Jvm.exec) (hb : c.code = zm_b mi) (hown : s.vm.findClass (zm_own mi) = some m.cls) (hts : ∀ w ∈ lw_g, w.before args s = true)
    (hck : zm_chk mi pc (i, ln, aux, v, sw) = true) (hs : zm_sop i v S = some (g, S')) (hg : g = true)
    (k : W p l e R s m args below meth c H locs cells slots Q (F0 m (pc + ln) ls (S'.map (zw_v ad)))) : W p l e R s m args below meth c H locs cells slots Q (F0 m pc ls (S.map (zw_v ad))) := by
  subst hg
  have hd := zm_chk_dec hck
  unfold zm_chk at hck
  rw [Bool.and_eq_true] at hck
  have hck := hck.2
  dsimp only at hd hck
  cases i
  case iconst n =>
    cases hs
    rw [Bool.and_eq_true] at hck
    obtain ⟨h1, h2⟩ := hck
    cases zc_beq h1
    rw [of_decide_eq_true h2] at k
    exact lv_iconst hx hb hd rfl k
  case bipush n =>
    cases hs
    rw [Bool.and_eq_true] at hck
    obtain ⟨h1, h2⟩ := hck
    cases zc_beq h1
    rw [of_decide_eq_true h2] at k
    exact lv_bipush hx hb hd rfl k
  case sipush n =>
    cases hs
    rw [Bool.and_eq_true] at hck
    obtain ⟨h1, h2⟩ := hck
    cases zc_beq h1
    rw [of_decide_eq_true h2] at k
    exact lv_sipush hx hb hd rfl k
  case lconst n =>
    cases hs
    rw [Bool.and_eq_true] at hck
    obtain ⟨h1, h2⟩ := hck
    cases zc_beq h1
    rw [of_decide_eq_true h2] at k
    exact lv_lconst hx hb hd rfl k
  case ldc n =>
    cases hs
    dsimp only at hck
    split at hck
    · rename_i q x
      rw [Bool.and_eq_true] at hck
      obtain ⟨h1, h2⟩ := hck
      cases zc_beq h1
      exact lv_ldc hx hb hown (hts _ (zc_w_in h2)) hd k
    · cases hck
  case ldc_w n =>
    cases hs
    dsimp only at hck
    split at hck
    · rename_i q x
      rw [Bool.and_eq_true] at hck
      obtain ⟨h1, h2⟩ := hck
      cases zc_beq h1
      exact lv_ldcw hx hb hown (hts _ (zc_w_in h2)) hd k
    · cases hck
  case ldc2_w n =>
    cases hs
    dsimp only at hck
    split at hck
    · rename_i q x
      rw [Bool.and_eq_true] at hck
      obtain ⟨h1, h2⟩ := hck
      cases zc_beq h1
      exact W.ldc2 hx hb hown (hts _ (zc_w_in h2)) rfl hd k
    · cases hck
  case iadd => obtain ⟨x, y, r, rfl, -, rfl⟩ := zm_i2_inv hs; cases zc_beq hck; exact lv_iadd hx hb hd k
  case isub => obtain ⟨x, y, r, rfl, -, rfl⟩ := zm_i2_inv hs; cases zc_beq hck; exact lv_isub hx hb hd k
  case imul => obtain ⟨x, y, r, rfl, -, rfl⟩ := zm_i2_inv hs; cases zc_beq hck; exact lv_imul hx hb hd k
  case iand => obtain ⟨x, y, r, rfl, -, rfl⟩ := zm_i2_inv hs; cases zc_beq hck; exact lv_iand hx hb hd k
  case ior => obtain ⟨x, y, r, rfl, -, rfl⟩ := zm_i2_inv hs; cases zc_beq hck; exact lv_ior hx hb hd k
  case ixor => obtain ⟨x, y, r, rfl, -, rfl⟩ := zm_i2_inv hs; cases zc_beq hck; exact lv_ixor hx hb hd k
  case ishl => obtain ⟨x, y, r, rfl, -, rfl⟩ := zm_i2_inv hs; cases zc_beq hck; exact lv_ishl hx hb hd k
  case iushr => obtain ⟨x, y, r, rfl, -, rfl⟩ := zm_i2_inv hs; cases zc_beq hck; exact lv_iushr hx hb hd rfl k
  case idiv =>
    obtain ⟨x, y, r, rfl, h0, rfl⟩ := zm_dv_inv hs
    cases zc_beq hck
    exact lv_idiv hx hb hd (by simpa using h0.symm) k
  case irem =>
    obtain ⟨x, y, r, rfl, h0, rfl⟩ := zm_dv_inv hs
    cases zc_beq hck
    exact lv_irem hx hb hd (by simpa using h0.symm) k
  case ineg => obtain ⟨x, r, rfl, -, rfl⟩ := zm_i1_inv hs; cases zc_beq hck; exact lv_ineg hx hb hd k
  case i2b => obtain ⟨x, r, rfl, -, rfl⟩ := zm_i1_inv hs; cases zc_beq hck; exact lv_i2b hx hb hd rfl k
  case i2s => obtain ⟨x, r, rfl, -, rfl⟩ := zm_i1_inv hs; cases zc_beq hck; exact lv_i2s hx hb hd rfl k
  case i2l =>
    unfold zm_sop at hs
    dsimp only at hs
    split at hs
    · cases hs; cases zc_beq hck; exact lv_i2l hx hb hd rfl k
    · cases hs
  case l2i =>
    unfold zm_sop at hs
    dsimp only at hs
    split at hs
    · cases hs; cases zc_beq hck; exact lv_l2i hx hb hd rfl k
    · cases hs
  case ladd => obtain ⟨x, y, r, rfl, -, rfl⟩ := zm_l2_inv hs; cases zc_beq hck; exact lv_ladd hx hb hd k
  case lmul => obtain ⟨x, y, r, rfl, -, rfl⟩ := zm_l2_inv hs; cases zc_beq hck; exact lv_lmul hx hb hd k
  case land => obtain ⟨x, y, r, rfl, -, rfl⟩ := zm_l2_inv hs; cases zc_beq hck; exact lv_land hx hb hd k
  case lor => obtain ⟨x, y, r, rfl, -, rfl⟩ := zm_l2_inv hs; cases zc_beq hck; exact lv_lor hx hb hd k
  case lshl =>
    unfold zm_sop at hs
    dsimp only at hs
    split at hs
    · cases hs; cases zc_beq hck; exact lv_lshl hx hb hd rfl k
    · cases hs
  case lcmp =>
    unfold zm_sop at hs
    dsimp only at hs
    split at hs
    · cases hs; cases zc_beq hck; exact W.lcmp hx hb hd k
    · cases hs
  case dup =>
    unfold zm_sop at hs
    dsimp only at hs
    split at hs
    · rename_i w r
      cases hw : Nat.beq w.category 1 with
      | false => rw [hw] at hs; cases hs
      | true =>
        rw [hw] at hs; cases hs; cases zc_beq hck
        exact lv_dup hx hb hd (by rw [zw_v_cat]; exact zc_beq hw) k
    · cases hs
  case pop =>
    unfold zm_sop at hs
    dsimp only at hs
    split at hs
    · rename_i w r
      cases hw : Nat.beq w.category 1 with
      | false => rw [hw] at hs; cases hs
      | true =>
        rw [hw] at hs; cases hs; cases zc_beq hck
        exact lv_pop hx hb hd (by rw [zw_v_cat]; exact zc_beq hw) k
    · cases hs
  case dup_x1 =>
    unfold zm_sop at hs
    dsimp only at hs
    split at hs
    · rename_i w u r
      cases hw : (Nat.beq w.category 1 && Nat.beq u.category 1) with
      | false => rw [hw] at hs; cases hs
      | true =>
        rw [hw] at hs; cases hs; cases zc_beq hck
        rw [Bool.and_eq_true] at hw
        exact lv_dup_x1 hx hb hd (by rw [zw_v_cat]; exact zc_beq hw.1) (by rw [zw_v_cat]; exact zc_beq hw.2) k
    · cases hs
  case dup2 =>
    unfold zm_sop at hs
    dsimp only at hs
    split at hs
    · rename_i w u r
      cases hw : (Nat.beq w.category 1 && Nat.beq u.category 1) with
      | false => rw [hw] at hs; cases hs
      | true =>
        rw [hw] at hs; cases hs; cases zc_beq hck
        rw [Bool.and_eq_true] at hw
        exact lv_dup2_11 hx hb hd (by rw [zw_v_cat]; exact zc_beq hw.1) (by rw [zw_v_cat]; exact zc_beq hw.2) k
    · cases hs
  all_goals cases hs
end SOP
