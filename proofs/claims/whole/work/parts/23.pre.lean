/-! one step of the abstract machine is one step of the machine -/
theorem zm_do_nx {C : Nat → List Value → zm_H → zm_R} {G : zm_N → zm_R} {L0 L : zm_L} {h0 h : zm_H} {g : Bool} {pc : Nat} {S : List Value} {y : Option Value × zm_H} (hr : zm_do C G L0 h0 (zm_nx g pc L S h) = some y) : g = true ∧ G (pc, L, S, h) = some y := by
  cases g with
  | false => cases hr
  | true => exact ⟨rfl, hr⟩
theorem zm_do_call {C : Nat → List Value → zm_H → zm_R} {G : zm_N → zm_R} {L : zm_L} {h : zm_H} {g : Bool} {c pc' rk rf : Nat} {as S' : List Value} {y : Option Value × zm_H} (hr : zm_do C G L h (some (.inr (.inr (.inl (g, c, as, pc', S', rk, rf))))) = some y) :
    g = true ∧ ∃ (rv : Option Value) (h1 : zm_H), C c as h = some (rv, h1) ∧ G (pc', L, rv.toList ++ S', h1) = some y := by
  cases g with
  | false => cases hr
  | true =>
    refine ⟨rfl, ?_⟩
    match rk, hr with
    | 0, hr =>
      have hr : zb_V (C c as h) (fun h' => G (pc', L, S', h')) = some y := hr
      rcases hc : C c as h with _ | ⟨_ | v, h1⟩
      · rw [hc] at hr; cases hr
      · rw [hc] at hr; exact ⟨none, h1, rfl, hr⟩
      · rw [hc] at hr; cases hr
    | 1, hr =>
      have hr : zb_I (C c as h) (fun x h' => G (pc', L, .int x :: S', h')) = some y := hr
      rcases hc : C c as h with _ | ⟨_ | v, h1⟩
      · rw [hc] at hr; cases hr
      · rw [hc] at hr; cases hr
      · rw [hc] at hr
        cases v with
        | int v => exact ⟨some (.int v), h1, rfl, hr⟩
        | _ => cases hr
    | 2, hr =>
      have hr : zb_J (C c as h) (fun x h' => G (pc', L, .long x :: S', h')) = some y := hr
      rcases hc : C c as h with _ | ⟨_ | v, h1⟩
      · rw [hc] at hr; cases hr
      · rw [hc] at hr; cases hr
      · rw [hc] at hr
        cases v with
        | long v => exact ⟨some (.long v), h1, rfl, hr⟩
        | _ => cases hr
    | k + 3, hr =>
      have hr : zb_Q (C c as h) rf (fun h' => G (pc', L, .ref rf :: S', h')) = some y := hr
      rcases hc : C c as h with _ | ⟨_ | v, h1⟩
      · rw [hc] at hr; cases hr
      · rw [hc] at hr; cases hr
      · rw [hc] at hr
        cases v with
        | ref v =>
          unfold zb_Q at hr
          dsimp only at hr
          cases hb : Nat.beq v rf with
          | false => rw [hb] at hr; cases hr
          | true =>
            rw [hb] at hr
            have eb := zc_beq hb
            subst eb
            exact ⟨some (.ref _), h1, rfl, hr⟩
        | _ => cases hr
theorem zw_ts {pc : Nat} {x : Int32} {go : Nat → zm_R} {d : zm_R} {y : Option Value × zm_H} : ∀ (os : List Int) (sw : List (Int32 × Nat)) (lo : Int), zc_ts pc lo os sw = true → zm_sw x sw d go = some y →
    (∃ (j : Nat) (off : Int) (t : Nat), os[j]? = some off ∧ x.toInt = lo + j ∧ (pc : Int) + off = (t : Int) ∧ go t = some y) ∨ ((x.toInt < lo ∨ lo + os.length ≤ x.toInt) ∧ d = some y)
  | [], [], lo, _, h => by
    right
    refine ⟨?_, h⟩
    simp only [List.length_nil]
    omega
  | [], _ :: _, _, h, _ => by cases h
  | _ :: _, [], _, h, _ => by cases h
  | o :: os, (k, t) :: r, lo, hz, h => by
    unfold zc_ts at hz
    rw [Bool.and_eq_true, Bool.and_eq_true, Bool.and_eq_true] at hz
    obtain ⟨⟨⟨-, hk⟩, ht⟩, hz⟩ := hz
    have hk : k.toInt = lo := of_decide_eq_true hk
    have ht : (pc : Int) + o = (t : Int) := of_decide_eq_true ht
    unfold zm_sw at h
    dsimp only at h
    by_cases hx : x = k
    · rw [show decide (x = k) = true from decide_eq_true hx] at h
      left
      exact ⟨0, o, t, rfl, by rw [hx, hk]; simp, ht, h⟩
    · rw [show decide (x = k) = false from decide_eq_false hx] at h
      have hne : ¬ x.toInt = lo := fun q => hx (Int32.toInt_inj.mp (q.trans hk.symm))
      rcases zw_ts os r (lo + 1) hz h with ⟨j, off, t', h1, h2, h3, h4⟩ | ⟨h1, h2⟩
      · left
        refine ⟨j + 1, off, t', by simpa using h1, ?_, h3, h4⟩
        rw [h2]
        push_cast
        omega
      · right
        refine ⟨?_, h2⟩
        simp only [List.length_cons]
        push_cast
        omega
theorem zw_ls {pc : Nat} {x : Int32} {go : Nat → zm_R} {dd : Int} {td : Nat} {y : Option Value × zm_H} (hd : (pc : Int) + dd = (td : Int)) : ∀ (ps : List (Int × Int)) (sw : List (Int32 × Nat)), zc_ls pc ps sw = true → zm_sw x sw (go td) go = some y →
    ∃ (off : Int) (t : Nat), Op.lookupswitch.offset ps dd x.toInt = off ∧ (pc : Int) + off = (t : Int) ∧ go t = some y
  | [], [], _, h => ⟨dd, td, by simp [Op.lookupswitch.offset], hd, h⟩
  | [], _ :: _, h, _ => by cases h
  | _ :: _, [], h, _ => by cases h
  | (a, o) :: os, (k, t) :: r, hz, h => by
    unfold zc_ls at hz
    rw [Bool.and_eq_true, Bool.and_eq_true] at hz
    obtain ⟨⟨hk, ht⟩, hz⟩ := hz
    have hk : k.toInt = a := of_decide_eq_true hk
    have ht : (pc : Int) + o = (t : Int) := of_decide_eq_true ht
    unfold zm_sw at h
    dsimp only at h
    by_cases hx : x = k
    · rw [show decide (x = k) = true from decide_eq_true hx] at h
      refine ⟨o, t, ?_, ht, h⟩
      rw [Op.lookupswitch.offset_cons, if_pos (by rw [hx, hk])]
    · rw [show decide (x = k) = false from decide_eq_false hx] at h
      obtain ⟨off, t', h1, h2, h3⟩ := zw_ls hd os r hz h
      exact ⟨off, t', by rw [lv_osw hx hk]; exact h1, h2, h3⟩
/-! the classes -/
theorem zv_in {ci : Nat} {q : vw_C} (h : vwCl[ci]? = some q) : ∀ w ∈ u_ws q.1 q.2.1 q.2.2, w ∈ lw_g := by
  match ci, h with
  | 0, h => cases h; exact zu_0
  | 1, h => cases h; exact zu_1
  | 2, h => cases h; exact zu_2
  | 3, h => cases h; exact zu_3
  | 4, h => cases h; exact zu_4
  | 5, h => cases h; exact zu_5
  | 6, h => cases h; exact zu_6
  | 7, h => cases h; exact zu_7
  | 8, h => cases h; exact zu_8
  | 9, h => cases h; exact zu_9
  | 10, h => cases h; exact zu_10
  | n + 11, h => cases h
theorem zv_ty {ci : Nat} {q : vw_C} (h : vwCl[ci]? = some q) : ∃ ty0 : Nat → FieldType, (∀ k, k < q.2.2 → parseFieldDescriptor (q.2.1 k).2.2.1 = some (ty0 k)) ∧ (∀ a, a < q.2.2 → ∀ b, b < q.2.2 → a ≠ b → (q.2.1 a).2.1 ≠ (q.2.1 b).2.1) := by
  match ci, h with
  | 0, h => cases h; exact ⟨tyX0, tyX0_ok, nmX0⟩
  | 1, h => cases h; exact ⟨tyX1, tyX1_ok, nmX1⟩
  | 2, h => cases h; exact ⟨tyX2, tyX2_ok, nmX2⟩
  | 3, h => cases h; exact ⟨tyX3, tyX3_ok, nmX3⟩
  | 4, h => cases h; exact ⟨tyX4, tyX4_ok, nmX4⟩
  | 5, h => cases h; exact ⟨tyX5, tyX5_ok, nmX5⟩
  | 6, h => cases h; exact ⟨tyX6, tyX6_ok, nmX6⟩
  | 7, h => cases h; exact ⟨tyX7, tyX7_ok, nmX7⟩
  | 8, h => cases h; exact ⟨tyX8, tyX8_ok, nmX8⟩
  | 9, h => cases h; exact ⟨tyX9, tyX9_ok, nmX9⟩
  | 10, h => cases h; exact ⟨tyX10, tyX10_ok, nmX10⟩
  | n + 11, h => cases h
section STEP
variable {l : Launch} {ad : Nat → Nat} {cA cJ cS : ClassId} {D : va_G} {A : Nat → Prop} {sv : Nat → Nat → Int32}
theorem zw_atO {h : zm_H} {o ci : Nat} (h1 : (zm_kd o).1 = 0) (h2 : (zm_kd o).2 = ci) : (zw ad cA cJ cS h)[o]? = some (ad o, .inr (ci, (List.range (zm_nF ci)).map (zw_fv ad h o))) := by
  subst h2
  rw [zw_at (zk_lt (by omega))]
  unfold zw_cell
  rw [h1]
  rfl
theorem zw_atI {h : zm_H} {o : Nat} (h1 : (zm_kd o).1 = 1) : (zw ad cA cJ cS h)[o]? = some (ad o, .inl (cA, (zm_kd o).2, .inl (h.1 o))) := by
  rw [zw_at (zk_lt (by omega))]
  unfold zw_cell
  rw [h1]
  rfl
theorem zw_atJ {h : zm_H} {o : Nat} (h1 : (zm_kd o).1 = 2) : (zw ad cA cJ cS h)[o]? = some (ad o, .inl (cJ, (zm_kd o).2, .inr (.inl (h.2 o)))) := by
  rw [zw_at (zk_lt (by omega))]
  unfold zw_cell
  rw [h1]
  rfl
theorem zw_atQ {h : zm_H} {o : Nat} (h1 : (zm_kd o).1 = 3) : (zw ad cA cJ cS h)[o]? = some (ad o, .inl (cS, (zm_kd o).2, .inr (.inr (.inr (.inr (fun j => some (ad (zm_rt o j)))))))) := by
  rw [zw_at (zk_lt (by omega))]
  unfold zw_cell
  rw [h1]
  rfl
theorem zw_putI {h : zm_H} {o k : Nat} {x : Int32} (h1 : (zm_kd o).1 = 0) (hk : k < zm_nF (zm_kd o).2) (hf : zm_fr (zm_kd o).2 k = false) : (zw ad cA cJ cS h).set o (ad o, .inr ((zm_kd o).2, ((List.range (zm_nF (zm_kd o).2)).map (zw_fv ad h o)).set k (.int x))) = zw ad cA cJ cS (zm_ui h o k x) := by
  rw [← zw_set (ad := ad) (cA := cA) (cJ := cJ) (cS := cS) (h := h) (h' := zm_ui h o k x) (zk_lt (o := o) (by omega)) (fun j hj => ⟨by funext b; show (if j = o ∧ b = k then x else h.1 j b) = _; rw [if_neg (fun q => hj q.1)], rfl⟩)]
  congr 2
  unfold zw_cell
  rw [h1]
  (try dsimp only)
  congr 2
  apply List.ext_getElem?
  intro j
  by_cases hj : j = k
  · subst hj
    rw [List.getElem?_set_self (by simpa using hk), List.getElem?_map, List.getElem?_range hk]
    show some (Value.int x) = some (zw_fv ad (zm_ui h o j x) o j)
    unfold zw_fv
    rw [hf]
    show _ = some (Value.int (if o = o ∧ j = j then x else h.1 o j))
    rw [if_pos ⟨rfl, rfl⟩]
  · rw [List.getElem?_set_ne (Ne.symm hj), List.getElem?_map, List.getElem?_map]
    cases hq : (List.range (zm_nF (zm_kd o).2))[j]? with
    | none => rfl
    | some z =>
      have hz : z = j := by
        obtain ⟨_, e⟩ := List.getElem?_eq_some_iff.mp hq
        simpa using e.symm
      subst hz
      show some (zw_fv ad h o z) = some (zw_fv ad (zm_ui h o k x) o z)
      unfold zw_fv
      show _ = some (cond _ _ (Value.int (if o = o ∧ z = k then x else h.1 o z)))
      rw [if_neg (fun q => hj q.2)]
theorem zw_putA {h : zm_H} {o k : Nat} {x : Int32} (h1 : (zm_kd o).1 = 1) : (zw ad cA cJ cS h).set o (ad o, .inl (cA, (zm_kd o).2, .inl (upd (h.1 o) k x))) = zw ad cA cJ cS (zm_ui h o k x) := by
  rw [← zw_set (ad := ad) (cA := cA) (cJ := cJ) (cS := cS) (h := h) (h' := zm_ui h o k x) (zk_lt (o := o) (by omega)) (fun j hj => ⟨by funext b; show (if j = o ∧ b = k then x else h.1 j b) = _; rw [if_neg (fun q => hj q.1)], rfl⟩)]
  congr 2
  unfold zw_cell
  rw [h1]
  (try dsimp only)
  refine congrArg (fun f => (Sum.inl (cA, (zm_kd o).2, Sum.inl f) : va_E)) ?_
  funext b
  show (if b = k then x else h.1 o b) = (if o = o ∧ b = k then x else h.1 o b)
  by_cases hb : b = k
  · rw [if_pos hb, if_pos ⟨rfl, hb⟩]
  · rw [if_neg hb, if_neg (fun q => hb q.2)]
theorem zw_putJ {h : zm_H} {o k : Nat} {x : Int64} (h1 : (zm_kd o).1 = 2) : (zw ad cA cJ cS h).set o (ad o, .inl (cJ, (zm_kd o).2, .inr (.inl (vp_updL (h.2 o) k x)))) = zw ad cA cJ cS (zm_ul h o k x) := by
  rw [← zw_set (ad := ad) (cA := cA) (cJ := cJ) (cS := cS) (h := h) (h' := zm_ul h o k x) (zk_lt (o := o) (by omega)) (fun j hj => ⟨rfl, by funext b; show (if j = o ∧ b = k then x else h.2 j b) = _; rw [if_neg (fun q => hj q.1)]⟩)]
  congr 2
  unfold zw_cell
  rw [h1]
  (try dsimp only)
  refine congrArg (fun f => (Sum.inl (cJ, (zm_kd o).2, Sum.inr (Sum.inl f)) : va_E)) ?_
  funext b
  show (if b = k then x else h.2 o b) = (if o = o ∧ b = k then x else h.2 o b)
  by_cases hb : b = k
  · rw [if_pos hb, if_pos ⟨rfl, hb⟩]
  · rw [if_neg hb, if_neg (fun q => hb q.2)]
theorem zw_putC {h : zm_H} {o a0 sp dp n : Nat} (h1 : (zm_kd o).1 = 2) : (zw ad cA cJ cS h).set o (ad o, .inl (cJ, (zm_kd o).2, .inr (.inl (va_cpy (h.2 a0) (h.2 o) sp dp n)))) = zw ad cA cJ cS (zm_cpy h a0 o sp dp n) := by
  rw [← zw_set (ad := ad) (cA := cA) (cJ := cJ) (cS := cS) (h := h) (h' := zm_cpy h a0 o sp dp n) (zk_lt (o := o) (by omega)) (fun j hj => ⟨rfl, by funext b; show (if j = o then _ else h.2 j b) = _; rw [if_neg hj]⟩)]
  congr 2
  unfold zw_cell
  rw [h1]
  (try dsimp only)
  refine congrArg (fun f => (Sum.inl (cJ, (zm_kd o).2, Sum.inr (Sum.inl f)) : va_E)) ?_
  funext b
  show _ = (if o = o then va_cpy (h.2 a0) (h.2 o) sp dp n b else h.2 o b)
  rw [if_pos rfl]
section IF
variable {p : Program} {e : Env} {R : Room} {s : State} {m : MethodId} {args : Array Value} {below : List Frame} {meth : Method} {c : Code} {H : Heap} {locs : List Loc} {cells slots : Nat} {Q : State → Prop} {cc : ByteArray} {pc : Nat} {ls : Array Slot} {rest : List Value}
theorem lv_ifc (hexec : p.tables.exec = Jvm.exec) (hb : c.code = cc) {cd : ClassFile.Cond} {x : Int32} {off : Int} {tgt : Nat} (hdg : decode cc pc = .ok (.ifCond cd off, 3)) (ht : (pc : Int) + off = (tgt : Int))
    (kt : zm_cmp0 cd x = true → W p l e R s m args below meth c H locs cells slots Q (F0 m tgt ls rest)) (kf : zm_cmp0 cd x = false → W p l e R s m args below meth c H locs cells slots Q (F0 m (pc + 3) ls rest)) : W p l e R s m args below meth c H locs cells slots Q (F0 m pc ls (.int x :: rest)) := by
  cases cd
  · exact lv_if_eq hexec hb hdg ht (fun h => kt (decide_eq_true h)) (fun h => kf (decide_eq_false h))
  · exact lv_if_ne hexec hb hdg ht (fun h => kt (by show (!(decide (x = 0))) = true; rw [decide_eq_false h]; rfl)) (fun h => kf (by show (!(decide (x = 0))) = false; rw [decide_eq_true h]; rfl))
  · exact lv_if_lt hexec hb hdg ht (fun h => kt (decide_eq_true h)) (fun h => kf (decide_eq_false h))
  · exact lv_if_ge hexec hb hdg ht (fun h => kt (decide_eq_true h)) (fun h => kf (decide_eq_false h))
  · exact lv_if_gt hexec hb hdg ht (fun h => kt (decide_eq_true h)) (fun h => kf (decide_eq_false h))
  · exact lv_if_le hexec hb hdg ht (fun h => kt (decide_eq_true h)) (fun h => kf (decide_eq_false h))
theorem lv_icmpc (hexec : p.tables.exec = Jvm.exec) (hb : c.code = cc) {cd : ClassFile.Cond} {x y : Int32} {off : Int} {tgt : Nat} (hdg : decode cc pc = .ok (.if_icmp cd off, 3)) (ht : (pc : Int) + off = (tgt : Int))
    (kt : zm_cmp cd x y = true → W p l e R s m args below meth c H locs cells slots Q (F0 m tgt ls rest)) (kf : zm_cmp cd x y = false → W p l e R s m args below meth c H locs cells slots Q (F0 m (pc + 3) ls rest)) : W p l e R s m args below meth c H locs cells slots Q (F0 m pc ls (.int y :: .int x :: rest)) := by
  cases cd
  · exact lv_icmp_eq hexec hb hdg ht (fun h => kt (decide_eq_true h)) (fun h => kf (decide_eq_false h))
  · exact lv_icmp_ne hexec hb hdg ht (fun h => kt (by show (!(decide (x = y))) = true; rw [decide_eq_false h]; rfl)) (fun h => kf (by show (!(decide (x = y))) = false; rw [decide_eq_true h]; rfl))
  · exact lv_icmp_lt hexec hb hdg ht (fun h => kt (decide_eq_true h)) (fun h => kf (decide_eq_false h))
  · exact lv_icmp_ge hexec hb hdg ht (fun h => kt (decide_eq_true h)) (fun h => kf (decide_eq_false h))
  · exact lv_icmp_gt hexec hb hdg ht (fun h => kt (decide_eq_true h)) (fun h => kf (decide_eq_false h))
  · exact lv_icmp_le hexec hb hdg ht (fun h => kt (decide_eq_true h)) (fun h => kf (decide_eq_false h))
end IF
end STEP
