/-! the constructors' machine, run -/
theorem zp_no1 {b : Bool} {x : zp_S} {y : (Nat × List Value × Nat × List Value) ⊕ Unit} (h : cond b (some (.inl x) : Option zp_A) none = some (.inr y)) : False := by
  cases b <;> cases h
theorem zp_no3 {b : Bool} {x : Nat × List Value × Nat × List Value} {u : Unit} (h : cond b (some (.inr (.inl x)) : Option zp_A) none = some (.inr (.inr u))) : False := by
  cases b <;> cases h
theorem zp_act_ret {mi pc : Nat} {L : zm_L} {S : List Value} {hp : List zp_C} {e : ZI} {u : Unit} (h : zp_act mi pc L S hp e = some (.inr (.inr u))) : e.1 = .return_ ∧ S = [] := by
  obtain ⟨i, ln, aux, v, sw⟩ := e
  unfold zp_act at h
  (try dsimp only at h)
  cases i
  case return_ =>
    (try dsimp only at h)
    split at h
    · exact ⟨rfl, rfl⟩
    · cases h
  case putfield n =>
    exfalso
    (try dsimp only at h)
    split at h
    · split at h
      · exact zp_no1 h
      · cases h
    · cases h
  case getfield n =>
    exfalso
    (try dsimp only at h)
    split at h
    · rename_i ci k t pl fin o rr
      split at h
      · rename_i ci2 fs ho
        cases hcb : Nat.beq ci2 ci with
        | false => rw [hcb] at h; cases h
        | true =>
          rw [hcb] at h
          dsimp only [cond] at h
          split at h <;> cases h
      · cases h
    · cases h
  case iastore =>
    exfalso
    (try dsimp only at h)
    split at h
    · split at h
      · exact zp_no1 h
      · cases h
    · cases h
  case aastore =>
    exfalso
    (try dsimp only at h)
    split at h
    · split at h
      · exact zp_no1 h
      · cases h
    · cases h
  case invokespecial n =>
    exfalso
    (try dsimp only at h)
    split at h
    · split at h
      · exact zp_no1 h
      · cases h
    · split at h
      · exact zp_no3 h
      · cases h
    · cases h
  all_goals first
    | (cases h; done)
    | (exfalso; (try dsimp only at h); (try simp only [cond_eq_ite] at h); repeat' (split at h); all_goals first | (cases h; done) | (simp at h; done))
theorem zp_act_call {mi pc : Nat} {L : zm_L} {S S' : List Value} {hp : List zp_C} {e : ZI} {c pc' : Nat} {as : List Value} (h : zp_act mi pc L S hp e = some (.inr (.inl (c, as, pc', S')))) :
    ∃ n np q p1 p2 p3 o, e.1 = .invokespecial n ∧ e.2.2.1 = [c, np, q, p1, p2, p3] ∧ S.drop np = .ref o :: S' ∧ as = .ref o :: (S.take np).reverse ∧ pc' = pc + e.2.1 ∧ zm_cat S' ≤ 8 ∧ (S.take np).length = np := by
  obtain ⟨i, ln, aux, v, sw⟩ := e
  unfold zp_act at h
  (try dsimp only at h)
  cases i
  case invokespecial n =>
    (try dsimp only at h)
    split at h
    · split at h
      · rename_i o rr
        cases hb : Nat.ble (zm_cat rr) 8 with
        | false => rw [hb] at h; cases h
        | true => rw [hb] at h; cases h
      · cases h
    · rename_i c2 np q p1 p2 p3
      split at h
      · rename_i o rr hd
        cases hb : (Nat.ble (zm_cat rr) 8 && Nat.beq (S.take np).length np) with
        | false => rw [hb] at h; cases h
        | true =>
          rw [hb] at h
          cases h
          rw [Bool.and_eq_true] at hb
          exact ⟨n, np, q, p1, p2, p3, o, rfl, rfl, hd, rfl, rfl, Nat.le_of_ble_eq_true hb.1, zc_beq hb.2⟩
      · cases h
    · cases h
  case putfield n =>
    exfalso
    (try dsimp only at h)
    split at h
    · split at h
      · exact zp_no1 h
      · cases h
    · cases h
  case getfield n =>
    exfalso
    (try dsimp only at h)
    split at h
    · rename_i ci k t pl fin o rr
      split at h
      · rename_i ci2 fs ho
        cases hcb : Nat.beq ci2 ci with
        | false => rw [hcb] at h; cases h
        | true =>
          rw [hcb] at h
          dsimp only [cond] at h
          split at h <;> cases h
      · cases h
    · cases h
  case iastore =>
    exfalso
    (try dsimp only at h)
    split at h
    · split at h
      · exact zp_no1 h
      · cases h
    · cases h
  case aastore =>
    exfalso
    (try dsimp only at h)
    split at h
    · split at h
      · exact zp_no1 h
      · cases h
    · cases h
  all_goals first
    | (cases h; done)
    | (exfalso; (try dsimp only at h); (try simp only [cond_eq_ite] at h); repeat' (split at h); all_goals first | (cases h; done) | (simp at h; done))
theorem zp_run_ret : ∀ (F c pc : Nat) (L : zm_L) (S : List Value) (hp : List zp_C) (q : zp_S), c < zp_NM → zp_run F c pc L S hp = some q → q.2.2.1 = [] ∧ ∃ e, zp_tab c q.1 = some e ∧ e.1 = .return_
  | 0, _, _, _, _, _, _, _, h => by cases h
  | F + 1, c, pc, L, S, hp, q, hc, h => by
    unfold zp_run at h
    have hs : zp_stop c pc = false := by
      unfold zp_stop
      cases hb : Nat.beq c zp_NM with
      | false => rfl
      | true => have := zc_beq hb; omega
    rw [hs] at h
    dsimp only [cond] at h
    cases ht : zp_tab c pc with
    | none => rw [ht] at h; cases h
    | some e =>
      rw [ht] at h
      (try dsimp only at h)
      cases ha : zp_act c pc L S hp e with
      | none => rw [ha] at h; cases h
      | some a =>
        rw [ha] at h
        (try dsimp only at h)
        rcases a with x | ⟨c2, as, pc', S'⟩ | u
        · exact zp_run_ret F c _ _ _ _ q hc h
        · (try dsimp only at h)
          cases hg : (Nat.blt c2 zp_NM && zp_fit c2 as) with
          | false => rw [hg] at h; cases h
          | true =>
            rw [hg] at h
            dsimp only [cond] at h
            cases hq : zp_run F c2 0 (zp_ent c2 as) [] hp with
            | none => rw [hq] at h; cases h
            | some x =>
              rw [hq] at h
              exact zp_run_ret F c _ _ _ _ q hc h
        · cases h
          obtain ⟨h1, h2⟩ := zp_act_ret ha
          exact ⟨h2, e, ht, h1⟩
section ZPR
variable {l : Launch} {base : Nat} {cA cJ cS : ClassId} {D : va_G}
def zp_rm (F mc ms : Nat) : Room := { frames := F + 1, cells := mc, slots := ms, locals := 40 * F + 40 }
def zp_ws (c : Nat) : List Jvm.Cond := .code (zp_y c) (zp_b c) (zp_ml c) none :: lw_g
def zp_In (base : Nat) (cA cJ cS : ClassId) (D : va_G) (hp : List zp_C) (U : State) : Prop := U.heap.size = base + hp.length ∧ va_P D vwCl (zp base cA cJ cS hp) U.heap ∧ va_K D vwCl (zw_ty cA cJ cS) U ∧ zp_N U
def zp_Q (base : Nat) (cA cJ cS : ClassId) (D : va_G) (hp' : List zp_C) : Array Value → State → Outcome → State → Prop := fun _ st oc t => oc = .returned none ∧ va_P D vwCl (zp base cA cJ cS hp') t.heap ∧ va_F (fun q => base ≤ q) st t
theorem zp_W.up {F mi pc : Nat} {L : zm_L} {S : List Value} {hp : List zp_C} {res : zp_S} (h : zp_W l base cA cJ cS D F mi pc L S hp res) : zp_W l base cA cJ cS D (F + 1) mi pc L S hp res := by
  intro p e R s m args below meth c H locs cells slots Q ls hx hb hml hown hts hin hK hN hA hR hcs hnum hP hS hL hret
  exact h hx hb hml hown hts hin hK hN hA ⟨by omega, by omega⟩ hcs hnum hP hS hL hret
theorem zw_lh.entryP {ad : Nat → Nat} {c : Nat} {as : List Value} (h : zp_fit c as = true) : zw_lh ad ((lg_sl (as.map (zw_v ad)) ++ List.replicate (zp_ml c - (lg_sl (as.map (zw_v ad))).length) Slot.unset).toArray) (zp_ml c) (zp_ent c as) := by
  have hl := lv_entry (as.map (zw_v ad)) (n := zp_ml c) (by rw [zm_args_len]; exact Nat.le_of_ble_eq_true h)
  refine ⟨hl.1, hl.2.1, fun i v hv => ?_⟩
  have := zm_args_in ad as 0 i v (zm_pad_gl hv)
  rw [Nat.zero_add] at this
  exact hl.2.2 (i, zw_v ad v) this
theorem zp_ofW {F c : Nat} {as : List Value} {hp : List zp_C} {q : zp_S} (hc : c < zp_NM) (hf : zp_fit c as = true) (hS0 : q.2.2.1 = []) (hd : decode (zp_b c) q.1 = .ok (.return_, 1)) (hW : zp_W l base cA cJ cS D F c 0 (zp_ent c as) [] hp q) :
    Met l (zp_y c) (zp_ws c) (zp_rm F (q.2.2.2.length - hp.length) (zp_sl q.2.2.2 - zp_sl hp)) (va_Pc (as.map (zp_v base)) (zp_In base cA cJ cS D hp)) (zp_Q base cA cJ cS D q.2.2.2) (q.2.2.2.length - hp.length) (zp_sl q.2.2.2 - zp_sl hp) (fun q => base ≤ q) := by
  obtain ⟨-, hpl, hnm⟩ := zp_dAll c hc
  refine Met.ofW (cc := zp_b c) (maxL := zp_ml c) (ret := none) hpl rfl ?_
  intro p e s m args below meth cd s₁ B hml hv
  obtain ⟨rfl, hz, hP, hK, hN⟩ := hv
  have hx := B.exec
  have hb := B.bytes
  have hr := B.returns
  have hts0 := atoms_spec (ws := zp_ws c) B.pre
  have hts : ∀ w ∈ lw_g, w.before (as.map (zp_v base)).toArray s = true := fun w hw => hts0 w (List.mem_cons_of_mem _ hw)
  have hown : s.vm.findClass (zp_own c) = some m.cls := findClass_of_methodNamed B.named
  have hin : meth.name = "<init>" := by rw [← hnm]; exact (name_of_methodNamed B.named B.method).1
  have hlocks := B.notSynchronized
  rw [lg_entry_eq]
  refine hW (R := (headSpec (zp_ws c) (zp_rm F (q.2.2.2.length - hp.length) (zp_sl q.2.2.2 - zp_sl hp))).room) hx hb hml hown hts (fun _ => hin) hK hN (by omega) ⟨Nat.le_refl _, Nat.le_refl _⟩ ⟨by show 0 + _ ≤ _; rw [Nat.zero_add]; exact Nat.le_refl _, by show 0 + _ ≤ _; rw [Nat.zero_add]; exact Nat.le_refl _⟩ (by omega) hP va_S.rf (zw_lh.entryP hf) ?_
  intro H' locs' ls' hP' hS' _
  rw [hS0, Nat.zero_add, Nat.zero_add]
  exact W.vret hx hb (by rw [hr]) (fun t ht hW => ⟨rfl, by rw [ht]; exact hP', hS'.F ht⟩) hS'.2.2 hd
theorem zp_blind {as : List Value} {hp : List zp_C} : FrameBlind (va_Pc as (zp_In base cA cJ cS D hp)) := by
  intro a U g mk q
  obtain ⟨q0, q1, q2, q3, q4⟩ := q
  exact ⟨q0, q1, q2, va_K.moved (u := U) (U := U.calling g mk a) (Vm.Alike.refl U.vm) q3, q4.call⟩
theorem zp_back {p : Program} {e : Env} {R : Room} {s : State} {m : MethodId} {args : Array Value} {below : List Frame} {meth : Method} {c : Code} {H : Heap} {locs : List Loc} {cells slots mc ms : Nat} {Q : State → Prop} {pc : Nat} {ls : Array Slot} {rest st0 : List Value} {a : Array Value} {hp' : List zp_C}
    (hr : va_Run p l e R s m args below meth c H locs cells slots mc ms (F0 m pc ls st0) rest (zp_Q base cA cJ cS D hp' a) (fun q => base ≤ q)) (hS : va_S (fun q => base ≤ q) s.heap H locs)
    (kk : ∀ (H1 : Heap) (locs1 : List Loc), va_P D vwCl (zp base cA cJ cS hp') H1 → va_S (fun q => base ≤ q) s.heap H1 locs1 → W p l e R s m args below meth c H1 locs1 (cells + mc) (slots + ms) Q (F0 m (pc + 3) ls rest)) : W p l e R s m args below meth c H locs cells slots Q (F0 m pc ls st0) := by
  intro T hT X
  obtain ⟨v, st₀, t, T', L, h0, X', hL, e1, e2, ⟨hv, hP, hz, hk⟩, st⟩ := hr T hT X
  cases hv
  rw [h0] at hz hk
  obtain ⟨t2, a1, b1⟩ := kk T'.heap (locs ++ L) (by rw [e1]; exact hP)
    ⟨Nat.le_trans hS.1 (by rw [e1]; exact hz), fun q h1 h2 => by rw [e1, hk q (Nat.lt_of_lt_of_le h1 hS.1) h2]; exact hS.2.1 q h1 h2, fun q hq => by
      rcases List.mem_append.mp hq with h | h
      · exact hS.2.2 q h
      · exact hL q h⟩ T' rfl X'
  exact ⟨t2, st t2 a1, b1⟩
set_option maxHeartbeats 4000000 in
theorem zp_run_sound : ∀ (F mi pc : Nat) (L : zm_L) (S : List Value) (hp : List zp_C) (res : zp_S), mi < zp_NM + 1 → zp_run F mi pc L S hp = some res → zp_le hp res.2.2.2 ∧ zp_W l base cA cJ cS D F mi pc L S hp res
  | 0, _, _, _, _, _, _, _, h => by cases h
  | F + 1, mi, pc, L, S, hp, res, hmi, h => by
    unfold zp_run at h
    cases hs : zp_stop mi pc with
    | true =>
      rw [hs] at h
      cases h
      refine ⟨⟨Nat.le_refl _, Nat.le_refl _⟩, ?_⟩
      intro p e R s m args below meth c H locs cells slots Q ls hx hb hml hown hts hin hK hN hA hR hcs hnum hP hS hL hret
      have := hret H locs ls hP hS hL
      dsimp only at this
      rw [Nat.sub_self, Nat.sub_self] at this
      exact this
    | false =>
      rw [hs] at h
      dsimp only [cond] at h
      cases ht : zp_tab mi pc with
      | none => rw [ht] at h; cases h
      | some e =>
        rw [ht] at h
        (try dsimp only at h)
        cases ha : zp_act mi pc L S hp e with
        | none => rw [ha] at h; cases h
        | some a =>
          rw [ha] at h
          (try dsimp only at h)
          rcases a with x | ⟨c2, as, pc', S'⟩ | u
          · obtain ⟨h1, h2⟩ := zp_run_sound F mi _ _ _ _ res hmi h
            obtain ⟨h3, h4⟩ := zp_step hmi ht ha h1 h2
            exact ⟨h3, h4.up⟩
          · (try dsimp only at h)
            cases hg : (Nat.blt c2 zp_NM && zp_fit c2 as) with
            | false => rw [hg] at h; cases h
            | true =>
              rw [hg] at h
              dsimp only [cond] at h
              rw [Bool.and_eq_true] at hg
              have hc2 := Nat.le_of_ble_eq_true hg.1
              cases hq : zp_run F c2 0 (zp_ent c2 as) [] hp with
              | none => rw [hq] at h; cases h
              | some q =>
                rw [hq] at h
                (try dsimp only at h)
                have hc3 : c2 < zp_NM := hc2
                obtain ⟨h1, h2⟩ := zp_run_sound F c2 0 _ _ _ q (by omega) hq
                obtain ⟨hS0, e2, ht2, hi2⟩ := zp_run_ret F c2 0 _ _ _ q hc3 hq
                have hd2 := zp_chk_dec (zp_checked (by omega) ht2)
                have hk2 := zp_checked (mi := c2) (by omega) ht2
                rw [hi2] at hd2
                have hln : e2.2.1 = 1 := by
                  unfold zp_chk at hk2
                  rw [Bool.and_eq_true] at hk2
                  have hk3 := hk2.2
                  rw [hi2] at hk3
                  exact zc_beq hk3
                rw [hln] at hd2
                have hM := zp_ofW hc3 hg.2 hS0 hd2 h2
                obtain ⟨h5, h6⟩ := zp_run_sound F mi _ _ _ _ res hmi h
                refine ⟨⟨Nat.le_trans h1.1 h5.1, Nat.le_trans h1.2 h5.2⟩, ?_⟩
                intro p ev R s m args below meth c H locs cells slots Q ls hx hb hml hown hts hin hK hN hA hR hcs hnum hP hS hL hret
                have hck := zp_checked hmi ht
                have hd := zp_chk_dec hck
                obtain ⟨n, np, qn, p1, p2, p3, o, ei, eaux, edrop, eas, epc, ecat, elen⟩ := zp_act_call ha
                subst eas; subst epc
                rw [ei] at hd
                unfold zp_chk at hck
                rw [Bool.and_eq_true] at hck
                have hck := hck.2
                rw [ei] at hck
                dsimp only at hck
                rw [eaux] at hck
                simp only [Bool.and_eq_true] at hck
                obtain ⟨⟨⟨⟨⟨⟨k1, k2⟩, k3⟩, k4⟩, k5⟩, k6⟩, k7⟩ := hck
                have k1 := zc_beq k1
                have k6 : (zp_y c2).name = "<init>" := of_decide_eq_true k6
                rw [k1] at hd h h6
                unfold zc_y at k5
                simp only [Bool.and_eq_true, decide_eq_true_eq] at k5
                have hmlc := zp_mlLe c2 hc3
                have hin2 : GoodIn lw_g (zp_ws c2) := by
                  intro w hw
                  refine zw_good w ?_
                  unfold zp_ws at hw
                  rcases List.mem_cons.mp hw with rfl | hw
                  · exact (zp_dAll c2 hc3).1
                  · exact hw
                have hstack : S.map (zp_v base) = (((S.take np).reverse).map (zp_v base)).reverse ++ .ref (base + o) :: S'.map (zp_v base) := by
                  conv => lhs; rw [← List.take_append_drop np S, edrop]
                  rw [List.map_append, List.map_reverse, List.reverse_reverse]
                  rfl
                refine zp_szW hnum hP hS hA (fun hz => ?_)
                have hpre : PreS s H (va_Pc ((Value.ref o :: (S.take np).reverse).map (zp_v base)) (zp_In base cA cJ cS D hp)) (.ref (base + o) :: ((S.take np).reverse).map (zp_v base)) :=
                  ⟨zp_blind, fun U hU hW => ⟨rfl, by rw [hU]; exact hz, by rw [hU]; exact hP, va_K.moved hW.alike hK, hN.warm hW⟩⟩
                have hcs2 : cells + (q.2.2.2.length - hp.length) ≤ R.cells ∧ slots + (zp_sl q.2.2.2 - zp_sl hp) ≤ R.slots := by
                  have a1 := h1.1; have a2 := h1.2; have a3 := h5.1; have a4 := h5.2; have a5 := hcs.1; have a6 := hcs.2
                  exact ⟨by omega, by omega⟩
                have run : va_Run p l ev R s m args below meth c H locs cells slots (q.2.2.2.length - hp.length) (zp_sl q.2.2.2 - zp_sl hp) (F0 m pc ls (S.map (zp_v base))) (S'.map (zp_v base)) (zp_Q base cA cJ cS D q.2.2.2 (Value.ref (base + o) :: ((S.take np).reverse).map (zp_v base)).toArray) (fun q => base ≤ q) := by
                  cases hqn : Nat.beq qn 0 with
                  | true =>
                    rw [hqn] at k7
                    exact va_runI (n := np) ⟨hx, hb, hml, hown, hts⟩ hM (cwI np hts hin2 rfl rfl rfl (hts _ (zc_w_in k4)) (hts _ (zc_w_in k7)) (hts _ (zc_w_in k3)) k6 ⟨k5.1.1, k5.1.2, k5.2⟩ ⟨hR.1, by show 8 + (zp_ml c2 + 11) + (40 * F + 40) ≤ R.locals; omega⟩) hpre rfl (by rw [List.length_map, List.length_reverse]; exact elen) hL.1 hstack (lv_room (by rw [show ((S'.map (zp_v base)).map fun v => v.category).sum = zm_cat S' from zw_cat _ S']; exact ecat)) hd hcs2
                  | false =>
                    rw [hqn] at k7
                    have k7 : zp_nest[zp_nx p1]? = some (.methodLinkNest (zp_own mi) n (zp_y c2) "EndTooLong") := of_decide_eq_true k7
                    exact va_runIN (n := np) ⟨hx, hb, hml, hown, hts⟩ hM ⟨va_cnB np hts hin2 rfl rfl rfl (hN.1 _ (List.mem_of_getElem? k7)) (hts _ (zc_w_in k4)) ⟨k5.1.1, k5.1.2, k5.2⟩ ⟨hR.1, by show 8 + (zp_ml c2 + 11) + (40 * F + 40) ≤ R.locals; omega⟩, k6, hts _ (zc_w_in k3)⟩ hpre rfl (by rw [List.length_map, List.length_reverse]; exact elen) hL.1 hstack (lv_room (by rw [show ((S'.map (zp_v base)).map fun v => v.category).sum = zm_cat S' from zw_cat _ S']; exact ecat)) hd hcs2
                refine zp_back run hS (fun H1 locs1 hP1 hS1 => ?_)
                have a1 := h1.1; have a2 := h1.2; have a3 := h5.1; have a4 := h5.2; have a5 := hcs.1; have a6 := hcs.2
                refine h6 hx hb hml hown hts hin hK hN hA ⟨by omega, by omega⟩ ⟨by omega, by omega⟩ (by omega) hP1 hS1 hL ?_
                intro H' locs' ls' r2 r3 r4
                have := hret H' locs' ls' r2 r3 r4
                rw [show cells + (q.2.2.2.length - hp.length) + (res.2.2.2.length - q.2.2.2.length) = cells + (res.2.2.2.length - hp.length) by omega, show slots + (zp_sl q.2.2.2 - zp_sl hp) + (zp_sl res.2.2.2 - zp_sl q.2.2.2) = slots + (zp_sl res.2.2.2 - zp_sl hp) by omega]
                exact this
          · cases h
            refine ⟨⟨Nat.le_refl _, Nat.le_refl _⟩, ?_⟩
            intro p e R s m args below meth c H locs cells slots Q ls hx hb hml hown hts hin hK hN hA hR hcs hnum hP hS hL hret
            have := hret H locs ls hP hS hL
            dsimp only at this
            rw [Nat.sub_self, Nat.sub_self] at this
            exact this
end ZPR
