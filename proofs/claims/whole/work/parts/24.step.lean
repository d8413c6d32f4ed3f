/-! soundness, an instruction a case -/
section STEP2
variable {l : Launch} {ad : Nat → Nat} {cA cJ cS : ClassId} {D : va_G} {A : Nat → Prop} {sv : Nat → Nat → Int32}
set_option maxHeartbeats 8000000 in
set_option maxRecDepth 100000 in
theorem zw_step {d mi pc : Nat} {L : zm_L} {S : List Value} {h : zm_H} {r : Option Value} {h' : zm_H} {C : Nat → List Value → zm_H → zm_R} {G : zm_N → zm_R} {en : ZI} (hmi : mi < 240) (ht : zm_tab mi pc = some en) (hr : zm_do C G L h (zm_act mi pc L S h en) = some (r, h'))
    (hG : ∀ q r h', G q = some (r, h') → zw_F sv q.2.2.2 → zw_F sv h' ∧ zw_W l ad cA cJ cS D A sv d mi q.1 q.2.1 q.2.2.1 q.2.2.2 r h')
    (hC : ∀ c as h r h', c < zm_NM → C c as h = some (r, h') → zw_F sv h → zw_F sv h' ∧ zw_Ct l ad cA cJ cS D A sv d c as h r h') (hF : zw_F sv h) : zw_F sv h' ∧ zw_W l ad cA cJ cS D A sv d mi pc L S h r h' := by
  have hck := zm_checked hmi ht
  have hd := zm_chk_dec hck
  obtain ⟨i, ln, aux, v, sw⟩ := en
  unfold zm_act at hr
  dsimp only at hr hd
  cases hs : zm_sop i v S with
  | some q =>
    obtain ⟨g, S'⟩ := q
    rw [hs] at hr
    dsimp only at hr
    obtain ⟨hg, hq⟩ := zm_do_nx hr
    obtain ⟨hF', hW⟩ := hG _ _ _ hq hF
    refine ⟨hF', ?_⟩
    intro p e R s m args below meth c H locs cells slots Q ls hx hb hml hown hts hK hSt hN hR hcs hP hD hS hL hret
    exact zw_sop hx hb hown hts hck hs hg (hW hx hb hml hown hts hK hSt hN hR hcs hP hD hS hL hret)
  | none =>
    rw [hs] at hr
    dsimp only at hr
    unfold zm_chk at hck
    rw [Bool.and_eq_true] at hck
    replace hck := hck.2
    have hne : ∀ {P : Prop}, (none : zm_R) = some (r, h') → P := fun q => by cases q
    cases i
    case iload_n n =>
      (try dsimp only at hr)
      (try dsimp only at hck)
      unfold zm_ldI at hr
      split at hr
      · rename_i x hgl
        obtain ⟨-, hq⟩ := zm_do_nx hr
        obtain ⟨hF', hW⟩ := hG _ _ _ hq hF
        refine ⟨hF', ?_⟩
        intro p e R s m args below meth c H locs cells slots Q ls hx hb hml hown hts hK hSt hN hR hcs hP hD hS hL hret
        cases zc_beq hck
        exact lv_iload_n hx hb hd rfl (hL.2.2 _ _ hgl) (hW hx hb hml hown hts hK hSt hN hR hcs hP hD hS hL hret)
      · exact hne hr
    case iload n =>
      (try dsimp only at hr)
      (try dsimp only at hck)
      unfold zm_ldI at hr
      split at hr
      · rename_i x hgl
        obtain ⟨-, hq⟩ := zm_do_nx hr
        obtain ⟨hF', hW⟩ := hG _ _ _ hq hF
        refine ⟨hF', ?_⟩
        intro p e R s m args below meth c H locs cells slots Q ls hx hb hml hown hts hK hSt hN hR hcs hP hD hS hL hret
        cases zc_beq hck
        exact lv_iload hx hb hd (hL.2.2 _ _ hgl) (hW hx hb hml hown hts hK hSt hN hR hcs hP hD hS hL hret)
      · exact hne hr
    case aload_n n =>
      (try dsimp only at hr)
      (try dsimp only at hck)
      unfold zm_ldR at hr
      split at hr
      · rename_i x hgl
        obtain ⟨-, hq⟩ := zm_do_nx hr
        obtain ⟨hF', hW⟩ := hG _ _ _ hq hF
        refine ⟨hF', ?_⟩
        intro p e R s m args below meth c H locs cells slots Q ls hx hb hml hown hts hK hSt hN hR hcs hP hD hS hL hret
        cases zc_beq hck
        exact lv_aload_n hx hb hd rfl (hL.2.2 _ _ hgl) (hW hx hb hml hown hts hK hSt hN hR hcs hP hD hS hL hret)
      · exact hne hr
    case aload n =>
      (try dsimp only at hr)
      (try dsimp only at hck)
      unfold zm_ldR at hr
      split at hr
      · rename_i x hgl
        obtain ⟨-, hq⟩ := zm_do_nx hr
        obtain ⟨hF', hW⟩ := hG _ _ _ hq hF
        refine ⟨hF', ?_⟩
        intro p e R s m args below meth c H locs cells slots Q ls hx hb hml hown hts hK hSt hN hR hcs hP hD hS hL hret
        cases zc_beq hck
        exact lv_aload hx hb hd (hL.2.2 _ _ hgl) (hW hx hb hml hown hts hK hSt hN hR hcs hP hD hS hL hret)
      · exact hne hr
    case lload_n n =>
      (try dsimp only at hr)
      (try dsimp only at hck)
      unfold zm_ldJ at hr
      split at hr
      · rename_i x hgl
        obtain ⟨-, hq⟩ := zm_do_nx hr
        obtain ⟨hF', hW⟩ := hG _ _ _ hq hF
        refine ⟨hF', ?_⟩
        intro p e R s m args below meth c H locs cells slots Q ls hx hb hml hown hts hK hSt hN hR hcs hP hD hS hL hret
        cases zc_beq hck
        exact lv_lload_n hx hb hd rfl (hL.2.2 _ _ hgl) (hW hx hb hml hown hts hK hSt hN hR hcs hP hD hS hL hret)
      · exact hne hr
    case lload n =>
      (try dsimp only at hr)
      (try dsimp only at hck)
      unfold zm_ldJ at hr
      split at hr
      · rename_i x hgl
        obtain ⟨-, hq⟩ := zm_do_nx hr
        obtain ⟨hF', hW⟩ := hG _ _ _ hq hF
        refine ⟨hF', ?_⟩
        intro p e R s m args below meth c H locs cells slots Q ls hx hb hml hown hts hK hSt hN hR hcs hP hD hS hL hret
        cases zc_beq hck
        exact lv_lload hx hb hd (hL.2.2 _ _ hgl) (hW hx hb hml hown hts hK hSt hN hR hcs hP hD hS hL hret)
      · exact hne hr
    case istore_n n =>
      (try dsimp only at hr)
      (try dsimp only at hck)
      unfold zm_stI at hr
      split at hr
      · rename_i x rr
        cases hok : zm_okL L n with
        | false => rw [hok] at hr; exact hne hr
        | true =>
          rw [hok] at hr
          obtain ⟨-, hq⟩ := zm_do_nx hr
          obtain ⟨hF', hW⟩ := hG _ _ _ hq hF
          refine ⟨hF', ?_⟩
          intro p e R s m args below meth c H locs cells slots Q ls hx hb hml hown hts hK hSt hN hR hcs hP hD hS hL hret
          rw [Bool.and_eq_true] at hck
          cases zc_beq hck.1
          have hn := Nat.le_of_ble_eq_true hck.2
          exact lv_istore_n hx hb hd rfl hL.has hn rfl (fun ls' hl' => hW hx hb hml hown hts hK hSt hN hR hcs hP hD hS (zw_lh.set1 (x := .int x) hok hl') hret)
      · exact hne hr
    case istore n =>
      (try dsimp only at hr)
      (try dsimp only at hck)
      unfold zm_stI at hr
      split at hr
      · rename_i x rr
        cases hok : zm_okL L n with
        | false => rw [hok] at hr; exact hne hr
        | true =>
          rw [hok] at hr
          obtain ⟨-, hq⟩ := zm_do_nx hr
          obtain ⟨hF', hW⟩ := hG _ _ _ hq hF
          refine ⟨hF', ?_⟩
          intro p e R s m args below meth c H locs cells slots Q ls hx hb hml hown hts hK hSt hN hR hcs hP hD hS hL hret
          rw [Bool.and_eq_true] at hck
          cases zc_beq hck.1
          have hn := Nat.le_of_ble_eq_true hck.2
          exact lv_istore hx hb hd hL.has hn rfl (fun ls' hl' => hW hx hb hml hown hts hK hSt hN hR hcs hP hD hS (zw_lh.set1 (x := .int x) hok hl') hret)
      · exact hne hr
    case astore_n n =>
      (try dsimp only at hr)
      (try dsimp only at hck)
      unfold zm_stR at hr
      split at hr
      · rename_i x rr
        cases hok : zm_okL L n with
        | false => rw [hok] at hr; exact hne hr
        | true =>
          rw [hok] at hr
          obtain ⟨-, hq⟩ := zm_do_nx hr
          obtain ⟨hF', hW⟩ := hG _ _ _ hq hF
          refine ⟨hF', ?_⟩
          intro p e R s m args below meth c H locs cells slots Q ls hx hb hml hown hts hK hSt hN hR hcs hP hD hS hL hret
          rw [Bool.and_eq_true] at hck
          cases zc_beq hck.1
          have hn := Nat.le_of_ble_eq_true hck.2
          exact lv_astore_n hx hb hd rfl hL.has hn rfl (fun ls' hl' => hW hx hb hml hown hts hK hSt hN hR hcs hP hD hS (zw_lh.set1 (x := .ref x) hok hl') hret)
      · exact hne hr
    case astore n =>
      (try dsimp only at hr)
      (try dsimp only at hck)
      unfold zm_stR at hr
      split at hr
      · rename_i x rr
        cases hok : zm_okL L n with
        | false => rw [hok] at hr; exact hne hr
        | true =>
          rw [hok] at hr
          obtain ⟨-, hq⟩ := zm_do_nx hr
          obtain ⟨hF', hW⟩ := hG _ _ _ hq hF
          refine ⟨hF', ?_⟩
          intro p e R s m args below meth c H locs cells slots Q ls hx hb hml hown hts hK hSt hN hR hcs hP hD hS hL hret
          rw [Bool.and_eq_true] at hck
          cases zc_beq hck.1
          have hn := Nat.le_of_ble_eq_true hck.2
          exact lv_astore hx hb hd hL.has hn rfl (fun ls' hl' => hW hx hb hml hown hts hK hSt hN hR hcs hP hD hS (zw_lh.set1 (x := .ref x) hok hl') hret)
      · exact hne hr
    case lstore n =>
      (try dsimp only at hr)
      (try dsimp only at hck)
      unfold zm_stJ at hr
      split at hr
      · rename_i x rr
        cases hok : zm_okL L n with
        | false => rw [hok] at hr; exact hne hr
        | true =>
          rw [hok] at hr
          obtain ⟨-, hq⟩ := zm_do_nx hr
          obtain ⟨hF', hW⟩ := hG _ _ _ hq hF
          refine ⟨hF', ?_⟩
          intro p e R s m args below meth c H locs cells slots Q ls hx hb hml hown hts hK hSt hN hR hcs hP hD hS hL hret
          rw [Bool.and_eq_true] at hck
          cases zc_beq hck.1
          have hn := Nat.le_of_ble_eq_true hck.2
          exact lv_lstore hx hb hd hL.has hn rfl (fun ls' hl' => hW hx hb hml hown hts hK hSt hN hR hcs hP hD hS (zw_lh.set2 (x := .long x) hok hl') hret)
      · exact hne hr
    case iinc n k =>
      (try dsimp only at hr)
      (try dsimp only at hck)
      split at hr
      · rename_i x w hgl
        cases hok : zm_okL L n with
        | false => rw [hok] at hr; exact hne hr
        | true =>
          rw [hok] at hr
          obtain ⟨-, hq⟩ := zm_do_nx hr
          obtain ⟨hF', hW⟩ := hG _ _ _ hq hF
          refine ⟨hF', ?_⟩
          intro p e R s m args below meth c H locs cells slots Q ls hx hb hml hown hts hK hSt hN hR hcs hP hD hS hL hret
          rw [Bool.and_eq_true, Bool.and_eq_true] at hck
          cases zc_beq hck.1.1
          have hn := Nat.le_of_ble_eq_true hck.2
          have hw : w = Int32.ofInt k := by
            have := of_decide_eq_true hck.1.2
            exact Value.int.inj this
          obtain ⟨q, hqk⟩ := List.getElem?_of_mem (zw_l_in (ad := ad) hgl)
          exact lv_iinc hx hb hd hL.has hqk (by rw [hw]) hn rfl (fun ls' hl' => hW hx hb hml hown hts hK hSt hN hR hcs hP hD hS (zw_lh.set1 (x := .int (x + w)) hok hl') hret)
      · exact hne hr
    case goto off =>
      (try dsimp only at hr)
      (try dsimp only at hck)
      split at hr
      · rename_i t
        obtain ⟨-, hq⟩ := zm_do_nx hr
        obtain ⟨hF', hW⟩ := hG _ _ _ hq hF
        refine ⟨hF', ?_⟩
        intro p e R s m args below meth c H locs cells slots Q ls hx hb hml hown hts hK hSt hN hR hcs hP hD hS hL hret
        (try dsimp only at hck)
        rw [Bool.and_eq_true] at hck
        cases zc_beq hck.1
        exact lv_goto hx hb hd (of_decide_eq_true hck.2) (hW hx hb hml hown hts hK hSt hN hR hcs hP hD hS hL hret)
      · exact hne hr
    case ifCond cd off =>
      (try dsimp only at hr)
      (try dsimp only at hck)
      split at hr
      · rename_i t x rr
        (try dsimp only at hck)
        rw [Bool.and_eq_true] at hck
        cases zc_beq hck.1
        have ht := of_decide_eq_true hck.2
        have hr : cond (zm_cmp0 cd x) (G (t, L, rr, h)) (G (pc + 3, L, rr, h)) = some (r, h') := hr
        cases hc : zm_cmp0 cd x with
        | true =>
          rw [hc] at hr
          obtain ⟨hF', hW⟩ := hG _ _ _ hr hF
          refine ⟨hF', ?_⟩
          intro p e R s m args below meth c H locs cells slots Q ls hx hb hml hown hts hK hSt hN hR hcs hP hD hS hL hret
          exact lv_ifc hx hb hd ht (fun _ => hW hx hb hml hown hts hK hSt hN hR hcs hP hD hS hL hret) (fun q => by rw [hc] at q; cases q)
        | false =>
          rw [hc] at hr
          obtain ⟨hF', hW⟩ := hG _ _ _ hr hF
          refine ⟨hF', ?_⟩
          intro p e R s m args below meth c H locs cells slots Q ls hx hb hml hown hts hK hSt hN hR hcs hP hD hS hL hret
          exact lv_ifc hx hb hd ht (fun q => by rw [hc] at q; cases q) (fun _ => hW hx hb hml hown hts hK hSt hN hR hcs hP hD hS hL hret)
      · exact hne hr
    case if_icmp cd off =>
      (try dsimp only at hr)
      (try dsimp only at hck)
      split at hr
      · rename_i t y x rr
        (try dsimp only at hck)
        rw [Bool.and_eq_true] at hck
        cases zc_beq hck.1
        have ht := of_decide_eq_true hck.2
        have hr : cond (zm_cmp cd x y) (G (t, L, rr, h)) (G (pc + 3, L, rr, h)) = some (r, h') := hr
        cases hc : zm_cmp cd x y with
        | true =>
          rw [hc] at hr
          obtain ⟨hF', hW⟩ := hG _ _ _ hr hF
          refine ⟨hF', ?_⟩
          intro p e R s m args below meth c H locs cells slots Q ls hx hb hml hown hts hK hSt hN hR hcs hP hD hS hL hret
          exact lv_icmpc hx hb hd ht (fun _ => hW hx hb hml hown hts hK hSt hN hR hcs hP hD hS hL hret) (fun q => by rw [hc] at q; cases q)
        | false =>
          rw [hc] at hr
          obtain ⟨hF', hW⟩ := hG _ _ _ hr hF
          refine ⟨hF', ?_⟩
          intro p e R s m args below meth c H locs cells slots Q ls hx hb hml hown hts hK hSt hN hR hcs hP hD hS hL hret
          exact lv_icmpc hx hb hd ht (fun q => by rw [hc] at q; cases q) (fun _ => hW hx hb hml hown hts hK hSt hN hR hcs hP hD hS hL hret)
      · exact hne hr
    case tableswitch dd lo hi offs =>
      (try dsimp only at hr)
      (try dsimp only at hck)
      split at hr
      · rename_i t x rr
        (try dsimp only at hck)
        rw [Bool.and_eq_true, Bool.and_eq_true] at hck
        obtain ⟨⟨h1, h2⟩, h3⟩ := hck
        have h1 := of_decide_eq_true h1
        have h3 := of_decide_eq_true h3
        have hr : zm_sw x sw (G (t, L, rr, h)) (fun pc' => G (pc', L, rr, h)) = some (r, h') := hr
        rcases zw_ts _ _ _ h2 hr with ⟨j, off, t', e1, e2, e3, e4⟩ | ⟨e1, e2⟩
        · obtain ⟨hF', hW⟩ := hG _ _ _ e4 hF
          refine ⟨hF', ?_⟩
          intro p e R s m args below meth c H locs cells slots Q ls hx hb hml hown hts hK hSt hN hR hcs hP hD hS hL hret
          have hj : j < offs.toList.length := (List.getElem?_eq_some_iff.mp e1).1
          refine lv_tableIn hx hb hd (off := off) (tgt := t') (by omega) (by omega) ?_ e3 (hW hx hb hml hown hts hK hSt hN hR hcs hP hD hS hL hret)
          rw [← Array.getElem?_toList, show (x.toInt - lo).toNat = j by omega]
          exact e1
        · obtain ⟨hF', hW⟩ := hG _ _ _ e2 hF
          refine ⟨hF', ?_⟩
          intro p e R s m args below meth c H locs cells slots Q ls hx hb hml hown hts hK hSt hN hR hcs hP hD hS hL hret
          exact lv_tableOut hx hb hd (by omega) h1 (hW hx hb hml hown hts hK hSt hN hR hcs hP hD hS hL hret)
      · exact hne hr
    case lookupswitch dd ps =>
      (try dsimp only at hr)
      (try dsimp only at hck)
      split at hr
      · rename_i t x rr
        (try dsimp only at hck)
        rw [Bool.and_eq_true, Bool.and_eq_true] at hck
        obtain ⟨⟨h1, h2⟩, h3⟩ := hck
        have h1 := of_decide_eq_true h1
        have hr : zm_sw x sw (G (t, L, rr, h)) (fun pc' => G (pc', L, rr, h)) = some (r, h') := hr
        obtain ⟨off, t', e1, e2, e3⟩ := zw_ls (go := fun pc' => G (pc', L, rr, h)) h1 _ _ h2 hr
        obtain ⟨hF', hW⟩ := hG _ _ _ e3 hF
        refine ⟨hF', ?_⟩
        intro p e R s m args below meth c H locs cells slots Q ls hx hb hml hown hts hK hSt hN hR hcs hP hD hS hL hret
        exact lv_lookup hx hb hd h3 e1 e2 (hW hx hb hml hown hts hK hSt hN hR hcs hP hD hS hL hret)
      · exact hne hr
    case getfield n =>
      (try dsimp only at hr)
      (try dsimp only at hck)
      split at hr
      · rename_i ci k t pl o rr
        (try dsimp only at hck)
        rw [Bool.and_eq_true] at hck
        cases zc_beq hck.1
        obtain ⟨hg, hq⟩ := zm_do_nx hr
        obtain ⟨hk1, hk2⟩ := zm_isO_eq hg
        obtain ⟨hF', hW⟩ := hG _ _ _ hq hF
        refine ⟨hF', ?_⟩
        intro p e R s m args below meth c H locs cells slots Q ls hx hb hml hown hts hK hSt hN hR hcs hP hD hS hL hret
        have hz := hck.2
        unfold zc_f at hz
        cases hv : vwCl[ci]? with
        | none => rw [hv] at hz; cases hz
        | some qq =>
          obtain ⟨Cn, Tn, Nn⟩ := qq
          rw [hv] at hz
          dsimp only at hz
          simp only [Bool.and_eq_true] at hz
          obtain ⟨⟨⟨⟨⟨⟨z1, z2⟩, z3⟩, z4⟩, z5⟩, z6⟩, -⟩ := hz
          have z1 := Nat.le_of_ble_eq_true z1
          have z2 := zc_beq z2
          have z4 := of_decide_eq_true z4
          have z5 := of_decide_eq_true z5
          refine va_get (D := D) (ci := ci) (C := Cn) (T := Tn) (N := Nn) (ref := Cn) hx hb hts (zv_in hv) hown hK hP o (zw_atO hk1 hk2) hv k z1 (hts _ (zc_w_in z3)) (fun y hy => by rw [z4] at hy; exact hy) (v := zw_fv ad h o k) ?_ hd ?_
          · rw [List.getElem?_map, List.getElem?_range (by omega)]
            rfl
          · have hvv : zw_fv ad h o k = zw_v ad (cond (Nat.beq t 2) (.ref (zm_rt o k)) (.int (h.1 o k))) := by
              unfold zw_fv
              rw [hk2, ← z5]
              cases Nat.beq t 2 <;> rfl
            rw [hvv]
            exact hW hx hb hml hown hts hK hSt hN hR hcs hP hD hS hL hret
      · exact hne hr
    case putfield n =>
      (try dsimp only at hr)
      (try dsimp only at hck)
      split at hr
      · rename_i ci k t pl x o rr
        (try dsimp only at hck)
        rw [Bool.and_eq_true] at hck
        cases zc_beq hck.1
        obtain ⟨hg, hq⟩ := zm_do_nx hr
        have hg2 : zm_isO o ci = true ∧ (Nat.beq t 0 = true ∨ zm_isZ x = true) := by
          cases hb0 : Nat.beq t 0 with
          | true => rw [hb0] at hg; exact ⟨hg, Or.inl rfl⟩
          | false =>
            rw [hb0] at hg
            cases hz0 : zm_isZ x with
            | true => rw [hz0] at hg; exact ⟨hg, Or.inr rfl⟩
            | false => rw [hz0] at hg; cases hg
        obtain ⟨hg, hg3⟩ := hg2
        obtain ⟨hk1, hk2⟩ := zm_isO_eq hg
        obtain ⟨hF', hW⟩ := hG _ _ _ hq (zw_F_ui hF (zk_lt (by omega)))
        refine ⟨hF', ?_⟩
        intro p e R s m args below meth c H locs cells slots Q ls hx hb hml hown hts hK hSt hN hR hcs hP hD hS hL hret
        have hz := hck.2
        unfold zc_f at hz
        cases hv : vwCl[ci]? with
        | none => rw [hv] at hz; cases hz
        | some qq =>
          obtain ⟨Cn, Tn, Nn⟩ := qq
          rw [hv] at hz
          dsimp only at hz
          simp only [Bool.and_eq_true] at hz
          obtain ⟨⟨⟨⟨⟨⟨z1, z2⟩, z3⟩, z4⟩, z5⟩, z6⟩, z7⟩ := hz
          have z1 := Nat.le_of_ble_eq_true z1
          have z2 := zc_beq z2
          have z4 := of_decide_eq_true z4
          have z5 := of_decide_eq_true z5
          simp only [Bool.not_true, Bool.false_or, Bool.and_eq_true, Bool.or_eq_true, Bool.not_eq_true', decide_eq_true_eq] at z7
          obtain ⟨z7, z8⟩ := z7
          obtain ⟨ty0, hty, hnm⟩ := zv_ty hv
          have hfr : zm_fr (zm_kd o).2 k = false := by
            rw [hk2, ← z5]
            rcases z8 with ⟨z8, -⟩ | ⟨z8, -⟩ <;> (cases zc_beq z8; rfl)
          have hty2 : ∃ ty, parseFieldDescriptor (Tn k).2.2.1 = some ty ∧ narrow ty (.int x) = .int x ∧ fits ty (.int x) = true := by
            rcases z8 with ⟨z8, z9⟩ | ⟨z8, z9⟩
            · exact ⟨.int, by rw [z9]; decide +kernel, rfl, rfl⟩
            · refine ⟨.boolean, by rw [z9]; decide +kernel, ?_⟩
              cases zc_beq z8
              rcases hg3 with hg3 | hg3
              · cases hg3
              · unfold zm_isZ at hg3
                rw [Bool.or_eq_true] at hg3
                rcases hg3 with hg3 | hg3 <;> (rw [of_decide_eq_true hg3]; exact ⟨by decide +kernel, by decide +kernel⟩)
          obtain ⟨ty, t1, t2, t3⟩ := hty2
          have hlen : k < ((List.range (zm_nF ci)).map (zw_fv ad h o)).length := by simp; omega
          refine va_put (D := D) (ci := ci) (C := Cn) (T := Tn) (N := Nn) (ref := Cn) hx hb hts (zv_in hv) ty0 hty hnm hown hK hP hD hS o (zw_atO hk1 hk2) hv k z1 (hts _ (zc_w_in z3)) (fun y hy => by rw [z4] at hy; exact hy) z7 t1 t2 t3 hlen hd (fun H1 locs1 hP1 hD1 hS1 => ?_)
          subst hk2
          rw [show zw_v ad (Value.int x) = Value.int x from rfl] at hP1 hD1
          rw [zw_putI hk1 (by omega) hfr] at hP1 hD1
          exact hW hx hb hml hown hts hK hSt hN hR hcs hP1 hD1 hS1 hL hret
      · exact hne hr
    case getstatic n =>
      (try dsimp only at hr)
      (try dsimp only at hck)
      split at hr
      · rename_i z pl kq
        (try dsimp only at hck)
        rw [Bool.and_eq_true, Bool.and_eq_true] at hck
        obtain ⟨⟨h1, h2⟩, h3⟩ := hck
        cases zc_beq h1
        have h2 := Nat.le_of_ble_eq_true h2
        obtain ⟨-, hq⟩ := zm_do_nx hr
        obtain ⟨hF', hW⟩ := hG _ _ _ hq hF
        refine ⟨hF', ?_⟩
        intro p e R s m args below meth c H locs cells slots Q ls hx hb hml hown hts hK hSt hN hR hcs hP hD hS hL hret
        cases hk : Nat.beq kq 0 with
        | true =>
          rw [hk] at h3
          exact va_gets hx hb (hSt.1 z h2).1 hS hown (hts _ (zc_w_in h3)) (fun _ q => q) hd (hW hx hb hml hown hts hK hSt hN hR hcs hP hD hS hL hret)
        | false =>
          rw [hk] at h3
          rw [show (cond false (zc_w pl (.fieldLink (zm_own mi) n (zs_C z) (zs_n z) "[I")) (decide (zm_own mi = "EndTooLong$Numbers") && Nat.beq n 31 && Nat.beq z 1)) = (decide (zm_own mi = "EndTooLong$Numbers") && Nat.beq n 31 && Nat.beq z 1) from rfl] at h3
          rw [Bool.and_eq_true, Bool.and_eq_true] at h3
          have e1 := of_decide_eq_true h3.1.1
          cases zc_beq h3.1.2
          cases zc_beq h3.2
          have hown2 := hown
          rw [e1] at hown2
          exact va_getsN hx hb (hSt.1 1 h2).1 hS hown2 (va_Nw.use rfl hN) (fun _ q => q) hd (hW hx hb hml hown hts hK hSt hN hR hcs hP hD hS hL hret)
      · exact hne hr
    case iaload =>
      (try dsimp only at hr)
      (try dsimp only at hck)
      cases zc_beq hck
      split at hr
      · rename_i j a rr
        obtain ⟨hg, hq⟩ := zm_do_nx hr
        obtain ⟨hF', hW⟩ := hG _ _ _ hq hF
        refine ⟨hF', ?_⟩
        intro p e R s m args below meth c H locs cells slots Q ls hx hb hml hown hts hK hSt hN hR hcs hP hD hS hL hret
        unfold zm_inR at hg
        simp only [Bool.and_eq_true, Bool.or_eq_true] at hg
        obtain ⟨hk, hi⟩ := hg
        rcases hk with (hk | hk) | hk
        · have hk := zc_beq hk
          have hi : zm_at (zm_kd a).2 j = true := by unfold zm_lenOf at hi; rw [hk] at hi; exact hi
          exact va_iald hx hb hK hP a 0 (zw_atI hk) rfl (zm_at_in hi) hd (hW hx hb hml hown hts hK hSt hN hR hcs hP hD hS hL hret)
        · have hk := zc_beq hk
          have hi : zm_at (zm_kd a).2 j = true := by unfold zm_lenOf at hi; rw [hk] at hi; exact hi
          obtain ⟨z, hz, rfl⟩ := zkd_4 hk
          exact va_ti hx hb (hSt.1 z hz).2 hS (zm_at_in hi) (v := .int (h.1 (1000 + z) j.toNatClampNeg)) (by rw [hF (1000 + z) _ (by omega)]) hd (hW hx hb hml hown hts hK hSt hN hR hcs hP hD hS hL hret)
        · have hk := zc_beq hk
          have hi2 : zm_at (sv 2001 0).toNatClampNeg j = true := by unfold zm_lenOf at hi; rw [hk, hF 2001 0 (by omega)] at hi; exact hi
          cases zkd_5 hk
          refine va_sld hx hb hSt.2.1 hSt.2.2.2.1 hSt.2.2.1 hS (zm_at_in hi2) hd ?_
          rw [← hF 2000 _ (by omega)]
          exact hW hx hb hml hown hts hK hSt hN hR hcs hP hD hS hL hret
      · exact hne hr
    case laload =>
      (try dsimp only at hr)
      (try dsimp only at hck)
      cases zc_beq hck
      split at hr
      · rename_i j a rr
        obtain ⟨hg, hq⟩ := zm_do_nx hr
        obtain ⟨hF', hW⟩ := hG _ _ _ hq hF
        refine ⟨hF', ?_⟩
        intro p e R s m args below meth c H locs cells slots Q ls hx hb hml hown hts hK hSt hN hR hcs hP hD hS hL hret
        unfold zm_inJ at hg
        rw [Bool.and_eq_true] at hg
        exact va_lald hx hb hK hP a 1 (zw_atJ (zc_beq hg.1)) rfl (zm_at_in hg.2) hd (hW hx hb hml hown hts hK hSt hN hR hcs hP hD hS hL hret)
      · exact hne hr
    case aaload =>
      (try dsimp only at hr)
      (try dsimp only at hck)
      cases zc_beq hck
      split at hr
      · rename_i j a rr
        obtain ⟨hg, hq⟩ := zm_do_nx hr
        obtain ⟨hF', hW⟩ := hG _ _ _ hq hF
        refine ⟨hF', ?_⟩
        intro p e R s m args below meth c H locs cells slots Q ls hx hb hml hown hts hK hSt hN hR hcs hP hD hS hL hret
        unfold zm_inQ at hg
        rw [Bool.and_eq_true] at hg
        exact va_aldq hx hb hK hP a 2 (zw_atQ (zc_beq hg.1)) rfl (zm_at_in hg.2) hd (hW hx hb hml hown hts hK hSt hN hR hcs hP hD hS hL hret)
      · exact hne hr
    case iastore =>
      (try dsimp only at hr)
      (try dsimp only at hck)
      cases zc_beq hck
      split at hr
      · rename_i x j a rr
        obtain ⟨hg, hq⟩ := zm_do_nx hr
        unfold zm_inW at hg
        rw [Bool.and_eq_true] at hg
        have hk := zc_beq hg.1
        obtain ⟨hF', hW⟩ := hG _ _ _ hq (zw_F_ui hF (zk_lt (by omega)))
        refine ⟨hF', ?_⟩
        intro p e R s m args below meth c H locs cells slots Q ls hx hb hml hown hts hK hSt hN hR hcs hP hD hS hL hret
        refine va_iast hx hb hK hP hD hS a 0 (zw_atI hk) rfl (zm_at_in hg.2) hd (fun H1 locs1 hP1 hD1 hS1 => ?_)
        rw [zw_putA hk] at hP1 hD1
        exact hW hx hb hml hown hts hK hSt hN hR hcs hP1 hD1 hS1 hL hret
      · exact hne hr
    case lastore =>
      (try dsimp only at hr)
      (try dsimp only at hck)
      cases zc_beq hck
      split at hr
      · rename_i x j a rr
        obtain ⟨hg, hq⟩ := zm_do_nx hr
        unfold zm_inJ at hg
        rw [Bool.and_eq_true] at hg
        have hk := zc_beq hg.1
        obtain ⟨hF', hW⟩ := hG _ _ _ hq (zw_F_ul hF)
        refine ⟨hF', ?_⟩
        intro p e R s m args below meth c H locs cells slots Q ls hx hb hml hown hts hK hSt hN hR hcs hP hD hS hL hret
        refine va_last hx hb hK hP hD hS a 1 (zw_atJ hk) rfl (zm_at_in hg.2) hd (fun H1 locs1 hP1 hD1 hS1 => ?_)
        rw [zw_putJ hk] at hP1 hD1
        exact hW hx hb hml hown hts hK hSt hN hR hcs hP1 hD1 hS1 hL hret
      · exact hne hr
    case arraylength =>
      (try dsimp only at hr)
      (try dsimp only at hck)
      cases zc_beq hck
      split at hr
      · rename_i a rr
        obtain ⟨hg, hq⟩ := zm_do_nx hr
        obtain ⟨hF', hW⟩ := hG _ _ _ hq hF
        refine ⟨hF', ?_⟩
        intro p e R s m args below meth c H locs cells slots Q ls hx hb hml hown hts hK hSt hN hR hcs hP hD hS hL hret
        unfold zm_isA at hg
        simp only [Bool.or_eq_true] at hg
        rcases hg with ((hk | hk) | hk) | hk
        · have hk := zc_beq hk
          rw [hk] at hW
          exact va_alen hx hb hK hP a 0 (zw_atI hk) (ty := .int) rfl rfl hd (hW hx hb hml hown hts hK hSt hN hR hcs hP hD hS hL hret)
        · have hk := zc_beq hk
          rw [hk] at hW
          exact va_alen hx hb hK hP a 1 (zw_atJ hk) (ty := .long) rfl rfl hd (hW hx hb hml hown hts hK hSt hN hR hcs hP hD hS hL hret)
        · have hk := zc_beq hk
          rw [hk] at hW
          obtain ⟨z, hz, rfl⟩ := zkd_4 hk
          exact va_tlen hx hb (hSt.1 z hz).2 hS rfl hd (hW hx hb hml hown hts hK hSt hN hR hcs hP hD hS hL hret)
        · have hk := zc_beq hk
          rw [hk] at hW
          cases zkd_5 hk
          refine va_slen hx hb hSt.2.1 hSt.2.2.2.1 hSt.2.2.1 hS hd ?_
          have hW2 := hW hx hb hml hown hts hK hSt hN hR hcs hP hD hS hL hret
          rw [hSt.2.2.2.2, ← hF 2001 0 (by omega)]
          exact hW2
      · exact hne hr
    case invokevirtual n =>
      (try dsimp only at hr)
      (try dsimp only at hck)
      split at hr
      · rename_i cc np rk ci q1 q2 q3 q4
        (try dsimp only at hck)
        simp only [Bool.and_eq_true] at hck
        obtain ⟨⟨⟨⟨⟨⟨⟨⟨k1, k2⟩, k3⟩, k4⟩, k5⟩, k6⟩, k7⟩, k8⟩, k9⟩ := hck
        cases zc_beq k1
        have k2 := Nat.le_of_ble_eq_true k2
        have k8 := of_decide_eq_true k8
        unfold zc_y at k7
        simp only [Bool.and_eq_true, decide_eq_true_eq] at k7
        unfold zm_argG at hr
        dsimp only [cond] at hr
        split at hr
        · rename_i o rr hdrop
          cases hb8 : (Nat.ble (zm_cat rr) 8 && Nat.beq (S.take np).length np) with
          | false => rw [hb8] at hr; exact hne hr
          | true =>
            rw [hb8] at hr
            obtain ⟨hg, rv, h1, hc, hq⟩ := zm_do_call hr
            rw [Bool.and_eq_true] at hb8
            obtain ⟨hk1, hk2⟩ := zm_isO_eq hg
            obtain ⟨hF1, hCt⟩ := hC _ _ _ _ _ k2 hc hF
            obtain ⟨hF', hW⟩ := hG _ _ _ hq hF1
            refine ⟨hF', ?_⟩
            intro p e R s m args below meth c H locs cells slots Q ls hx hb hml hown hts hK hSt hN hR hcs hP hD hS hL hret
            obtain ⟨qc, hqc⟩ : ∃ qc, vwCl[ci]? = some qc := by
              cases hv : vwCl[ci]? with
              | none => rw [hv] at k8; cases k8
              | some qc => exact ⟨qc, rfl⟩
            have hcn : qc.1 = zm_own cc := by rw [hqc] at k8; exact Option.some.inj k8
            have hstack : S.map (zw_v ad) = (((S.take np).reverse).map (zw_v ad)).reverse ++ .ref (ad o) :: rr.map (zw_v ad) := by
              conv => lhs; rw [← List.take_append_drop np S, hdrop]
              rw [List.map_append, List.map_reverse, List.reverse_reverse]
              rfl
            have hrecv : ∃ cell : Cell, H[ad o]? = some cell ∧ cell.vm.isStatics = false ∧ s.vm.findClass (zm_own cc) = some cell.cls := by
              have := va_recv hK hP hqc (zw_atO hk1 hk2)
              rw [hcn] at this
              exact this
            have hml2 : zm_ml cc ≤ 21 := by
              have hm := zm_chm_all cc k2
              unfold zm_chm at hm
              rw [Bool.and_eq_true] at hm
              exact Nat.le_of_ble_eq_true hm.2
            have hcode : Jvm.Cond.code (zm_y cc) (zm_b cc) (zm_ml cc) (zm_rt_ cc) ∈ lw_g := by
              exact zd_all cc (Nat.zero_le _) k2
            have hin : GoodIn lw_g (wsV (zm_own mi) n (zm_own cc) (zm_y cc) (zw_ws cc)) := by
              intro w hw
              refine zw_good w ?_
              unfold wsV zw_ws at hw
              simp only [List.cons_append, List.nil_append, List.mem_cons] at hw
              rcases hw with rfl | rfl | rfl | rfl | rfl | hw
              · exact zc_w_in k3
              · exact zc_w_in k4
              · exact zc_w_in k5
              · exact zc_w_in k6
              · exact hcode
              · exact hw
            have run := va_runV (H := H) (locs := locs) (cells := cells) (slots := slots) (As := ((S.take np).reverse).map (zw_v ad)) (rest := rr.map (zw_v ad)) (b := ad o) (g := F0 m pc ls (S.map (zw_v ad))) (l := l) (e := e) (below := below) (meth := meth) ⟨hx, hb, hml, hown, hts⟩ hCt (cwV np hts hin rfl rfl rfl ⟨rfl, k7.1.1, k7.1.2, k7.2⟩ ⟨hR.1, by show 8 + (zm_ml cc + 11) + 40 * d ≤ R.locals; omega⟩)
              ⟨zw_blind, hrecv, fun U hU hW => ⟨rfl, by rw [hU]; exact hP, va_K.moved hW.alike hK, hD, hSt.moved hW.alike (by rw [hU]; exact hS), hN.warm hW⟩⟩ rfl (by rw [List.length_map, List.length_reverse]; exact zc_beq hb8.2) (hL.1) hstack (lv_room (by rw [zw_cat]; exact Nat.le_of_ble_eq_true hb8.1)) hd hcs
            refine zw_back run hS (fun H1 locs1 hP1 hS1 => ?_)
            have hW2 := hW hx hb hml hown hts hK hSt hN hR hcs hP1 (zw_D hD) hS1 hL hret
            have e2 : (rv.map (zw_v ad)).toList ++ rr.map (zw_v ad) = (rv.toList ++ rr).map (zw_v ad) := by cases rv <;> rfl
            rw [e2]
            exact hW2
        · exact hne hr
      · exact hne hr
    case invokestatic n =>
      (try dsimp only at hr)
      (try dsimp only at hck)
      split at hr
      · rename_i q0 q1 q2 q3 q4 nn dp a1 sp a0 rr
        (try dsimp only at hck)
        simp only [Bool.and_eq_true] at hck
        obtain ⟨⟨⟨⟨k1, k2⟩, k3⟩, k4⟩, k5⟩ := hck
        cases zc_beq k1
        obtain ⟨hg, hq⟩ := zm_do_nx hr
        obtain ⟨hF', hW⟩ := hG _ _ _ hq (zw_F_cpy hF)
        refine ⟨hF', ?_⟩
        intro p e R s m args below meth c H locs cells slots Q ls hx hb hml hown hts hK hSt hN hR hcs hP hD hS hL hret
        unfold zm_cpG at hg
        simp only [Bool.and_eq_true, Bool.not_eq_true', decide_eq_false_iff_not] at hg
        obtain ⟨⟨⟨⟨⟨⟨⟨g1, g2⟩, g3⟩, g4⟩, g5⟩, g6⟩, g7⟩, g8⟩ := hg
        refine va_copyl hx hb (hml.trans hL.1.symm) hown (hts _ (zc_w_in k2)) (hts _ (zc_w_in k3)) (hts _ (zc_w_in k4)) (hts _ (zc_w_in k5)) hK hP hD hS a0 a1 1 1 (zw_atJ (zc_beq g1)) (zw_atJ (zc_beq g2)) rfl rfl rfl g3 g4 g5 (Nat.le_of_ble_eq_true g6) (Nat.le_of_ble_eq_true g7) (fun _ _ => rfl) (by have := hR.1; omega) ?_ hd (fun H1 locs1 hP1 hD1 hS1 => ?_)
        · rw [zw_cat]
          have := Nat.le_of_ble_eq_true g8
          have hw : nativeFrameWords "java/lang/System" "arraycopy" 5 + 11 ≤ 32 := by decide +kernel
          have := hR.2
          omega
        · rw [zw_putC (zc_beq g2)] at hP1 hD1
          exact hW hx hb hml hown hts hK hSt hN hR hcs hP1 hD1 hS1 hL hret
      · rename_i q p0 p00 p1 p2 p3 p4 y rr
        (try dsimp only at hck)
        simp only [Bool.and_eq_true] at hck
        obtain ⟨⟨⟨⟨k1, k2⟩, k3⟩, k4⟩, k5⟩ := hck
        cases zc_beq k1
        have k2 := Nat.le_of_ble_eq_true k2
        unfold zm_mth at hr
        by_cases hq2 : q = 2
        · subst hq2
          dsimp only [cond, Nat.beq] at hr k3 k4
          obtain ⟨hg, hq⟩ := zm_do_nx hr
          obtain ⟨hF', hW⟩ := hG _ _ _ hq hF
          refine ⟨hF', ?_⟩
          intro p e R s m args below meth c H locs cells slots Q ls hx hb hml hown hts hK hSt hN hR hcs hP hD hS hL hret
          exact va_mabs hx hb (hml.trans hL.1.symm) hown (hts _ (zc_w_in k3)) (hts _ (zc_w_in k4)) (hts _ (zc_w_in k5)) (hts _ zmath_abs) (by have := hR.1; omega) (by rw [zw_cat]; have := Nat.le_of_ble_eq_true hg; have := hR.2; omega) hcs.1 hcs.2 hd (hW hx hb hml hown hts hK hSt hN hR hcs hP hD hS hL hret)
        · have hb2 : Nat.beq q 2 = false := by
            cases hb : Nat.beq q 2 with
            | false => rfl
            | true => exact absurd (zc_beq hb) hq2
          rw [hb2] at hr
          dsimp only [cond] at hr
          split at hr
          · rename_i x r2
            obtain ⟨hg, hq⟩ := zm_do_nx hr
            rw [Bool.and_eq_true] at hg
            obtain ⟨hF', hW⟩ := hG _ _ _ hq hF
            refine ⟨hF', ?_⟩
            intro p e R s m args below meth c H locs cells slots Q ls hx hb hml hown hts hK hSt hN hR hcs hP hD hS hL hret
            rcases (show q = 0 ∨ q = 1 by omega) with rfl | rfl
            · exact va_mmax hx hb (hml.trans hL.1.symm) hown (hts _ (zc_w_in k3)) (hts _ (zc_w_in k4)) (hts _ (zc_w_in k5)) (hts _ zmath_max) (by have := hR.1; omega) (by rw [zw_cat]; have := Nat.le_of_ble_eq_true hg.1; have := hR.2; omega) hcs.1 hcs.2 hd (hW hx hb hml hown hts hK hSt hN hR hcs hP hD hS hL hret)
            · exact va_mmin hx hb (hml.trans hL.1.symm) hown (hts _ (zc_w_in k3)) (hts _ (zc_w_in k4)) (hts _ (zc_w_in k5)) (hts _ zmath_min) (by have := hR.1; omega) (by rw [zw_cat]; have := Nat.le_of_ble_eq_true hg.1; have := hR.2; omega) hcs.1 hcs.2 hd (hW hx hb hml hown hts hK hSt hN hR hcs hP hD hS hL hret)
          · exact hne hr
      · rename_i cc np rk q1 q2 q4
        (try dsimp only at hck)
        simp only [Bool.and_eq_true] at hck
        obtain ⟨⟨⟨⟨⟨⟨k1, k2⟩, k3⟩, k4⟩, k6⟩, k7⟩, k9⟩ := hck
        cases zc_beq k1
        have k2 := Nat.le_of_ble_eq_true k2
        unfold zc_y at k7
        simp only [Bool.and_eq_true, decide_eq_true_eq] at k7
        unfold zm_argG at hr
        dsimp only [cond] at hr
        cases hb8 : (Nat.ble (zm_cat (S.drop np)) 8 && Nat.beq (S.take np).length np) with
        | false => rw [hb8] at hr; exact hne hr
        | true =>
          rw [hb8] at hr
          obtain ⟨-, rv, h1, hc, hq⟩ := zm_do_call hr
          rw [Bool.and_eq_true] at hb8
          obtain ⟨hF1, hCt⟩ := hC _ _ _ _ _ k2 hc hF
          obtain ⟨hF', hW⟩ := hG _ _ _ hq hF1
          refine ⟨hF', ?_⟩
          intro p e R s m args below meth c H locs cells slots Q ls hx hb hml hown hts hK hSt hN hR hcs hP hD hS hL hret
          have hstack : S.map (zw_v ad) = (((S.take np).reverse).map (zw_v ad)).reverse ++ (S.drop np).map (zw_v ad) := by
            conv => lhs; rw [← List.take_append_drop np S]
            rw [List.map_append, List.map_reverse, List.reverse_reverse]
          have hml2 : zm_ml cc ≤ 21 := by
            have hm := zm_chm_all cc k2
            unfold zm_chm at hm
            rw [Bool.and_eq_true] at hm
            exact Nat.le_of_ble_eq_true hm.2
          have hcode : Jvm.Cond.code (zm_y cc) (zm_b cc) (zm_ml cc) (zm_rt_ cc) ∈ lw_g := by
            exact zd_all cc (Nat.zero_le _) k2
          have hin : GoodIn lw_g (va_wsS (zm_own mi) n (zm_y cc) (zw_ws cc)) := by
            intro w hw
            refine zw_good w ?_
            unfold va_wsS zw_ws at hw
            simp only [List.cons_append, List.nil_append, List.mem_cons] at hw
            rcases hw with rfl | rfl | rfl | rfl | hw
            · exact zc_w_in k3
            · exact zc_w_in k4
            · exact zc_w_in k6
            · exact hcode
            · exact hw
          have run := va_runS (H := H) (locs := locs) (cells := cells) (slots := slots) (As := ((S.take np).reverse).map (zw_v ad)) (rest := (S.drop np).map (zw_v ad)) (g := F0 m pc ls (S.map (zw_v ad))) (l := l) (e := e) (below := below) (meth := meth) ⟨hx, hb, hml, hown, hts⟩ hCt (va_cwS np hts hin rfl rfl rfl ⟨k7.1.1, k7.1.2, k7.2⟩ ⟨hR.1, by show 8 + (zm_ml cc + 11) + 40 * d ≤ R.locals; omega⟩)
            ⟨zw_blind, fun U hU hW => ⟨rfl, by rw [hU]; exact hP, va_K.moved hW.alike hK, hD, hSt.moved hW.alike (by rw [hU]; exact hS), hN.warm hW⟩⟩ rfl (by rw [List.length_map, List.length_reverse]; exact zc_beq hb8.2) (hL.1) hstack (lv_room (by rw [zw_cat]; exact Nat.le_of_ble_eq_true hb8.1)) hd hcs
          refine zw_back run hS (fun H1 locs1 hP1 hS1 => ?_)
          have hW2 := hW hx hb hml hown hts hK hSt hN hR hcs hP1 (zw_D hD) hS1 hL hret
          have e2 : (rv.map (zw_v ad)).toList ++ (S.drop np).map (zw_v ad) = (rv.toList ++ S.drop np).map (zw_v ad) := by cases rv <;> rfl
          rw [e2]
          exact hW2
      · exact hne hr
    case ireturn =>
      (try dsimp only at hr)
      (try dsimp only at hck)
      rw [Bool.and_eq_true] at hck
      cases zc_beq hck.1
      split at hr
      · rename_i w
        have hr : cond (zm_retZ mi w) (some (some (.int w), h)) none = some (r, h') := hr
        have hg : zm_retZ mi w = true := by
          cases hq : zm_retZ mi w with
          | true => rfl
          | false => rw [hq] at hr; cases hr
        rw [hg] at hr
        cases hr
        refine ⟨hF, ?_⟩
        intro p e R s m args below meth c H locs cells slots Q ls hx hb hml hown hts hK hSt hN hR hcs hP hD hS hL hret
        have hrt : zm_rt_ mi = some .int ∨ (zm_rt_ mi = some .boolean ∧ (w = 0 ∨ w = 1)) := by
          have hz := hck.2
          unfold zc_rt at hz
          split at hz
          · rename_i e1
            exact Or.inl e1
          · rename_i e1
            refine Or.inr ⟨e1, ?_⟩
            unfold zm_retZ at hg
            rw [hz] at hg
            by_cases h0 : w = 0
            · exact Or.inl h0
            · right
              have hg : cond (decide (w = 0)) true (decide (w = 1)) = true := hg
              rw [decide_eq_false h0] at hg
              exact of_decide_eq_true hg
          · cases hz
        exact hret _ _ _ _ _ hP hS hd (Or.inl ⟨rfl, _, rfl, hrt⟩)
      · exact hne hr
    case lreturn =>
      (try dsimp only at hr)
      (try dsimp only at hck)
      rw [Bool.and_eq_true] at hck
      cases zc_beq hck.1
      split at hr
      · rename_i w
        have hr : cond true (some (some (.long w), h)) none = some (r, h') := hr
        have hg : true = true := by
          cases hq : true with
          | true => rfl
          | false => cases hq
        rw [hg] at hr
        cases hr
        refine ⟨hF, ?_⟩
        intro p e R s m args below meth c H locs cells slots Q ls hx hb hml hown hts hK hSt hN hR hcs hP hD hS hL hret
        exact hret _ _ _ _ _ hP hS hd (Or.inr (Or.inl ⟨rfl, _, rfl, of_decide_eq_true hck.2⟩))
      · exact hne hr
    case areturn =>
      (try dsimp only at hr)
      (try dsimp only at hck)
      rw [Bool.and_eq_true] at hck
      cases zc_beq hck.1
      split at hr
      · rename_i w
        have hr : cond true (some (some (.ref w), h)) none = some (r, h') := hr
        have hg : true = true := by
          cases hq : true with
          | true => rfl
          | false => cases hq
        rw [hg] at hr
        cases hr
        refine ⟨hF, ?_⟩
        intro p e R s m args below meth c H locs cells slots Q ls hx hb hml hown hts hK hSt hN hR hcs hP hD hS hL hret
        obtain ⟨nn, hrt⟩ : ∃ nn, zm_rt_ mi = some (.object nn) := by
          have hz := hck.2
          split at hz
          · rename_i nn e1
            exact ⟨nn, e1⟩
          · cases hz
        exact hret _ _ _ _ _ hP hS hd (Or.inr (Or.inr (Or.inl ⟨rfl, _, nn, rfl, hrt⟩)))
      · exact hne hr
    case return_ =>
      (try dsimp only at hr)
      (try dsimp only at hck)
      rw [Bool.and_eq_true] at hck
      cases zc_beq hck.1
      split at hr
      · have hr : cond true (some (none, h)) none = some (r, h') := hr
        have hg : true = true := by
          cases hq : true with
          | true => rfl
          | false => cases hq
        rw [hg] at hr
        cases hr
        refine ⟨hF, ?_⟩
        intro p e R s m args below meth c H locs cells slots Q ls hx hb hml hown hts hK hSt hN hR hcs hP hD hS hL hret
        exact hret _ _ _ _ _ hP hS hd (Or.inr (Or.inr (Or.inr ⟨rfl, rfl, by simpa using hck.2⟩)))
      · exact hne hr
    all_goals first | exact hne hr | cases hr
end STEP2
