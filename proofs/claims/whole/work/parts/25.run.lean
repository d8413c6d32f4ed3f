/-! soundness of the whole abstract machine -/
section RUN
variable {l : Launch} {ad : Nat → Nat} {cA cJ cS : ClassId} {D : va_G} {A : Nat → Prop} {sv : Nat → Nat → Int32}
theorem zw_W.mask {d mi pc : Nat} {L : zm_L} {S : List Value} {h : zm_H} {r : Option Value} {h' : zm_H} (m : List Bool) (hW : zw_W l ad cA cJ cS D A sv d mi pc (zm_mask m L) S h r h') : zw_W l ad cA cJ cS D A sv d mi pc L S h r h' := by
  intro p e R s m args below meth c H locs cells slots Q ls hx hb hml hown hts hK hSt hN hR hcs hP hD hS hL hret
  exact hW hx hb hml hown hts hK hSt hN hR hcs hP hD hS (hL.mask _) hret
theorem zw_int_sound {d mi : Nat} {C : Nat → List Value → zm_H → zm_R} {K : zm_K} (hmi : mi < 240)
    (hC : ∀ c as h r h', c < zm_NM → C c as h = some (r, h') → zw_F sv h → zw_F sv h' ∧ zw_Ct l ad cA cJ cS D A sv d c as h r h')
    (hK : ∀ pc L S h r h', K pc L S h = some (r, h') → zw_F sv h → zw_F sv h' ∧ zw_W l ad cA cJ cS D A sv d mi pc L S h r h') :
    ∀ (n pc : Nat) (L : zm_L) (S : List Value) (h : zm_H) (r : Option Value) (h' : zm_H), zm_int C K mi n pc L S h = some (r, h') → zw_F sv h → zw_F sv h' ∧ zw_W l ad cA cJ cS D A sv d mi pc L S h r h'
  | 0, _, _, _, _, _, _, hr, _ => by cases hr
  | n + 1, pc, L, S, h, r, h', hr, hF => by
    unfold zm_int at hr
    (try dsimp only at hr)
    cases ht : zm_tab mi pc with
    | none => rw [ht] at hr; cases hr
    | some e =>
      rw [ht] at hr
      (try dsimp only at hr)
      refine zw_step hmi ht hr (fun q r h' hq hF => ?_) hC hF
      unfold zm_go at hq
      cases hc : zm_cut mi q.1 with
      | none =>
        rw [hc] at hq
        exact zw_int_sound hmi hC hK n _ _ _ _ _ _ hq hF
      | some m =>
        rw [hc] at hq
        obtain ⟨h1, h2⟩ := hK _ _ _ _ _ _ hq hF
        exact ⟨h1, h2.mask m⟩
theorem zw_run_sound : ∀ (F d mi pc : Nat) (L : zm_L) (S : List Value) (h : zm_H) (r : Option Value) (h' : zm_H), mi < 240 → zm_run F d mi pc L S h = some (r, h') → zw_F sv h → zw_F sv h' ∧ zw_W l ad cA cJ cS D A sv d mi pc L S h r h'
  | 0, _, _, _, _, _, _, _, _, _, hr, _ => by cases hr
  | F + 1, d, mi, pc, L, S, h, r, h', hmi, hr, hF => by
    rw [zm_run_S] at hr
    refine zw_int_sound hmi (fun c as h r h' hc hcr hF => ?_) (fun pc L S h r h' hk hF => zw_run_sound F d mi pc L S h r h' hmi hk hF) 400 pc L S h r h' hr hF
    cases d with
    | zero => cases hcr
    | succ d' =>
      have hcr : cond (zm_fit c as) (zm_run F d' c 0 (zm_ent c as) [] h) none = some (r, h') := hcr
      cases hf : zm_fit c as with
      | false => rw [hf] at hcr; cases hcr
      | true =>
        rw [hf] at hcr
        have hc2 : c < 239 := hc
        obtain ⟨h1, h2⟩ := zw_run_sound F d' c 0 _ _ _ _ _ (by omega) hcr hF
        exact ⟨h1, zw_ofW hc hf h2⟩
theorem zw_lim_sound {d mi pc : Nat} {L : zm_L} {S : List Value} {h : zm_H} {r : Option Value} {h' : zm_H} (hmi : mi < 240) (hr : zm_lim d mi pc L S h = some (r, h')) (hF : zw_F sv h) : zw_F sv h' ∧ zw_W l ad cA cJ cS D A sv d mi pc L S h r h' := by
  obtain ⟨F, hF1⟩ := (zm_lim_iff d mi pc L S h (r, h')).mp hr
  exact zw_run_sound F d mi pc L S h r h' hmi hF1 hF
end RUN
