/-! the abstract machine's answers do not depend on how many cuts are allowed: zm_lim keeps the block's equation -/
def zm_le (a b : zm_R) : Prop := ∀ x, a = some x → b = some x
theorem zm_le_rf (a : zm_R) : zm_le a a := fun _ h => h
theorem zm_le_no (b : zm_R) : zm_le none b := fun _ h => by cases h
theorem zm_le_tr {a b c : zm_R} (h1 : zm_le a b) (h2 : zm_le b c) : zm_le a c := fun x h => h2 x (h1 x h)
theorem zb_V_mono {r r' : zm_R} {k k' : zm_H → zm_R} (h : zm_le r r') (hk : ∀ h, zm_le (k h) (k' h)) : zm_le (zb_V r k) (zb_V r' k') := by
  intro x hx
  rcases r with _ | ⟨_ | v, hh⟩
  · cases hx
  · rw [h _ rfl]; exact hk _ _ hx
  · cases hx
theorem zb_I_mono {r r' : zm_R} {k k' : Int32 → zm_H → zm_R} (h : zm_le r r') (hk : ∀ v h, zm_le (k v h) (k' v h)) : zm_le (zb_I r k) (zb_I r' k') := by
  intro x hx
  rcases r with _ | ⟨_ | v, hh⟩
  · cases hx
  · cases hx
  · cases v with
    | int v => rw [h _ rfl]; exact hk _ _ _ hx
    | _ => cases hx
theorem zb_J_mono {r r' : zm_R} {k k' : Int64 → zm_H → zm_R} (h : zm_le r r') (hk : ∀ v h, zm_le (k v h) (k' v h)) : zm_le (zb_J r k) (zb_J r' k') := by
  intro x hx
  rcases r with _ | ⟨_ | v, hh⟩
  · cases hx
  · cases hx
  · cases v with
    | long v => rw [h _ rfl]; exact hk _ _ _ hx
    | _ => cases hx
theorem zb_Q_mono {r r' : zm_R} {o : Nat} {k k' : zm_H → zm_R} (h : zm_le r r') (hk : ∀ h, zm_le (k h) (k' h)) : zm_le (zb_Q r o k) (zb_Q r' o k') := by
  intro x hx
  rcases r with _ | ⟨_ | v, hh⟩
  · cases hx
  · cases hx
  · cases v with
    | ref v =>
      rw [h _ rfl]
      unfold zb_Q at hx ⊢
      (try dsimp only at hx ⊢)
      cases hb : Nat.beq v o with
      | false => rw [hb] at hx; cases hx
      | true => rw [hb] at hx; exact hk _ _ hx
    | _ => cases hx
theorem zm_sw_mono {x : Int32} {d d' : zm_R} {g g' : Nat → zm_R} (hd : zm_le d d') (hg : ∀ q, zm_le (g q) (g' q)) : ∀ l : List (Int32 × Nat), zm_le (zm_sw x l d g) (zm_sw x l d' g')
  | [] => hd
  | q :: r => by
    intro y hy
    unfold zm_sw at hy ⊢
    cases hb : decide (x = q.1) with
    | false => rw [hb] at hy; exact zm_sw_mono hd hg r y hy
    | true => rw [hb] at hy; exact hg _ _ hy
theorem zm_do_mono {C C' : Nat → List Value → zm_H → zm_R} {G G' : zm_N → zm_R} (hC : ∀ c as h, zm_le (C c as h) (C' c as h)) (hG : ∀ n, zm_le (G n) (G' n)) (L : zm_L) (h : zm_H) (a : Option zm_A) : zm_le (zm_do C G L h a) (zm_do C' G' L h a) := by
  rcases a with _ | ⟨g, n1, n2⟩ | ⟨x, l, d, S'⟩ | ⟨g, c, as, pc', S', rk, rf⟩ | ⟨g, v⟩
  · exact zm_le_rf _
  · unfold zm_do
    (try dsimp only)
    cases g
    · cases n2
      · exact zm_le_rf _
      · exact hG _
    · cases n1
      · exact zm_le_rf _
      · exact hG _
  · exact zm_sw_mono (hG _) (fun q => hG _) l
  · unfold zm_do
    (try dsimp only)
    cases g
    · exact zm_le_rf _
    · match rk with
      | 0 => exact zb_V_mono (hC _ _ _) (fun _ => hG _)
      | 1 => exact zb_I_mono (hC _ _ _) (fun _ _ => hG _)
      | 2 => exact zb_J_mono (hC _ _ _) (fun _ _ => hG _)
      | _ + 3 => exact zb_Q_mono (hC _ _ _) (fun _ => hG _)
  · exact zm_le_rf _
theorem zm_go_mono {K K' I I' : zm_K} (hK : ∀ pc L S h, zm_le (K pc L S h) (K' pc L S h)) (hI : ∀ pc L S h, zm_le (I pc L S h) (I' pc L S h)) (mi : Nat) (n : zm_N) : zm_le (zm_go K I mi n) (zm_go K' I' mi n) := by
  unfold zm_go
  cases zm_cut mi n.1
  · exact hI _ _ _ _
  · exact hK _ _ _ _
theorem zm_int_mono {C C' : Nat → List Value → zm_H → zm_R} {K K' : zm_K} (hC : ∀ c as h, zm_le (C c as h) (C' c as h)) (hK : ∀ pc L S h, zm_le (K pc L S h) (K' pc L S h)) (mi : Nat) : ∀ (n pc : Nat) (L : zm_L) (S : List Value) (h : zm_H), zm_le (zm_int C K mi n pc L S h) (zm_int C' K' mi n pc L S h)
  | 0, _, _, _, _ => zm_le_no _
  | n + 1, pc, L, S, h => by
    unfold zm_int
    (try dsimp only)
    cases zm_tab mi pc
    · exact zm_le_no _
    · exact zm_do_mono hC (fun q => zm_go_mono hK (zm_int_mono hC hK mi n) mi q) L h _
def zm_rc (F d : Nat) (c : Nat) (as : List Value) (h : zm_H) : zm_R := match d with
  | 0 => none
  | d' + 1 => cond (zm_fit c as) (zm_run F d' c 0 (zm_ent c as) [] h) none
theorem zm_run_S (F d mi : Nat) : zm_run (F + 1) d mi = zm_int (zm_rc F d) (zm_run F d mi) mi 400 := by
  rfl
theorem zm_run_mono : ∀ (F d mi pc : Nat) (L : zm_L) (S : List Value) (h : zm_H), zm_le (zm_run F d mi pc L S h) (zm_run (F + 1) d mi pc L S h)
  | 0, _, _, _, _, _, _ => zm_le_no _
  | F + 1, d, mi, pc, L, S, h => by
    rw [zm_run_S, zm_run_S]
    refine zm_int_mono (fun c as h' => ?_) (fun pc L S h => zm_run_mono F d mi pc L S h) mi 400 pc L S h
    cases d with
    | zero => exact zm_le_no _
    | succ d' =>
      show zm_le (cond (zm_fit c as) _ none) (cond (zm_fit c as) _ none)
      cases zm_fit c as
      · exact zm_le_no _
      · exact zm_run_mono F d' c 0 _ _ _
theorem zm_run_le {F F' : Nat} (hF : F ≤ F') (d mi pc : Nat) (L : zm_L) (S : List Value) (h : zm_H) : zm_le (zm_run F d mi pc L S h) (zm_run F' d mi pc L S h) := by
  induction hF with
  | refl => exact zm_le_rf _
  | step _ ih => exact zm_le_tr ih (zm_run_mono _ d mi pc L S h)
theorem zm_lim_iff (d mi pc : Nat) (L : zm_L) (S : List Value) (h : zm_H) (r : Option Value × zm_H) : zm_lim d mi pc L S h = some r ↔ ∃ F, zm_run F d mi pc L S h = some r := by
  unfold zm_lim
  constructor
  · intro hx
    by_cases hc : ∃ r, ∃ F, zm_run F d mi pc L S h = some r
    · rw [dif_pos hc] at hx
      rw [← Option.some.inj hx]
      exact Classical.choose_spec hc
    · rw [dif_neg hc] at hx
      cases hx
  · intro ⟨F, hF⟩
    have hc : ∃ r, ∃ F, zm_run F d mi pc L S h = some r := ⟨r, F, hF⟩
    rw [dif_pos hc]
    obtain ⟨F', hF'⟩ := Classical.choose_spec hc
    have h1 := zm_run_le (Nat.le_max_left F F') d mi pc L S h _ hF
    have h2 := zm_run_le (Nat.le_max_right F F') d mi pc L S h _ hF'
    exact (h2.symm.trans h1)
theorem zm_call_iff (d c : Nat) (as : List Value) (h : zm_H) (r : Option Value × zm_H) : zm_call d c as h = some r ↔ ∃ F, zm_rc F d c as h = some r := by
  cases d with
  | zero => exact ⟨(fun h => by cases h), (fun q => by obtain ⟨F, h⟩ := q; cases h)⟩
  | succ d' =>
    show cond (zm_fit c as) (zm_lim d' c 0 (zm_ent c as) [] h) none = some r ↔ ∃ F, cond (zm_fit c as) (zm_run F d' c 0 (zm_ent c as) [] h) none = some r
    cases zm_fit c as
    · exact ⟨(fun h => by cases h), (fun q => by obtain ⟨F, h⟩ := q; cases h)⟩
    · exact zm_lim_iff d' c 0 _ _ _ r
theorem zm_sw_to {x : Int32} {d : zm_R} {g : Nat → zm_R} {r : Option Value × zm_H} : ∀ l : List (Int32 × Nat), zm_sw x l d g = some r → (d = some r ∧ ∀ (d' : zm_R) (g' : Nat → zm_R), d' = some r → zm_sw x l d' g' = some r) ∨ ∃ q, g q = some r ∧ ∀ (d' : zm_R) (g' : Nat → zm_R), g' q = some r → zm_sw x l d' g' = some r
  | [], h => Or.inl ⟨h, fun _ _ q => q⟩
  | q :: l, h => by
    unfold zm_sw at h
    cases hb : decide (x = q.1) with
    | true =>
      rw [hb] at h
      refine Or.inr ⟨q.2, h, fun d' g' hg => ?_⟩
      unfold zm_sw
      rw [hb]
      exact hg
    | false =>
      rw [hb] at h
      rcases zm_sw_to l h with ⟨h1, h2⟩ | ⟨q2, h1, h2⟩
      · refine Or.inl ⟨h1, fun d' g' hd => ?_⟩
        unfold zm_sw
        rw [hb]
        exact h2 d' g' hd
      · refine Or.inr ⟨q2, h1, fun d' g' hd => ?_⟩
        unfold zm_sw
        rw [hb]
        exact h2 d' g' hd
theorem zm_do_cont {C : Nat → List Value → zm_H → zm_R} {G : zm_N → zm_R} {CF : Nat → Nat → List Value → zm_H → zm_R} {GF : Nat → zm_N → zm_R}
    (mC : ∀ F F', F ≤ F' → ∀ c as h, zm_le (CF F c as h) (CF F' c as h)) (mG : ∀ F F', F ≤ F' → ∀ n, zm_le (GF F n) (GF F' n))
    (hC : ∀ c as h r, C c as h = some r → ∃ F, CF F c as h = some r) (hG : ∀ n r, G n = some r → ∃ F, GF F n = some r)
    (L : zm_L) (h : zm_H) (a : Option zm_A) (r : Option Value × zm_H) (hr : zm_do C G L h a = some r) : ∃ F, zm_do (CF F) (GF F) L h a = some r := by
  rcases a with _ | ⟨g, n1, n2⟩ | ⟨x, l, d, S'⟩ | ⟨g, c, as, pc', S', rk, rf⟩ | ⟨g, v⟩
  · cases hr
  · unfold zm_do at hr ⊢
    (try dsimp only at hr ⊢)
    cases g
    · cases n2 with
      | none => cases hr
      | some n => exact hG _ _ hr
    · cases n1 with
      | none => cases hr
      | some n => exact hG _ _ hr
  · unfold zm_do at hr ⊢
    (try dsimp only at hr ⊢)
    rcases zm_sw_to l hr with ⟨h1, h2⟩ | ⟨q, h1, h2⟩
    · obtain ⟨F, hF⟩ := hG _ _ h1
      exact ⟨F, h2 _ _ hF⟩
    · obtain ⟨F, hF⟩ := hG _ _ h1
      exact ⟨F, h2 _ _ hF⟩
  · unfold zm_do at hr ⊢
    (try dsimp only at hr ⊢)
    cases g
    · cases hr
    · have key : ∀ x : Option Value × zm_H, C c as h = some x → ∃ F, CF F c as h = some x := fun x => hC c as h x
      match rk with
      | 0 =>
        (try dsimp only at hr ⊢)
        rcases hc : C c as h with _ | ⟨_ | v, h'⟩
        · rw [hc] at hr; cases hr
        · rw [hc] at hr
          obtain ⟨F1, e1⟩ := key _ hc
          obtain ⟨F2, e2⟩ := hG _ _ hr
          refine ⟨max F1 F2, ?_⟩
          rw [mC F1 _ (Nat.le_max_left _ _) _ _ _ _ e1]
          exact mG F2 _ (Nat.le_max_right _ _) _ _ e2
        · rw [hc] at hr; cases hr
      | 1 =>
        (try dsimp only at hr ⊢)
        rcases hc : C c as h with _ | ⟨_ | v, h'⟩
        · rw [hc] at hr; cases hr
        · rw [hc] at hr; cases hr
        · rw [hc] at hr
          cases v with
          | int v =>
            obtain ⟨F1, e1⟩ := key _ hc
            obtain ⟨F2, e2⟩ := hG _ _ hr
            refine ⟨max F1 F2, ?_⟩
            rw [mC F1 _ (Nat.le_max_left _ _) _ _ _ _ e1]
            exact mG F2 _ (Nat.le_max_right _ _) _ _ e2
          | _ => cases hr
      | 2 =>
        (try dsimp only at hr ⊢)
        rcases hc : C c as h with _ | ⟨_ | v, h'⟩
        · rw [hc] at hr; cases hr
        · rw [hc] at hr; cases hr
        · rw [hc] at hr
          cases v with
          | long v =>
            obtain ⟨F1, e1⟩ := key _ hc
            obtain ⟨F2, e2⟩ := hG _ _ hr
            refine ⟨max F1 F2, ?_⟩
            rw [mC F1 _ (Nat.le_max_left _ _) _ _ _ _ e1]
            exact mG F2 _ (Nat.le_max_right _ _) _ _ e2
          | _ => cases hr
      | k + 3 =>
        (try dsimp only at hr ⊢)
        rcases hc : C c as h with _ | ⟨_ | v, h'⟩
        · rw [hc] at hr; cases hr
        · rw [hc] at hr; cases hr
        · rw [hc] at hr
          cases v with
          | ref v =>
            unfold zb_Q at hr
            dsimp only at hr
            cases hb : Nat.beq v rf with
            | false => rw [hb] at hr; cases hr
            | true =>
              rw [hb] at hr
              obtain ⟨F1, e1⟩ := key _ hc
              obtain ⟨F2, e2⟩ := hG _ _ hr
              refine ⟨max F1 F2, ?_⟩
              rw [mC F1 _ (Nat.le_max_left _ _) _ _ _ _ e1]
              unfold zb_Q
              (try dsimp only)
              rw [hb]
              exact mG F2 _ (Nat.le_max_right _ _) _ _ e2
          | _ => cases hr
  · exact ⟨0, hr⟩
theorem zm_rc_le {F F' : Nat} (hF : F ≤ F') (d c : Nat) (as : List Value) (h : zm_H) : zm_le (zm_rc F d c as h) (zm_rc F' d c as h) := by
  cases d with
  | zero => exact zm_le_no _
  | succ d' =>
    show zm_le (cond (zm_fit c as) _ none) (cond (zm_fit c as) _ none)
    cases zm_fit c as
    · exact zm_le_no _
    · exact zm_run_le hF d' c 0 _ _ _
theorem zm_int_cont (d mi : Nat) : ∀ (n pc : Nat) (L : zm_L) (S : List Value) (h : zm_H) (r : Option Value × zm_H), zm_int (zm_call d) (zm_lim d mi) mi n pc L S h = some r → ∃ F, zm_int (zm_rc F d) (zm_run F d mi) mi n pc L S h = some r
  | 0, _, _, _, _, _, hr => by cases hr
  | n + 1, pc, L, S, h, r, hr => by
    unfold zm_int at hr ⊢
    (try dsimp only at hr ⊢)
    cases ht : zm_tab mi pc with
    | none => rw [ht] at hr; cases hr
    | some e =>
      rw [ht] at hr
      (try dsimp only at hr ⊢)
      refine zm_do_cont (CF := fun F => zm_rc F d) (GF := fun F => zm_go (zm_run F d mi) (zm_int (zm_rc F d) (zm_run F d mi) mi n) mi) ?_ ?_ ?_ ?_ L h _ r hr
      · exact fun F F' hF c as h => zm_rc_le hF d c as h
      · exact fun F F' hF q => zm_go_mono (fun pc L S h => zm_run_le hF d mi pc L S h) (zm_int_mono (fun c as h => zm_rc_le hF d c as h) (fun pc L S h => zm_run_le hF d mi pc L S h) mi n) mi q
      · exact fun c as h r hc => (zm_call_iff d c as h r).mp hc
      · intro q r hq
        unfold zm_go at hq ⊢
        cases hc : zm_cut mi q.1 with
        | none =>
          rw [hc] at hq
          obtain ⟨F, hF⟩ := zm_int_cont d mi n _ _ _ _ _ hq
          exact ⟨F, hF⟩
        | some l =>
          rw [hc] at hq
          exact (zm_lim_iff d mi _ _ _ _ r).mp hq
/-- THE EQUATION: a block, with calls and cuts as answers again -/
theorem zm_lim_eq (d mi pc : Nat) (L : zm_L) (S : List Value) (h : zm_H) : zm_lim d mi pc L S h = zm_int (zm_call d) (zm_lim d mi) mi 400 pc L S h := by
  have key : ∀ r, zm_lim d mi pc L S h = some r ↔ zm_int (zm_call d) (zm_lim d mi) mi 400 pc L S h = some r := by
    intro r
    constructor
    · intro hr
      obtain ⟨F, hF⟩ := (zm_lim_iff d mi pc L S h r).mp hr
      cases F with
      | zero => cases hF
      | succ F =>
        rw [zm_run_S] at hF
        refine zm_int_mono (fun c as h' x hx => ?_) (fun pc L S h x hx => ?_) mi 400 pc L S h r hF
        · exact (zm_call_iff d c as h' x).mpr ⟨F, hx⟩
        · exact (zm_lim_iff d mi pc L S h x).mpr ⟨F, hx⟩
    · intro hr
      obtain ⟨F, hF⟩ := zm_int_cont d mi 400 pc L S h r hr
      exact (zm_lim_iff d mi pc L S h r).mpr ⟨F + 1, by rw [zm_run_S]; exact hF⟩
  cases h1 : zm_lim d mi pc L S h with
  | none =>
    cases h2 : zm_int (zm_call d) (zm_lim d mi) mi 400 pc L S h with
    | none => rfl
    | some r => rw [(key r).mpr h2] at h1; cases h1
  | some r => exact ((key r).mp h1).symm
