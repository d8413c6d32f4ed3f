/-! the law's head, and the whole start out of what the equations say -/
def zs_v (z n : Nat) : Int32 := match z with
  | 0 => ([40, 1, 0, 0, 0, 1, 20, 10, 0, 1, 1, 0] : List Int32).getD n 0
  | 1 => ([200, 9, 9, 200, 99, 9, 60, 99, 9, 9, 4, 200] : List Int32).getD n 0
  | 2 => ([(-1), 0, 0, 2, 1, 3, 0, 4] : List Int32).getD n 0
  | _ => ([1, 10, 11, 2, 20, 0, 0, 0, 0, 30, 0, 0, 0, 41, 40, 0, 0, 0, 50, 0, 0, 0, 0, 60, 70, 0, 0, 0, 0, 80, 0, 81] : List Int32).getD n 0
/-- what never changes: the static rows, the script, its length -/
def zs_sv (L : Nat) (xs : Nat → Int32) (a n : Nat) : Int32 := cond (Nat.beq a 2000) (xs n) (cond (Nat.beq a 2001) (Int32.ofNat L) (zs_v (a - 1000) n))
section HEAD
variable {p : Program} {l : Launch} {e : Env} {R : Room} {s : State} {m : MethodId} {args : Array Value} {below : List Frame} {meth : Method} {c : Code} {H : Heap} {locs : List Loc} {cells slots : Nat} {Q : State → Prop}
variable {base : Nat} {cA cJ cS : ClassId} {D : va_G}
theorem zp_newW {cc : ByteArray} {own : String} {pc n ci : Nat} {Cn : String} {Tn : u_T} {ls : Array Slot} {rest : List Value} {hp : List zp_C} (hx : p.tables.exec = Jvm.exec) (hb : c.code = cc) (hown : s.vm.findClass own = some m.cls) (hts : ∀ w ∈ lw_g, w.before args s = true) (hK : va_K D vwCl (zw_ty cA cJ cS) s)
    (hA : base ≤ s.heap.size) (hnum : s.heap.size + cells = base + hp.length) (hP : va_P D vwCl (zp base cA cJ cS hp) H) (hS : va_S (fun q => base ≤ q) s.heap H locs) (hvw : vwCl[ci]? = some (Cn, Tn, zm_nF ci))
    (z2 : Jvm.Cond.classLink own n Cn ∈ lw_g) (z3 : Jvm.Cond.instantiable Cn (zm_nF ci) ∈ lw_g) (z4 : Jvm.Cond.initialized Cn ∈ lw_g) (hd : decode cc pc = .ok (.new n, 3)) (hc1 : cells + 1 ≤ R.cells) (hc2 : slots + zm_nF ci ≤ R.slots)
    (kk : ∀ H1 : Heap, va_P D vwCl (zp base cA cJ cS (hp ++ [.inl (ci, zp_df ci)])) H1 → va_S (fun q => base ≤ q) s.heap H1 locs → W p l e R s m args below meth c H1 locs (cells + 1) (slots + zm_nF ci) Q (F0 m (pc + 3) ls (.ref (base + hp.length) :: rest))) : W p l e R s m args below meth c H locs cells slots Q (F0 m pc ls rest) := by
  have hKn := hK.1 ci _ hvw
  obtain ⟨ty0, hty, -⟩ := zv_ty hvw
  refine zp_szW hnum hP hS hA (fun hz => ?_)
  refine W.newcK hx hb hown (hts _ z2) (hts _ z3) (hts _ z4) rfl hd hc1 hc2 hKn.2.1 hz fun H1 kC hkC e1 z1 o1 => ?_
  have hdf : ∀ j, j < zm_nF ci → defaultValue (ty0 j) = vp_V ((zp_df ci).map (zp_v base)) j := by
    intro j hj
    have hp1 := hty j hj
    unfold vp_V zp_df
    rw [List.getD_eq_getElem?_getD, List.getElem?_map, List.getElem?_map, List.getElem?_range hj]
    exact zp_dflt hvw hj hp1
  obtain ⟨-, q2, q3⟩ := zp_pushP (c := .inl (ci, zp_df ci)) hz hP hS z1 o1 ⟨_, hvw, (u_born ty0 hts (zv_in hvw) hKn hkC e1 hty).to hdf⟩
  exact kk H1 q2 q3
/-- a constructor's call from the law -/
theorem zp_iniW {cc : ByteArray} {own : String} {nL pc n ci F : Nat} {ls : Array Slot} {rest : List Value} {hp : List zp_C} {o : Nat} {q : zp_S} (hx : p.tables.exec = Jvm.exec) (hb : c.code = cc) (hml : c.maxLocals = nL) (hown : s.vm.findClass own = some m.cls) (hts : ∀ w ∈ lw_g, w.before args s = true) (hK : va_K D vwCl (zw_ty cA cJ cS) s) (hN : zp_N s)
    (hA : base ≤ s.heap.size) (hnum : s.heap.size + cells = base + hp.length) (hP : va_P D vwCl (zp base cA cJ cS hp) H) (hS : va_S (fun q => base ≤ q) s.heap H locs) (hci : ci < zp_NM) (hsz : ls.size = nL)
    (hq : zp_run F ci 0 (zp_ent ci [.ref o]) [] hp = some q) (hf : zp_fit ci [.ref o] = true) (hy : zc_y (zp_y ci) 0 = true)
    (z2 : Jvm.Cond.methodLink own n (zp_y ci) ∈ lw_g) (z3 : Jvm.Cond.instanceMethod (zp_y ci) ∈ lw_g) (z4 : Jvm.Cond.initialized (zp_own ci) ∈ lw_g) (hd : decode cc pc = .ok (.invokespecial n, 3)) (hcat : ((rest.map fun v => v.category).sum) ≤ 8)
    (hR : F + 2 ≤ R.frames ∧ 40 * F + 80 ≤ R.locals) (hcs : cells + (q.2.2.2.length - hp.length) ≤ R.cells ∧ slots + (zp_sl q.2.2.2 - zp_sl hp) ≤ R.slots)
    (kk : ∀ (H1 : Heap) (locs1 : List Loc), va_P D vwCl (zp base cA cJ cS q.2.2.2) H1 → va_S (fun q => base ≤ q) s.heap H1 locs1 → W p l e R s m args below meth c H1 locs1 (cells + (q.2.2.2.length - hp.length)) (slots + (zp_sl q.2.2.2 - zp_sl hp)) Q (F0 m (pc + 3) ls rest)) : W p l e R s m args below meth c H locs cells slots Q (F0 m pc ls (.ref (base + o) :: rest)) := by
  obtain ⟨-, h2⟩ := zp_run_sound (l := l) (base := base) (cA := cA) (cJ := cJ) (cS := cS) (D := D) F ci 0 _ _ _ q (by omega) hq
  obtain ⟨hS0, e2, ht2, hi2⟩ := zp_run_ret F ci 0 _ _ _ q hci hq
  have hk2 := zp_checked (mi := ci) (by omega) ht2
  have hd2 := zp_chk_dec hk2
  rw [hi2] at hd2
  have hln : e2.2.1 = 1 := by
    unfold zp_chk at hk2
    rw [Bool.and_eq_true] at hk2
    have hk3 := hk2.2
    rw [hi2] at hk3
    exact zc_beq hk3
  rw [hln] at hd2
  have hM := zp_ofW hci hf hS0 hd2 h2
  unfold zc_y at hy
  simp only [Bool.and_eq_true, decide_eq_true_eq] at hy
  have hmlc := zp_mlLe ci hci
  have hin2 : GoodIn lw_g (zp_ws ci) := by
    intro w hw
    refine zw_good w ?_
    unfold zp_ws at hw
    rcases List.mem_cons.mp hw with rfl | hw
    · exact (zp_dAll ci hci).1
    · exact hw
  refine zp_szW hnum hP hS hA (fun hz => ?_)
  have hpre : PreS s H (va_Pc (([.ref o] : List Value).map (zp_v base)) (zp_In base cA cJ cS D hp)) (.ref (base + o) :: ([] : List Value)) :=
    ⟨zp_blind, fun U hU hW => ⟨rfl, by rw [hU]; exact hz, by rw [hU]; exact hP, va_K.moved hW.alike hK, hN.warm hW⟩⟩
  refine zp_back (va_runI (n := 0) (As := []) (rest := rest) ⟨hx, hb, hml, hown, hts⟩ hM (cwI 0 hts hin2 rfl rfl rfl (hts _ z4) (hts _ z2) (hts _ z3) (zp_dAll ci hci).2.2 ⟨hy.1.1, hy.1.2, hy.2⟩ ⟨hR.1, by show 8 + (zp_ml ci + 11) + (40 * F + 40) ≤ R.locals; omega⟩) hpre rfl rfl hsz rfl (lv_room hcat) hd hcs) hS kk
end HEAD

set_option maxRecDepth 100000 in
theorem zs_T0 {b : Addr} {s : State} {A : Nat → Prop} (hgv : (Jvm.Cond.and given_1 narrow_1).before #[Value.ref b] s = true) (hts : ∀ w ∈ lw_tbl, w.before #[Value.ref b] s = true) (hA : ∀ a : Nat, a < s.heap.size → ¬ A a) : ∃ t : Nat, va_Z "EndTooLong" "LEAST" "[I" (.ref t) A s s.heap ∧ va_T .int t 12 (fun n => .int (zs_v 0 n)) A s s.heap := by
  have hs := flat_of_before _ hgv
  have hel : ∀ j, j < 12 → Jvm.Cond.eq (.elem (.static "EndTooLong" "LEAST" "[I") (.int (Int32.ofNat j))) (.int (zs_v 0 j)) ∈ flatC (Jvm.Cond.and given_1 narrow_1) := by decide +kernel
  obtain ⟨t, h1, h2⟩ := va_Tof (tm := .static "EndTooLong" "LEAST" "[I") (ty := .int) (N := 12) (f := fun n => .int (zs_v 0 n)) (A := A) (by decide) (hs _ (by decide +kernel)) (va_eqt (hs (.eq (.length (.static "EndTooLong" "LEAST" "[I")) (.int 12)) (by decide +kernel))) (fun j hj => va_eqt (hs _ (hel j hj))) hA
  exact ⟨t, va_Zof (hts (.laysStatic "EndTooLong" "LEAST" "[I") (by decide +kernel)) (hts (.initialized "EndTooLong") (by decide +kernel)) h1 hA, h2⟩
set_option maxRecDepth 100000 in
theorem zs_T1 {b : Addr} {s : State} {A : Nat → Prop} (hgv : (Jvm.Cond.and given_1 narrow_1).before #[Value.ref b] s = true) (hts : ∀ w ∈ lw_tbl, w.before #[Value.ref b] s = true) (hA : ∀ a : Nat, a < s.heap.size → ¬ A a) : ∃ t : Nat, va_Z "EndTooLong" "MOST" "[I" (.ref t) A s s.heap ∧ va_T .int t 12 (fun n => .int (zs_v 1 n)) A s s.heap := by
  have hs := flat_of_before _ hgv
  have hel : ∀ j, j < 12 → Jvm.Cond.eq (.elem (.static "EndTooLong" "MOST" "[I") (.int (Int32.ofNat j))) (.int (zs_v 1 j)) ∈ flatC (Jvm.Cond.and given_1 narrow_1) := by decide +kernel
  obtain ⟨t, h1, h2⟩ := va_Tof (tm := .static "EndTooLong" "MOST" "[I") (ty := .int) (N := 12) (f := fun n => .int (zs_v 1 n)) (A := A) (by decide) (hs _ (by decide +kernel)) (va_eqt (hs (.eq (.length (.static "EndTooLong" "MOST" "[I")) (.int 12)) (by decide +kernel))) (fun j hj => va_eqt (hs _ (hel j hj))) hA
  exact ⟨t, va_Zof (hts (.laysStatic "EndTooLong" "MOST" "[I") (by decide +kernel)) (hts (.initialized "EndTooLong") (by decide +kernel)) h1 hA, h2⟩
set_option maxRecDepth 100000 in
theorem zs_T2 {b : Addr} {s : State} {A : Nat → Prop} (hgv : (Jvm.Cond.and given_1 narrow_1).before #[Value.ref b] s = true) (hts : ∀ w ∈ lw_tbl, w.before #[Value.ref b] s = true) (hA : ∀ a : Nat, a < s.heap.size → ¬ A a) : ∃ t : Nat, va_Z "EndTooLong$Turns" "ABOVE" "[I" (.ref t) A s s.heap ∧ va_T .int t 8 (fun n => .int (zs_v 2 n)) A s s.heap := by
  have hs := flat_of_before _ hgv
  have hel : ∀ j, j < 8 → Jvm.Cond.eq (.elem (.static "EndTooLong$Turns" "ABOVE" "[I") (.int (Int32.ofNat j))) (.int (zs_v 2 j)) ∈ flatC (Jvm.Cond.and given_1 narrow_1) := by decide +kernel
  obtain ⟨t, h1, h2⟩ := va_Tof (tm := .static "EndTooLong$Turns" "ABOVE" "[I") (ty := .int) (N := 8) (f := fun n => .int (zs_v 2 n)) (A := A) (by decide) (hs _ (by decide +kernel)) (va_eqt (hs (.eq (.length (.static "EndTooLong$Turns" "ABOVE" "[I")) (.int 8)) (by decide +kernel))) (fun j hj => va_eqt (hs _ (hel j hj))) hA
  exact ⟨t, va_Zof (hts (.laysStatic "EndTooLong$Turns" "ABOVE" "[I") (by decide +kernel)) (hts (.initialized "EndTooLong$Turns") (by decide +kernel)) h1 hA, h2⟩
set_option maxRecDepth 100000 in
theorem zs_T3 {b : Addr} {s : State} {A : Nat → Prop} (hgv : (Jvm.Cond.and given_1 narrow_1).before #[Value.ref b] s = true) (hts : ∀ w ∈ lw_tbl, w.before #[Value.ref b] s = true) (hA : ∀ a : Nat, a < s.heap.size → ¬ A a) : ∃ t : Nat, va_Z "EndTooLong$Turns" "OWN" "[I" (.ref t) A s s.heap ∧ va_T .int t 32 (fun n => .int (zs_v 3 n)) A s s.heap := by
  have hs := flat_of_before _ hgv
  have hel : ∀ j, j < 32 → Jvm.Cond.eq (.elem (.static "EndTooLong$Turns" "OWN" "[I") (.int (Int32.ofNat j))) (.int (zs_v 3 j)) ∈ flatC (Jvm.Cond.and given_1 narrow_1) := by decide +kernel
  obtain ⟨t, h1, h2⟩ := va_Tof (tm := .static "EndTooLong$Turns" "OWN" "[I") (ty := .int) (N := 32) (f := fun n => .int (zs_v 3 n)) (A := A) (by decide) (hs _ (by decide +kernel)) (va_eqt (hs (.eq (.length (.static "EndTooLong$Turns" "OWN" "[I")) (.int 32)) (by decide +kernel))) (fun j hj => va_eqt (hs _ (hel j hj))) hA
  exact ⟨t, va_Zof (hts (.laysStatic "EndTooLong$Turns" "OWN" "[I") (by decide +kernel)) (hts (.initialized "EndTooLong$Turns") (by decide +kernel)) h1 hA, h2⟩
theorem zs_b : zm_b 239 = cL_law := rfl
theorem zs_ml : zm_ml 239 = 4 := by decide +kernel
theorem zs_y : zm_y 239 = yL_law := by decide +kernel
theorem zs_own : zm_own 239 = "EndTooLongLaw" := by rw [show zm_own 239 = (zm_y 239).cls from rfl, zs_y]; rfl
set_option maxHeartbeats 1000000 in
set_option maxRecDepth 100000 in
/-- the whole start, out of the equations' answer (hB) -/
theorem whole_start_open (hB : ∀ (L : Nat) (xs : Nat → Int32), L ≤ 3072 → ∃ h', fL_law_c18 200 0 (zp_h0 (zs_sv L xs)) = some (some (.int 1), h'))
    {p : Program} {e : Env} {s : State} {m : MethodId} {below : List Frame} {meth : Method} {c : Code} (l : Launch) (hflags : l.flags = flags0) {b L : Nat} {xs : Nat → Int32} (hL : L ≤ 3072) (C0 : lw_At p s m meth c b L xs) : W p l e room_1 s m #[Value.ref b] below meth c s.heap [] 0 0 (lw_Z below #[Value.ref b] s) (entryFrame m ([Value.ref b] : List Value).toArray 4) := by
  obtain ⟨hx, hb, hr, hml, hown, hts, hX, hbl, hlocks, hgv⟩ := id C0
  have htg : ∀ w ∈ lw_g, w.before #[Value.ref b] s = true := fun w hw => hts w (lw_g_in hw)
  have hA0 : ∀ a : Nat, a < s.heap.size → ¬ (fun q : Nat => s.heap.size ≤ q) a := fun a ha => Nat.not_le.mpr ha
  obtain ⟨c0, iS0, hKn0⟩ := u_known (C := RX0) (T := TX0) (N := 6) (n := 6) htg zu_0 (htg (.instantiable RX0 6) (lw_g_of (by decide +kernel) rfl))
  obtain ⟨c1, iS1, hKn1⟩ := u_known (C := RX1) (T := TX1) (N := 8) (n := 8) htg zu_1 (htg (.instantiable RX1 8) (lw_g_of (by decide +kernel) rfl))
  obtain ⟨c2, iS2, hKn2⟩ := u_known (C := RX2) (T := TX2) (N := 12) (n := 12) htg zu_2 (htg (.instantiable RX2 12) (lw_g_of (by decide +kernel) rfl))
  obtain ⟨c3, iS3, hKn3⟩ := u_known (C := RX3) (T := TX3) (N := 4) (n := 4) htg zu_3 (htg (.instantiable RX3 4) (lw_g_of (by decide +kernel) rfl))
  obtain ⟨c4, iS4, hKn4⟩ := u_known (C := RX4) (T := TX4) (N := 6) (n := 6) htg zu_4 (htg (.instantiable RX4 6) (lw_g_of (by decide +kernel) rfl))
  obtain ⟨c5, iS5, hKn5⟩ := u_known (C := RX5) (T := TX5) (N := 3) (n := 3) htg zu_5 (htg (.instantiable RX5 3) (lw_g_of (by decide +kernel) rfl))
  obtain ⟨c6, iS6, hKn6⟩ := u_known (C := RX6) (T := TX6) (N := 5) (n := 5) htg zu_6 (htg (.instantiable RX6 5) (lw_g_of (by decide +kernel) rfl))
  obtain ⟨c7, iS7, hKn7⟩ := u_known (C := RX7) (T := TX7) (N := 4) (n := 4) htg zu_7 (htg (.instantiable RX7 4) (lw_g_of (by decide +kernel) rfl))
  obtain ⟨c8, iS8, hKn8⟩ := u_known (C := RX8) (T := TX8) (N := 6) (n := 6) htg zu_8 (htg (.instantiable RX8 6) (lw_g_of (by decide +kernel) rfl))
  obtain ⟨c9, iS9, hKn9⟩ := u_known (C := RX9) (T := TX9) (N := 11) (n := 11) htg zu_9 (htg (.instantiable RX9 11) (lw_g_of (by decide +kernel) rfl))
  obtain ⟨c10, iS10, hKn10⟩ := u_known (C := RX10) (T := TX10) (N := 57) (n := 57) htg zu_10 (htg (.instantiable RX10 57) (lw_g_of (by decide +kernel) rfl))
  obtain ⟨dC, dI, hKc⟩ : ∃ (dC : Nat → ClassId) (dI : Nat → Nat → Nat), ∀ (k : Nat) (q : vw_C), vwCl[k]? = some q → u_Kn s q.1 q.2.1 q.2.2 (dC k) (dI k) := by
    refine ⟨fun k => match k with | 0 => c0 | 1 => c1 | 2 => c2 | 3 => c3 | 4 => c4 | 5 => c5 | 6 => c6 | 7 => c7 | 8 => c8 | 9 => c9 | _ => c10, fun k => match k with | 0 => iS0 | 1 => iS1 | 2 => iS2 | 3 => iS3 | 4 => iS4 | 5 => iS5 | 6 => iS6 | 7 => iS7 | 8 => iS8 | 9 => iS9 | _ => iS10, ?_⟩
    intro k q hq
    match k, hq with
    | 0, hq => cases hq; exact hKn0
    | 1, hq => cases hq; exact hKn1
    | 2, hq => cases hq; exact hKn2
    | 3, hq => cases hq; exact hKn3
    | 4, hq => cases hq; exact hKn4
    | 5, hq => cases hq; exact hKn5
    | 6, hq => cases hq; exact hKn6
    | 7, hq => cases hq; exact hKn7
    | 8, hq => cases hq; exact hKn8
    | 9, hq => cases hq; exact hKn9
    | 10, hq => cases hq; exact hKn10
    | n + 11, hq => cases hq
  obtain ⟨cA, kA, coA, a1, a2, a3⟩ := Cond.arrayClass_spec (htg (.arrayClass .int) (lw_g_of (by decide +kernel) rfl))
  obtain ⟨cJ, kJ, coJ, b1, b2, b3⟩ := Cond.arrayClass_spec (htg (.arrayClass .long) (lw_g_of (by decide +kernel) rfl))
  have hAO : va_AO "EndTooLong$Shelf" s := va_AO.of (hts (.arrayOver (.object "EndTooLong$Shelf")) (by decide +kernel))
  obtain ⟨coS, cS, kS, d1, d2, d3, d4, d5⟩ := Cond.arrayOver_spec (va_AO.use (A := #[Value.ref b]) hAO)
  have hK : va_K (dC, dI) vwCl (zw_ty cA cJ cS) s := by
    refine ⟨hKc, fun k q hq => ?_⟩
    match k, hq with
    | 0, hq => cases hq; exact ⟨fun N z => ⟨(fun k h => by cases h), kA, a2, coA, a3⟩, a1⟩
    | 1, hq => cases hq; exact ⟨fun N z => ⟨(fun k h => by cases h), kJ, b2, coJ, b3⟩, b1⟩
    | 2, hq => cases hq; exact ⟨fun N z => ⟨(fun k h => by cases h), kS, d3, coS, d4⟩, ⟨kS, coS, d3, d4, d1, d5⟩⟩
    | n + 3, hq => cases hq
  have hN : zp_N s := ⟨fun w hw => by
    have hm : ∀ w ∈ zp_nest, w ∈ lw_tbl := by decide +kernel
    have ht : ∀ w ∈ zp_nest, w.onTables = true := by decide +kernel
    exact va_Nw.of (ht w hw) (hts w (hm w hw)), hAO⟩
  have hZN : zw_N s := va_Nw.of rfl (hts (.fieldLinkNest "EndTooLong$Numbers" 31 "EndTooLong" "MOST" "[I" "EndTooLong") (by decide +kernel))
  obtain ⟨t0, Z0, T0⟩ := zs_T0 (A := fun q : Nat => s.heap.size ≤ q) hgv hts hA0
  obtain ⟨t1, Z1, T1⟩ := zs_T1 (A := fun q : Nat => s.heap.size ≤ q) hgv hts hA0
  obtain ⟨t2, Z2, T2⟩ := zs_T2 (A := fun q : Nat => s.heap.size ≤ q) hgv hts hA0
  obtain ⟨t3, Z3, T3⟩ := zs_T3 (A := fun q : Nat => s.heap.size ≤ q) hgv hts hA0
  obtain ⟨old, o0, o1, o2, o3, o4⟩ : ∃ old : Nat → Nat, old 1000 = t0 ∧ old 1001 = t1 ∧ old 1002 = t2 ∧ old 1003 = t3 ∧ old 2000 = b :=
    ⟨fun k => if k = 1000 then t0 else if k = 1001 then t1 else if k = 1002 then t2 else if k = 1003 then t3 else b, rfl, rfl, rfl, rfl, rfl⟩
  have hLn : Int32.ofNat (Int32.ofNat L).toNatClampNeg = Int32.ofNat L := by rw [Int32.toNatClampNeg_ofNat_of_lt (by omega)]
  have hSt : zw_S (zp_ad s.heap.size old) (fun q : Nat => s.heap.size ≤ q) (zs_sv L xs) s := by
    refine ⟨fun z hz => ?_, ?_, ?_, ?_, hLn⟩
    · match z, hz with
      | 0, _ => rw [show zp_ad s.heap.size old (1000 + 0) = t0 from o0]; exact ⟨Z0, T0⟩
      | 1, _ => rw [show zp_ad s.heap.size old (1000 + 1) = t1 from o1]; exact ⟨Z1, T1⟩
      | 2, _ => rw [show zp_ad s.heap.size old (1000 + 2) = t2 from o2]; exact ⟨Z2, T2⟩
      | 3, _ => rw [show zp_ad s.heap.size old (1000 + 3) = t3 from o3]; exact ⟨Z3, T3⟩
    · rw [show zp_ad s.heap.size old 2000 = b from o4]
      show va_X b (Int32.ofNat L).toNatClampNeg xs s s.heap
      rw [Int32.toNatClampNeg_ofNat_of_lt (by omega)]
      exact hX
    · rw [show zp_ad s.heap.size old 2000 = b from o4]; exact hA0 b hbl
    · rw [show zp_ad s.heap.size old 2000 = b from o4]; exact hbl
  have hl := lv_entry ([.ref b]) (n := 4) (Nat.le_of_ble_eq_true rfl)
  rw [lg_entry_eq]
  generalize (lg_sl ([.ref b]) ++ List.replicate (4 - (lg_sl ([.ref b])).length) Slot.unset).toArray = ls at hl ⊢
  have hl : lv_has ls 4 [(0, .ref b)] := hl
  have hown : s.vm.findClass "EndTooLongLaw" = some m.cls := hown
  obtain ⟨qE, eE1, eE2⟩ := zp_rE
  obtain ⟨qM, eM1, eM2⟩ := zp_rM
  have hlE := zp_litE_len
  have hlM := zp_litM_len
  have hsE := zp_litE_sl
  have hsM := zp_litM_sl
  have hnf9 : zm_nF 9 = 11 := by decide +kernel
  have hnf10 : zm_nF 10 = 57 := by decide +kernel
  have hc9 : vwCl[9]? = some (RX9, TX9, zm_nF 9) := by rw [hnf9]; rfl
  have hc10 : vwCl[10]? = some (RX10, TX10, zm_nF 10) := by rw [hnf10]; rfl
  have hP0 : va_P (dC, dI) vwCl (zp s.heap.size cA cJ cS []) s.heap := fun k q h => by cases h
  refine zp_newW (base := s.heap.size) (ci := 9) (hp := []) hx hb hown htg hK (Nat.le_refl _) rfl hP0 va_S.rf hc9 (lw_g_of (by decide +kernel) rfl) (lw_g_of (by decide +kernel) rfl) (lw_g_of (by decide +kernel) rfl) (by decide +kernel : decode code 0 = .ok (.new 7, 3)) (Nat.le_of_ble_eq_true rfl) (by rw [hnf9]; exact Nat.le_of_ble_eq_true rfl) (fun H1 hP1 hS1 => ?_)
  refine lv_dup hx hb (by decide +kernel : decode code 3 = .ok (.dup, 1)) rfl ?_
  rw [List.nil_append] at hP1
  refine zp_iniW (base := s.heap.size) (F := 900) (ci := 9) (o := 0) (hp := [.inl (9, zp_df 9)]) (q := qE) hx hb hml hown htg hK hN (Nat.le_refl _) (by simp) hP1 hS1 (by decide) hl.1 eE1 (by decide +kernel) (by decide +kernel) (lw_g_of (by decide +kernel) rfl) (lw_g_of (by decide +kernel) rfl) (lw_g_of (by decide +kernel) rfl) (by decide +kernel : decode code 4 = .ok (.invokespecial 9, 3)) (Nat.le_of_ble_eq_true rfl) ⟨Nat.le_of_ble_eq_true rfl, Nat.le_of_ble_eq_true rfl⟩ ⟨by rw [eE2]; show 0 + 1 + (zp_litE.length - 1) ≤ 600000; omega, by rw [eE2, hnf9]; show 0 + 11 + (zp_sl zp_litE - _) ≤ 7302250; omega⟩ (fun H2 locs2 hP2 hS2 => ?_)
  rw [eE2] at hP2 ⊢
  have hk1 : 0 + 1 + (zp_litE.length - ([.inl (9, zp_df 9)] : List zp_C).length) ≤ 45 := by rw [hlE]; exact Nat.le_of_ble_eq_true rfl
  have hk2 : 0 + zm_nF 9 + (zp_sl zp_litE - zp_sl [.inl (9, zp_df 9)]) ≤ 7100 := by rw [hnf9]; omega
  refine W.widen (k := 45) (n := 7100) hk1 hk2 ?_
  refine lv_astore_n (lv' := [(1, .ref (s.heap.size + 0)), (0, .ref b)]) hx hb (by decide +kernel : decode code 7 = .ok (.astore_n 1, 1)) rfl hl (by decide) rfl (fun ls hl => ?_)
  have hn2 : s.heap.size + 45 = s.heap.size + zp_litE.length := by rw [hlE]
  have hs2 : 7100 + zm_nF 10 ≤ room_1.slots := by rw [hnf10]; exact Nat.le_of_ble_eq_true rfl
  refine zp_newW (base := s.heap.size) (ci := 10) (hp := zp_litE) hx hb hown htg hK (Nat.le_refl _) hn2 hP2 hS2 hc10 (lw_g_of (by decide +kernel) rfl) (lw_g_of (by decide +kernel) rfl) (lw_g_of (by decide +kernel) rfl) (by decide +kernel : decode code 8 = .ok (.new 10, 3)) (Nat.le_of_ble_eq_true rfl) hs2 (fun H3 hP3 hS3 => ?_)
  refine lv_dup hx hb (by decide +kernel : decode code 11 = .ok (.dup, 1)) rfl ?_
  have hl46 : (zp_litE ++ [.inl (10, zp_df 10)] : List zp_C).length = 46 := by rw [List.length_append, hlE]; rfl
  have hq83 : qM.2.2.2.length = 83 := by rw [eM2]; exact hlM
  have hn3 : s.heap.size + (45 + 1) = s.heap.size + (zp_litE ++ [.inl (10, zp_df 10)] : List zp_C).length := by rw [hl46]
  have hk3 : 45 + 1 + (qM.2.2.2.length - (zp_litE ++ [.inl (10, zp_df 10)] : List zp_C).length) ≤ room_1.cells := by rw [hq83, hl46]; exact Nat.le_of_ble_eq_true rfl
  have hk4 : 7100 + zm_nF 10 + (zp_sl qM.2.2.2 - zp_sl (zp_litE ++ [.inl (10, zp_df 10)])) ≤ room_1.slots := by
    rw [hnf10, eM2]
    refine Nat.le_trans (m := 14157) ?_ (Nat.le_of_ble_eq_true rfl)
    omega
  have eM3 : zp_run 900 10 0 (zp_ent 10 [.ref zp_litE.length]) [] (zp_litE ++ [.inl (10, zp_df 10)]) = some qM := by rw [hlE]; exact eM1
  have eM4 : zp_fit 10 [.ref zp_litE.length] = true := by rw [hlE]; decide +kernel
  generalize hhp2 : (zp_litE ++ [.inl (10, zp_df 10)] : List zp_C) = hp2 at hP3 hn3 hk3 hk4 eM3
  generalize hoo : zp_litE.length = oo at eM3 eM4 ⊢
  refine zp_iniW (base := s.heap.size) (F := 900) (ci := 10) (o := oo) (hp := hp2) (q := qM) hx hb hml hown htg hK hN (Nat.le_refl _) hn3 hP3 hS3 (by decide) hl.1 eM3 eM4 (by decide +kernel) (lw_g_of (by decide +kernel) rfl) (lw_g_of (by decide +kernel) rfl) (lw_g_of (by decide +kernel) rfl) (by decide +kernel : decode code 12 = .ok (.invokespecial 12, 3)) (Nat.le_of_ble_eq_true rfl) ⟨Nat.le_of_ble_eq_true rfl, Nat.le_of_ble_eq_true rfl⟩ ⟨hk3, hk4⟩ (fun H4 locs4 hP4 hS4 => ?_)
  refine W.widen (k := 600000) (n := 7302250) hk3 hk4 ?_
  rw [eM2] at hP4
  refine lv_astore_n (lv' := [(2, .ref (s.heap.size + oo)), (1, .ref (s.heap.size + 0)), (0, .ref b)]) hx hb (by decide +kernel : decode code 15 = .ok (.astore_n 2, 1)) rfl hl (by decide) rfl (fun ls hl => ?_)
  refine lv_iconst (v := 0) hx hb (by decide +kernel : decode code 16 = .ok (.iconst 0, 1)) (by decide) ?_
  refine lv_istore_n (lv' := [(3, .int 0), (2, .ref (s.heap.size + oo)), (1, .ref (s.heap.size + 0)), (0, .ref b)]) hx hb (by decide +kernel : decode code 17 = .ok (.istore_n 3, 1)) rfl hl (by decide) rfl (fun ls hl => ?_)
  obtain ⟨h', hlaw⟩ := hB L xs hL
  have hlaw2 : zm_lim 200 239 18 [some (.ref 2000), some (.ref 0), some (.ref 45), some (.int 0)] [] (zp_h0 (zs_sv L xs)) = some (some (.int 1), h') := hlaw
  obtain ⟨-, hs⟩ := zw_lim_sound (l := l) (ad := zp_ad s.heap.size old) (cA := cA) (cJ := cJ) (cS := cS) (D := (dC, dI)) (A := fun q : Nat => s.heap.size ≤ q) (sv := zs_sv L xs) (Nat.le_of_ble_eq_true rfl) hlaw2 (zp_h0_F _)
  have hlh : zw_lh (zp_ad s.heap.size old) ls (zm_ml 239) [some (.ref 2000), some (.ref 0), some (.ref 45), some (.int 0)] := by
    rw [zs_ml]
    refine ⟨hl.1, hl.2.1, fun i v hv => ?_⟩
    match i, hv with
    | 0, hv => cases hv; show ls[0]? = some (.val (.ref (zp_ad s.heap.size old 2000))); rw [show zp_ad s.heap.size old 2000 = b from o4]; exact lv_at hl 3 rfl
    | 1, hv => cases hv; exact lv_at hl 2 rfl
    | 2, hv =>
      cases hv
      have h45 := lv_at hl 1 rfl
      rw [← hoo, hlE] at h45
      exact h45
    | 3, hv => cases hv; exact lv_at hl 0 rfl
    | n + 4, hv => cases hv
  have hb2 : c.code = zm_b 239 := by rw [zs_b]; exact hb
  have hml2 : c.maxLocals = zm_ml 239 := by rw [zs_ml]; exact hml
  have hown2 : s.vm.findClass (zm_own 239) = some m.cls := by rw [zs_own]; exact hown
  have hP5 := zp_to_zw (old := old) (sv := zs_sv L xs) hP4
  have hD5 : va_D (fun q : Nat => s.heap.size ≤ q) (zw (zp_ad s.heap.size old) cA cJ cS (zp_h0 (zs_sv L xs))) := zp_zwD
  have hfin := hs (p := p) (e := e) (m := m) (args := #[Value.ref b]) (below := below) (meth := meth) (c := c) (H := H4) (locs := locs4) (ls := ls) (R := room_1) (cells := 600000) (slots := 7302250) (Q := lw_Z below #[Value.ref b] s) hx hb2 hml2 hown2 htg hK hSt hZN ⟨Nat.le_of_ble_eq_true rfl, Nat.le_of_ble_eq_true rfl⟩ ⟨Nat.le_refl _, Nat.le_refl _⟩ hP5 hD5 hS4 hlh
  refine hfin ?_
  intro H' locs' pc' ls' i hP' hS' hd hri
  rw [zs_b] at hd
  rcases hri with ⟨rfl, v, hv, hrt⟩ | ⟨rfl, v, hv, hrt⟩ | ⟨rfl, a, n, hv, hrt⟩ | ⟨rfl, hv, hrt⟩
  · cases hv
    exact va_forget (fun q hq => hS'.2.2 q hq) (lw_ret hx hb hr hlocks hd)
  · cases hv
  · cases hv
  · cases hv
