/-! SOUNDNESS: what the abstract machine answers, the machine does -/
def zw_rm (d : Nat) : Room := { frames := d, cells := 0, slots := 0, locals := 40 * d }
def zw_ws (c : Nat) : List Jvm.Cond := .code (zm_y c) (zm_b c) (zm_ml c) (zm_rt_ c) :: lw_g
def zw_In (ad : Nat → Nat) (cA cJ cS : ClassId) (D : va_G) (A : Nat → Prop) (sv : Nat → Nat → Int32) (h : zm_H) (U : State) : Prop :=
  va_P D vwCl (zw ad cA cJ cS h) U.heap ∧ va_K D vwCl (zw_ty cA cJ cS) U ∧ va_D A (zw ad cA cJ cS h) ∧ zw_S ad A sv U ∧ zw_N U
def zw_Q (ad : Nat → Nat) (cA cJ cS : ClassId) (D : va_G) (A : Nat → Prop) (h' : zm_H) (r : Option Value) : Array Value → State → Outcome → State → Prop := fun _ st oc t =>
  oc = .returned (r.map (zw_v ad)) ∧ va_P D vwCl (zw ad cA cJ cS h') t.heap ∧ va_F A st t
/-- a call's answer r and memory h', whatever stands below it, with d frames left -/
def zw_Ct (l : Launch) (ad : Nat → Nat) (cA cJ cS : ClassId) (D : va_G) (A : Nat → Prop) (sv : Nat → Nat → Int32) (d c : Nat) (as : List Value) (h : zm_H) (r : Option Value) (h' : zm_H) : Prop :=
  Met l (zm_y c) (zw_ws c) (zw_rm d) (va_Pc (as.map (zw_v ad)) (zw_In ad cA cJ cS D A sv h)) (zw_Q ad cA cJ cS D A h' r) 0 0 A
/-- which return instruction answers r -/
def zw_ri (i : Instr) (rt : Option FieldType) (r : Option Value) : Prop :=
  (i = .ireturn ∧ ∃ v, r = some (.int v) ∧ (rt = some .int ∨ (rt = some .boolean ∧ (v = 0 ∨ v = 1)))) ∨ (i = .lreturn ∧ ∃ v, r = some (.long v) ∧ rt = some .long) ∨ (i = .areturn ∧ ∃ a n, r = some (.ref a) ∧ rt = some (.object n)) ∨ (i = .return_ ∧ r = none ∧ rt = none)
/-- from this place the frame comes to its end with r and h' -/
def zw_W (l : Launch) (ad : Nat → Nat) (cA cJ cS : ClassId) (D : va_G) (A : Nat → Prop) (sv : Nat → Nat → Int32) (d mi pc : Nat) (L : zm_L) (S : List Value) (h : zm_H) (r : Option Value) (h' : zm_H) : Prop :=
  ∀ {p : Program} {e : Env} {R : Room} {s : State} {m : MethodId} {args : Array Value} {below : List Frame} {meth : Method} {c : Code} {H : Heap} {locs : List Loc} {cells slots : Nat} {Q : State → Prop} {ls : Array Slot},
    p.tables.exec = Jvm.exec → c.code = zm_b mi → c.maxLocals = zm_ml mi → s.vm.findClass (zm_own mi) = some m.cls → (∀ w ∈ lw_g, w.before args s = true) →
    va_K D vwCl (zw_ty cA cJ cS) s → zw_S ad A sv s → zw_N s → (d + 1 ≤ R.frames ∧ 40 * d + 40 ≤ R.locals) → (cells ≤ R.cells ∧ slots ≤ R.slots) →
    va_P D vwCl (zw ad cA cJ cS h) H → va_D A (zw ad cA cJ cS h) → va_S A s.heap H locs → zw_lh ad ls (zm_ml mi) L →
    (∀ (H' : Heap) (locs' : List Loc) (pc' : Nat) (ls' : Array Slot) (i : Instr), va_P D vwCl (zw ad cA cJ cS h') H' → va_S A s.heap H' locs' → decode (zm_b mi) pc' = .ok (i, 1) → zw_ri i (zm_rt_ mi) r → W p l e R s m args below meth c H' locs' cells slots Q (F0 m pc' ls' (r.toList.map (zw_v ad)))) →
    W p l e R s m args below meth c H locs cells slots Q (F0 m pc ls (S.map (zw_v ad)))
section SO
variable {l : Launch} {ad : Nat → Nat} {cA cJ cS : ClassId} {D : va_G} {A : Nat → Prop} {sv : Nat → Nat → Int32}
theorem zw_blind {as : List Value} {h : zm_H} : FrameBlind (va_Pc as (zw_In ad cA cJ cS D A sv h)) := by
  intro a U g mk q
  obtain ⟨q0, q1, q2, q3, q4, q5⟩ := q
  exact ⟨q0, q1, va_K.moved (u := U) (U := U.calling g mk a) (Vm.Alike.refl U.vm) q2, q3, q4.moved (U := U.calling g mk a) (Vm.Alike.refl U.vm) (locs := []) va_S.rf, va_Nw.same (U := U.calling g mk a) rfl rfl q5⟩
/-- behind a call -/
theorem zw_back {p : Program} {e : Env} {R : Room} {s : State} {m : MethodId} {args : Array Value} {below : List Frame} {meth : Method} {c : Code} {H : Heap} {locs : List Loc} {cells slots : Nat} {Q : State → Prop} {pc : Nat} {ls : Array Slot} {rest st0 : List Value} {a : Array Value} {h' : zm_H} {r : Option Value}
    (hr : va_Run p l e R s m args below meth c H locs cells slots 0 0 (F0 m pc ls st0) rest (zw_Q ad cA cJ cS D A h' r a) A) (hS : va_S A s.heap H locs)
    (kk : ∀ (H1 : Heap) (locs1 : List Loc), va_P D vwCl (zw ad cA cJ cS h') H1 → va_S A s.heap H1 locs1 → W p l e R s m args below meth c H1 locs1 cells slots Q (F0 m (pc + 3) ls ((r.map (zw_v ad)).toList ++ rest))) : W p l e R s m args below meth c H locs cells slots Q (F0 m pc ls st0) := by
  intro T hT X
  obtain ⟨v, st₀, t, T', L, h0, X', hL, e1, e2, ⟨hv, hP, hz, hk⟩, st⟩ := hr T hT X
  cases hv
  rw [h0] at hz hk
  obtain ⟨t2, a1, b1⟩ := kk T'.heap (locs ++ L) (by rw [e1]; exact hP)
    ⟨Nat.le_trans hS.1 (by rw [e1]; exact hz), fun q h1 h2 => by rw [e1, hk q (Nat.lt_of_lt_of_le h1 hS.1) h2]; exact hS.2.1 q h1 h2, fun q hq => by
      rcases List.mem_append.mp hq with h | h
      · exact hS.2.2 q h
      · exact hL q h⟩ T' rfl X'
  exact ⟨t2, st t2 a1, b1⟩
/-- a frame's walk is a method's contract -/
theorem zw_ofW {d c : Nat} {as : List Value} {h : zm_H} {r : Option Value} {h' : zm_H} (hc : c < zm_NM) (hf : zm_fit c as = true) (hW : zw_W l ad cA cJ cS D A sv d c 0 (zm_ent c as) [] h r h') : zw_Ct l ad cA cJ cS D A sv (d + 1) c as h r h' := by
  have hm := zm_chm_all c hc
  unfold zm_chm at hm
  rw [Bool.and_eq_true] at hm
  obtain ⟨hm2, hm3⟩ := hm
  refine Met.ofW (cc := zm_b c) (maxL := zm_ml c) (ret := zm_rt_ c) hm2 rfl ?_
  intro p e s m args below meth cd s₁ B hml hv
  obtain ⟨rfl, hP, hK, hD, hSt, hN⟩ := hv
  have hx := B.exec
  have hb := B.bytes
  have hr := B.returns
  have hts0 := atoms_spec (ws := zw_ws c) B.pre
  have hts : ∀ w ∈ lw_g, w.before (as.map (zw_v ad)).toArray s = true := fun w hw => hts0 w (List.mem_cons_of_mem _ hw)
  have hown : s.vm.findClass (zm_own c) = some m.cls := findClass_of_methodNamed B.named
  have hlocks := B.notSynchronized
  rw [lg_entry_eq]
  refine hW (R := (headSpec (zw_ws c) (zw_rm (d + 1))).room) hx hb hml hown hts hK hSt hN ⟨by show d + 1 ≤ d + 1; omega, by show 40 * d + 40 ≤ 40 * (d + 1); omega⟩ ⟨Nat.le_refl _, Nat.le_refl _⟩ hP hD va_S.rf (zw_lh.entry hf) ?_
  intro H' locs' pc' ls' i hP' hS' hd hri
  rcases hri with ⟨rfl, v, rfl, hrt⟩ | ⟨rfl, v, rfl, hrt⟩ | ⟨rfl, a, n, rfl, hrt⟩ | ⟨rfl, rfl, hrt⟩
  · rcases hrt with hrt | ⟨hrt, hz⟩
    · exact W.iret (v := v) hx hb (by rw [hr, hrt]) (fun t ht hW => ⟨rfl, by rw [ht]; exact hP', hS'.F ht⟩) hS'.2.2 hd
    · exact W.zret (v := v) (ty := .boolean) hx hb (by rw [hr, hrt]) (by rcases hz with rfl | rfl <;> decide) (fun t ht hW => ⟨rfl, by rw [ht]; exact hP', hS'.F ht⟩) hS'.2.2 hd
  · exact W.lret (v := v) hx hb (by rw [hr, hrt]) (fun t ht hW => ⟨rfl, by rw [ht]; exact hP', hS'.F ht⟩) hS'.2.2 hd
  · exact W.aret (v := .ref (ad a)) (rt := .object n) hx hb (by rw [hr, hrt]) (Or.inl ⟨n, rfl⟩) (Or.inr ⟨_, rfl⟩) (fun t ht hW => ⟨rfl, by rw [ht]; exact hP', hS'.F ht⟩) hS'.2.2 hd
  · exact W.vret hx hb (by rw [hr, hrt]) (fun t ht hW => ⟨rfl, by rw [ht]; exact hP', hS'.F ht⟩) hS'.2.2 hd
end SO
