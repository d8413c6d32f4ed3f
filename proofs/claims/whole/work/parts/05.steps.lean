def zi_e (a : Option ZI) (e : ZI) : Bool := match a with
  | some x => decide (x = e)
  | none => false
theorem zi_of {a : Option ZI} {e : ZI} (h : zi_e a e = true) : a = some e := by
  cases a with
  | none => cases h
  | some x => exact congrArg some (of_decide_eq_true h)
theorem zi_and {mi pc : Nat} {e : ZI} (h : (zi_e (zm_tab mi pc) e && (zm_cut mi pc).isNone) = true) : zm_tab mi pc = some e ∧ zm_cut mi pc = none := by
  rw [Bool.and_eq_true] at h
  exact ⟨zi_of h.1, Option.isNone_iff_eq_none.mp h.2⟩
/-! one instruction of the abstract machine, a row: the equations of the blocks are laid out of these by program -/
section ZS
variable {C : Nat → List Value → zm_H → zm_R} {K : zm_K} {mi n pc : Nat} {L : zm_L} {S : List Value} {h : zm_H} {e : ZI}
theorem zgo {I : zm_K} {pc : Nat} {L : zm_L} {S : List Value} {h : zm_H} (hc : zm_cut mi pc = none) : zm_go K I mi (pc, L, S, h) = I pc L S h := by
  unfold zm_go
  rw [hc]
theorem zgoK {I : zm_K} {pc : Nat} {L : zm_L} {S : List Value} {h : zm_H} {l : List Bool} (hc : zm_cut mi pc = some l) : zm_go K I mi (pc, L, S, h) = K pc (zm_mask l L) S h := by
  unfold zm_go
  rw [hc]
theorem zs0 {a : Option zm_A} (ht : zm_tab mi pc = some e) (ha : zm_act mi pc L S h e = a) : zm_int C K mi (n + 1) pc L S h = zm_do C (zm_go K (zm_int C K mi n) mi) L h a := by
  show (match zm_tab mi pc with
    | none => none
    | some e => zm_do C (zm_go K (zm_int C K mi n) mi) L h (zm_act mi pc L S h e)) = _
  rw [ht]
  dsimp only
  rw [ha]
/-- on to the next place -/
theorem zs {q : zm_N} (ht : zm_tab mi pc = some e) (ha : zm_act mi pc L S h e = some (.inl (true, some q, none))) : zm_int C K mi (n + 1) pc L S h = zm_go K (zm_int C K mi n) mi q := (zs0 ht ha).trans rfl
theorem zsT {q : zm_N} {g : Bool} (ht : zm_tab mi pc = some e) (ha : zm_act mi pc L S h e = some (.inl (g, some q, none))) (hg : g = true) : zm_int C K mi (n + 1) pc L S h = zm_go K (zm_int C K mi n) mi q := by
  subst hg
  exact zs ht ha
/-- a guard that is asked -/
theorem zsG {q : zm_N} {g : Bool} {X : zm_R} (ht : zm_tab mi pc = some e) (ha : zm_act mi pc L S h e = some (.inl (g, some q, none))) (k : zm_go K (zm_int C K mi n) mi q = X) : zm_int C K mi (n + 1) pc L S h = cond g X none := by
  rw [← k]
  exact (zs0 ht ha).trans rfl
/-- a branch -/
theorem zsB {g : Bool} {q r : zm_N} {X Y : zm_R} (ht : zm_tab mi pc = some e) (ha : zm_act mi pc L S h e = some (.inl (g, some q, some r))) (k1 : zm_go K (zm_int C K mi n) mi q = X) (k2 : zm_go K (zm_int C K mi n) mi r = Y) : zm_int C K mi (n + 1) pc L S h = cond g X Y := by
  rw [← k1, ← k2]
  exact (zs0 ht ha).trans rfl
/-- a switch -/
theorem zsS {x : Int32} {l : List (Int32 × Nat)} {d : Nat} {S' : List Value} {X : zm_R} (ht : zm_tab mi pc = some e) (ha : zm_act mi pc L S h e = some (.inr (.inl (x, l, d, S')))) (k : zm_sw x l (zm_go K (zm_int C K mi n) mi (d, L, S', h)) (fun pc' => zm_go K (zm_int C K mi n) mi (pc', L, S', h)) = X) : zm_int C K mi (n + 1) pc L S h = X := ((zs0 ht ha).trans rfl).trans k
theorem zsw0 {x : Int32} {d X : zm_R} {go : Nat → zm_R} (k : d = X) : zm_sw x [] d go = X := k
theorem zsw1 {x y : Int32} {t : Nat} {l : List (Int32 × Nat)} {d X Y : zm_R} {go : Nat → zm_R} (k1 : go t = X) (k2 : zm_sw x l d go = Y) : zm_sw x ((y, t) :: l) d go = cond (decide (x = y)) X Y := by
  rw [← k1, ← k2]
  rfl
/-- a call -/
theorem zsV {c pc' rf : Nat} {as S' : List Value} {r : zm_R} {k : zm_H → zm_R} (ht : zm_tab mi pc = some e) (ha : zm_act mi pc L S h e = some (.inr (.inr (.inl (true, c, as, pc', S', 0, rf))))) (hr : C c as h = r) (hk : ∀ h', zm_go K (zm_int C K mi n) mi (pc', L, S', h') = k h') : zm_int C K mi (n + 1) pc L S h = zb_V r k := by
  rw [zs0 ht ha, ← hr, ← (funext hk : (fun h' => zm_go K (zm_int C K mi n) mi (pc', L, S', h')) = k)]
  rfl
theorem zsI {c pc' rf : Nat} {as S' : List Value} {r : zm_R} {k : Int32 → zm_H → zm_R} (ht : zm_tab mi pc = some e) (ha : zm_act mi pc L S h e = some (.inr (.inr (.inl (true, c, as, pc', S', 1, rf))))) (hr : C c as h = r) (hk : ∀ x h', zm_go K (zm_int C K mi n) mi (pc', L, .int x :: S', h') = k x h') : zm_int C K mi (n + 1) pc L S h = zb_I r k := by
  rw [zs0 ht ha, ← hr, ← (funext fun x => funext fun h' => hk x h' : (fun x h' => zm_go K (zm_int C K mi n) mi (pc', L, .int x :: S', h')) = k)]
  rfl
theorem zsJ {c pc' rf : Nat} {as S' : List Value} {r : zm_R} {k : Int64 → zm_H → zm_R} (ht : zm_tab mi pc = some e) (ha : zm_act mi pc L S h e = some (.inr (.inr (.inl (true, c, as, pc', S', 2, rf))))) (hr : C c as h = r) (hk : ∀ x h', zm_go K (zm_int C K mi n) mi (pc', L, .long x :: S', h') = k x h') : zm_int C K mi (n + 1) pc L S h = zb_J r k := by
  rw [zs0 ht ha, ← hr, ← (funext fun x => funext fun h' => hk x h' : (fun x h' => zm_go K (zm_int C K mi n) mi (pc', L, .long x :: S', h')) = k)]
  rfl
theorem zsQ {c pc' rf o : Nat} {as S' : List Value} {r : zm_R} {k : zm_H → zm_R} (ht : zm_tab mi pc = some e) (ha : zm_act mi pc L S h e = some (.inr (.inr (.inl (true, c, as, pc', S', 3, rf))))) (ho : rf = o) (hr : C c as h = r) (hk : ∀ h', zm_go K (zm_int C K mi n) mi (pc', L, .ref o :: S', h') = k h') : zm_int C K mi (n + 1) pc L S h = zb_Q r o k := by
  subst ho
  rw [zs0 ht ha, ← hr, ← (funext hk : (fun h' => zm_go K (zm_int C K mi n) mi (pc', L, .ref rf :: S', h')) = k)]
  rfl
/-- a call whose receiver's kind is asked, or known -/
theorem zsCg {g : Bool} {q : Nat × List Value × Nat × List Value × Nat × Nat} {X : zm_R} (ht : zm_tab mi pc = some e) (ha : zm_act mi pc L S h e = some (.inr (.inr (.inl (g, q))))) (k : zm_do C (zm_go K (zm_int C K mi n) mi) L h (some (.inr (.inr (.inl (true, q))))) = X) : zm_int C K mi (n + 1) pc L S h = cond g X none := by
  rw [zs0 ht ha, ← k]
  cases g <;> rfl
theorem zsCt {g : Bool} {q : Nat × List Value × Nat × List Value × Nat × Nat} {X : zm_R} (ht : zm_tab mi pc = some e) (ha : zm_act mi pc L S h e = some (.inr (.inr (.inl (g, q))))) (hg : g = true) (k : zm_do C (zm_go K (zm_int C K mi n) mi) L h (some (.inr (.inr (.inl (true, q))))) = X) : zm_int C K mi (n + 1) pc L S h = X := by
  rw [zs0 ht ha, ← k, hg]
theorem zdV {G : zm_N → zm_R} {c pc' rf : Nat} {as S' : List Value} {r : zm_R} {k : zm_H → zm_R} (hr : C c as h = r) (hk : ∀ h', G (pc', L, S', h') = k h') : zm_do C G L h (some (.inr (.inr (.inl (true, c, as, pc', S', 0, rf))))) = zb_V r k := by
  rw [← hr, ← (funext hk : (fun h' => G (pc', L, S', h')) = k)]
  rfl
theorem zdI {G : zm_N → zm_R} {c pc' rf : Nat} {as S' : List Value} {r : zm_R} {k : Int32 → zm_H → zm_R} (hr : C c as h = r) (hk : ∀ x h', G (pc', L, .int x :: S', h') = k x h') : zm_do C G L h (some (.inr (.inr (.inl (true, c, as, pc', S', 1, rf))))) = zb_I r k := by
  rw [← hr, ← (funext fun x => funext fun h' => hk x h' : (fun x h' => G (pc', L, .int x :: S', h')) = k)]
  rfl
theorem zdJ {G : zm_N → zm_R} {c pc' rf : Nat} {as S' : List Value} {r : zm_R} {k : Int64 → zm_H → zm_R} (hr : C c as h = r) (hk : ∀ x h', G (pc', L, .long x :: S', h') = k x h') : zm_do C G L h (some (.inr (.inr (.inl (true, c, as, pc', S', 2, rf))))) = zb_J r k := by
  rw [← hr, ← (funext fun x => funext fun h' => hk x h' : (fun x h' => G (pc', L, .long x :: S', h')) = k)]
  rfl
theorem zdQ {G : zm_N → zm_R} {c pc' rf o : Nat} {as S' : List Value} {r : zm_R} {k : zm_H → zm_R} (ho : rf = o) (hr : C c as h = r) (hk : ∀ h', G (pc', L, .ref o :: S', h') = k h') : zm_do C G L h (some (.inr (.inr (.inl (true, c, as, pc', S', 3, rf))))) = zb_Q r o k := by
  subst ho
  rw [← hr, ← (funext hk : (fun h' => G (pc', L, .ref rf :: S', h')) = k)]
  rfl
/-- fields -/
theorem zsFI {i ln ci k p o : Nat} {v : Value} {sw : List (Int32 × Nat)} {r : List Value} (ht : zm_tab mi pc = some (.getfield i, ln, [ci, k, 0, p], v, sw)) (hg : zm_isO o ci = true) : zm_int C K mi (n + 1) pc L (.ref o :: r) h = zm_go K (zm_int C K mi n) mi (pc + ln, L, .int (h.1 o k) :: r, h) := zsT ht rfl hg
theorem zsFZ {i ln ci k p o : Nat} {v : Value} {sw : List (Int32 × Nat)} {r : List Value} (ht : zm_tab mi pc = some (.getfield i, ln, [ci, k, 1, p], v, sw)) (hg : zm_isO o ci = true) : zm_int C K mi (n + 1) pc L (.ref o :: r) h = zm_go K (zm_int C K mi n) mi (pc + ln, L, .int (h.1 o k) :: r, h) := zsT ht rfl hg
theorem zsFR {i ln ci k p o q : Nat} {v : Value} {sw : List (Int32 × Nat)} {r : List Value} (ht : zm_tab mi pc = some (.getfield i, ln, [ci, k, 2, p], v, sw)) (hg : zm_isO o ci = true) (hq : zm_rt o k = q) : zm_int C K mi (n + 1) pc L (.ref o :: r) h = zm_go K (zm_int C K mi n) mi (pc + ln, L, .ref q :: r, h) := by
  subst hq
  exact zsT ht rfl hg
theorem zsFIg {i ln ci k p o : Nat} {v : Value} {sw : List (Int32 × Nat)} {r : List Value} {X : zm_R} (ht : zm_tab mi pc = some (.getfield i, ln, [ci, k, 0, p], v, sw)) (hk : zm_go K (zm_int C K mi n) mi (pc + ln, L, .int (h.1 o k) :: r, h) = X) : zm_int C K mi (n + 1) pc L (.ref o :: r) h = cond (zm_isO o ci) X none := zsG ht rfl hk
theorem zsFRg {i ln ci k p o : Nat} {v : Value} {sw : List (Int32 × Nat)} {r : List Value} {X : zm_R} (ht : zm_tab mi pc = some (.getfield i, ln, [ci, k, 2, p], v, sw)) (hk : zm_go K (zm_int C K mi n) mi (pc + ln, L, .ref (zm_rt o k) :: r, h) = X) : zm_int C K mi (n + 1) pc L (.ref o :: r) h = cond (zm_isO o ci) X none := zsG ht rfl hk
theorem zsP {i ln ci k p o : Nat} {x : Int32} {v : Value} {sw : List (Int32 × Nat)} {r : List Value} (ht : zm_tab mi pc = some (.putfield i, ln, [ci, k, 0, p], v, sw)) (hg : zm_isO o ci = true) : zm_int C K mi (n + 1) pc L (.int x :: .ref o :: r) h = zm_go K (zm_int C K mi n) mi (pc + ln, L, r, zm_ui h o k x) := zsT ht rfl hg
theorem zsPZ {i ln ci k p o : Nat} {x : Int32} {v : Value} {sw : List (Int32 × Nat)} {r : List Value} (ht : zm_tab mi pc = some (.putfield i, ln, [ci, k, 1, p], v, sw)) (hg : zm_isO o ci = true) (hz : zm_isZ x = true) : zm_int C K mi (n + 1) pc L (.int x :: .ref o :: r) h = zm_go K (zm_int C K mi n) mi (pc + ln, L, r, zm_ui h o k x) := by
  refine zsT ht rfl ?_
  show cond (zm_isZ x) (zm_isO o ci) false = true
  rw [hz]
  exact hg
theorem zsPg {i ln ci k p o : Nat} {x : Int32} {v : Value} {sw : List (Int32 × Nat)} {r : List Value} {X : zm_R} (ht : zm_tab mi pc = some (.putfield i, ln, [ci, k, 0, p], v, sw)) (hk : zm_go K (zm_int C K mi n) mi (pc + ln, L, r, zm_ui h o k x) = X) : zm_int C K mi (n + 1) pc L (.int x :: .ref o :: r) h = cond (zm_isO o ci) X none := zsG ht rfl hk
/-- lengths -/
theorem zsLn {ln a len : Nat} {e4 : List Nat × Value × List (Int32 × Nat)} {r : List Value} (ht : zm_tab mi pc = some (.arraylength, ln, e4)) (h1 : zm_isA a = true) (h2 : Nat.beq (zm_kd a).1 5 = false) (h3 : (zm_kd a).2 = len) : zm_int C K mi (n + 1) pc L (.ref a :: r) h = zm_go K (zm_int C K mi n) mi (pc + ln, L, .int (Int32.ofNat len) :: r, h) := by
  subst h3
  rw [zsT (q := (pc + ln, L, .int (cond (Nat.beq (zm_kd a).1 5) (h.1 2001 0) (Int32.ofNat (zm_kd a).2)) :: r, h)) ht rfl h1, h2]
  rfl
theorem zsLs {ln a : Nat} {e4 : List Nat × Value × List (Int32 × Nat)} {r : List Value} (ht : zm_tab mi pc = some (.arraylength, ln, e4)) (h1 : zm_isA a = true) (h2 : Nat.beq (zm_kd a).1 5 = true) : zm_int C K mi (n + 1) pc L (.ref a :: r) h = zm_go K (zm_int C K mi n) mi (pc + ln, L, .int (h.1 2001 0) :: r, h) := by
  rw [zsT (q := (pc + ln, L, .int (cond (Nat.beq (zm_kd a).1 5) (h.1 2001 0) (Int32.ofNat (zm_kd a).2)) :: r, h)) ht rfl h1, h2]
  rfl
/-- ends -/
theorem zsR {v : Option Value} {g : Bool} (ht : zm_tab mi pc = some e) (ha : zm_act mi pc L S h e = some (.inr (.inr (.inr (g, v))))) (hg : g = true) : zm_int C K mi (n + 1) pc L S h = some (v, h) := by
  subst hg
  exact (zs0 ht ha).trans rfl
theorem zsRI {x : Int32} {ln : Nat} {e4 : List Nat × Value × List (Int32 × Nat)} (ht : zm_tab mi pc = some (.ireturn, ln, e4)) (hB : zm_isB mi = false) : zm_int C K mi (n + 1) pc L [.int x] h = some (some (.int x), h) := by
  refine zsR ht rfl ?_
  show cond (zm_isB mi) _ true = true
  rw [hB]
  rfl
theorem zsRZ {x : Int32} {ln : Nat} {e4 : List Nat × Value × List (Int32 × Nat)} (ht : zm_tab mi pc = some (.ireturn, ln, e4)) (hB : zm_isB mi = true) : zm_int C K mi (n + 1) pc L [.int x] h = cond (cond (decide (x = 0)) true (decide (x = 1))) (some (some (.int x), h)) none := by
  rw [zs0 (a := some (.inr (.inr (.inr (zm_retZ mi x, some (.int x)))))) ht rfl]
  show cond (zm_retZ mi x) _ none = _
  unfold zm_retZ
  rw [hB]
  rfl
end ZS
