/-! the tables against the bytes (decode) and the words of the claim -/
def zs_C : Nat → String := fun z => cond (Nat.blt z 2) (cond (Nat.blt z 1) (cond (Nat.beq z 0) ("EndTooLong") ("")) (cond (Nat.beq z 1) ("EndTooLong") (""))) (cond (Nat.blt z 3) (cond (Nat.beq z 2) ("EndTooLong$Turns") ("")) (cond (Nat.beq z 3) ("EndTooLong$Turns") ("")))
def zs_n : Nat → String := fun z => cond (Nat.blt z 2) (cond (Nat.blt z 1) (cond (Nat.beq z 0) ("LEAST") ("")) (cond (Nat.beq z 1) ("MOST") (""))) (cond (Nat.blt z 3) (cond (Nat.beq z 2) ("ABOVE") ("")) (cond (Nat.beq z 3) ("OWN") ("")))
/-- which fields hold references, by class and slot; how many fields a class has -/
def zm_fr : Nat → Nat → Bool := fun ci k => cond (Nat.blt ci 5) (cond (Nat.blt ci 2) (cond (Nat.blt ci 1) (cond (Nat.beq ci 0) (cond (Nat.blt k 2) (cond (Nat.blt k 1) (cond (Nat.beq k 0) (true) (false)) (cond (Nat.beq k 1) (true) (false))) (cond (Nat.blt k 3) (cond (Nat.beq k 2) (true) (false)) (cond (Nat.beq k 3) (true) (false)))) (false)) (cond (Nat.beq ci 1) (cond (Nat.blt k 3) (cond (Nat.blt k 1) (cond (Nat.beq k 0) (true) (false)) (cond (Nat.blt k 2) (cond (Nat.beq k 1) (true) (false)) (cond (Nat.beq k 2) (true) (false)))) (cond (Nat.blt k 5) (cond (Nat.blt k 4) (cond (Nat.beq k 3) (true) (false)) (cond (Nat.beq k 4) (true) (false))) (cond (Nat.blt k 6) (cond (Nat.beq k 5) (true) (false)) (cond (Nat.beq k 6) (true) (false))))) (false))) (cond (Nat.blt ci 3) (cond (Nat.beq ci 2) (cond (Nat.beq k 0) (true) (false)) (false)) (cond (Nat.blt ci 4) (cond (Nat.beq ci 3) (cond (Nat.blt k 1) (cond (Nat.beq k 0) (true) (false)) (cond (Nat.beq k 1) (true) (false))) (false)) (cond (Nat.beq ci 4) (cond (Nat.blt k 1) (cond (Nat.beq k 0) (true) (false)) (cond (Nat.beq k 1) (true) (false))) (false))))) (cond (Nat.blt ci 8) (cond (Nat.blt ci 6) (cond (Nat.beq ci 5) (cond (Nat.beq k 0) (true) (false)) (false)) (cond (Nat.blt ci 7) (cond (Nat.beq ci 6) (cond (Nat.blt k 1) (cond (Nat.beq k 0) (true) (false)) (cond (Nat.beq k 1) (true) (false))) (false)) (cond (Nat.beq ci 7) (cond (Nat.beq k 0) (true) (false)) (false)))) (cond (Nat.blt ci 9) (cond (Nat.beq ci 8) (cond (Nat.blt k 1) (cond (Nat.beq k 0) (true) (false)) (cond (Nat.beq k 1) (true) (false))) (false)) (cond (Nat.blt ci 10) (cond (Nat.beq ci 9) (cond (Nat.blt k 5) (cond (Nat.blt k 2) (cond (Nat.blt k 1) (cond (Nat.beq k 0) (true) (false)) (cond (Nat.beq k 1) (true) (false))) (cond (Nat.blt k 3) (cond (Nat.beq k 2) (true) (false)) (cond (Nat.blt k 4) (cond (Nat.beq k 3) (true) (false)) (cond (Nat.beq k 4) (true) (false))))) (cond (Nat.blt k 7) (cond (Nat.blt k 6) (cond (Nat.beq k 5) (true) (false)) (cond (Nat.beq k 6) (true) (false))) (cond (Nat.blt k 8) (cond (Nat.beq k 7) (true) (false)) (cond (Nat.blt k 9) (cond (Nat.beq k 8) (true) (false)) (cond (Nat.beq k 9) (true) (false)))))) (false)) (cond (Nat.beq ci 10) (cond (Nat.blt k 30) (cond (Nat.blt k 14) (cond (Nat.blt k 5) (cond (Nat.blt k 3) (cond (Nat.blt k 2) (cond (Nat.beq k 1) (true) (false)) (cond (Nat.beq k 2) (true) (false))) (cond (Nat.blt k 4) (cond (Nat.beq k 3) (true) (false)) (cond (Nat.beq k 4) (true) (false)))) (cond (Nat.blt k 7) (cond (Nat.blt k 6) (cond (Nat.beq k 5) (true) (false)) (cond (Nat.beq k 6) (true) (false))) (cond (Nat.blt k 12) (cond (Nat.beq k 7) (true) (false)) (cond (Nat.blt k 13) (cond (Nat.beq k 12) (true) (false)) (cond (Nat.beq k 13) (true) (false)))))) (cond (Nat.blt k 21) (cond (Nat.blt k 19) (cond (Nat.blt k 16) (cond (Nat.beq k 14) (true) (false)) (cond (Nat.beq k 16) (true) (false))) (cond (Nat.blt k 20) (cond (Nat.beq k 19) (true) (false)) (cond (Nat.beq k 20) (true) (false)))) (cond (Nat.blt k 27) (cond (Nat.blt k 22) (cond (Nat.beq k 21) (true) (false)) (cond (Nat.beq k 22) (true) (false))) (cond (Nat.blt k 28) (cond (Nat.beq k 27) (true) (false)) (cond (Nat.blt k 29) (cond (Nat.beq k 28) (true) (false)) (cond (Nat.beq k 29) (true) (false))))))) (cond (Nat.blt k 45) (cond (Nat.blt k 36) (cond (Nat.blt k 32) (cond (Nat.blt k 31) (cond (Nat.beq k 30) (true) (false)) (cond (Nat.beq k 31) (true) (false))) (cond (Nat.blt k 35) (cond (Nat.beq k 32) (true) (false)) (cond (Nat.beq k 35) (true) (false)))) (cond (Nat.blt k 40) (cond (Nat.blt k 37) (cond (Nat.beq k 36) (true) (false)) (cond (Nat.beq k 37) (true) (false))) (cond (Nat.blt k 42) (cond (Nat.beq k 40) (true) (false)) (cond (Nat.blt k 44) (cond (Nat.beq k 42) (true) (false)) (cond (Nat.beq k 44) (true) (false)))))) (cond (Nat.blt k 52) (cond (Nat.blt k 47) (cond (Nat.blt k 46) (cond (Nat.beq k 45) (true) (false)) (cond (Nat.beq k 46) (true) (false))) (cond (Nat.blt k 50) (cond (Nat.beq k 47) (true) (false)) (cond (Nat.blt k 51) (cond (Nat.beq k 50) (true) (false)) (cond (Nat.beq k 51) (true) (false))))) (cond (Nat.blt k 54) (cond (Nat.blt k 53) (cond (Nat.beq k 52) (true) (false)) (cond (Nat.beq k 53) (true) (false))) (cond (Nat.blt k 55) (cond (Nat.beq k 54) (true) (false)) (cond (Nat.blt k 56) (cond (Nat.beq k 55) (true) (false)) (cond (Nat.beq k 56) (true) (false)))))))) (false)))))
def zm_nF : Nat → Nat := fun ci => cond (Nat.blt ci 5) (cond (Nat.blt ci 2) (cond (Nat.blt ci 1) (cond (Nat.beq ci 0) (6) (0)) (cond (Nat.beq ci 1) (8) (0))) (cond (Nat.blt ci 3) (cond (Nat.beq ci 2) (12) (0)) (cond (Nat.blt ci 4) (cond (Nat.beq ci 3) (4) (0)) (cond (Nat.beq ci 4) (6) (0))))) (cond (Nat.blt ci 8) (cond (Nat.blt ci 6) (cond (Nat.beq ci 5) (3) (0)) (cond (Nat.blt ci 7) (cond (Nat.beq ci 6) (5) (0)) (cond (Nat.beq ci 7) (4) (0)))) (cond (Nat.blt ci 9) (cond (Nat.beq ci 8) (6) (0)) (cond (Nat.blt ci 10) (cond (Nat.beq ci 9) (11) (0)) (cond (Nat.beq ci 10) (57) (0)))))
/-- the one field of a nest mate that is read: MOST -/
def zw_N (s : State) : Prop := va_Nw (.fieldLinkNest "EndTooLong$Numbers" 31 "EndTooLong" "MOST" "[I" "EndTooLong") s
theorem zw_N.warm {s U : State} (h : zw_N s) (hW : s.WarmedH U.vm) : zw_N U := va_Nw.warmF hW h
def zc_T : Nat → List Jvm.Cond := fun k => cond (Nat.blt k 6) (cond (Nat.blt k 3) (cond (Nat.blt k 1) (cond (Nat.beq k 0) (k2_sels lw_privs_1) ([])) (cond (Nat.blt k 2) (cond (Nat.beq k 1) (k2_sels lw_privs_2) ([])) (cond (Nat.beq k 2) (k2_sels lw_privs_3) ([])))) (cond (Nat.blt k 4) (cond (Nat.beq k 3) (k2_sels lw_privs_4) ([])) (cond (Nat.blt k 5) (cond (Nat.beq k 4) (k2_sels lw_privs_5) ([])) (cond (Nat.beq k 5) (tables_1_1) ([]))))) (cond (Nat.blt k 9) (cond (Nat.blt k 7) (cond (Nat.beq k 6) (tables_1_2) ([])) (cond (Nat.blt k 8) (cond (Nat.beq k 7) (tables_1_3) ([])) (cond (Nat.beq k 8) (tables_1_4) ([])))) (cond (Nat.blt k 10) (cond (Nat.beq k 9) (tables_1_5) ([])) (cond (Nat.blt k 11) (cond (Nat.beq k 10) (tables_1_6) ([])) (cond (Nat.beq k 11) (tables_1_7) ([])))))
theorem zc_sels (l : List (MethodName × Nat)) (h : ∀ q ∈ l, q ∈ lw_privs) : ∀ w ∈ k2_sels l, w ∈ lw_tbl := by
  intro w hw
  obtain ⟨q, hq, rfl⟩ := List.mem_map.mp hw
  exact List.mem_append_left _ (List.mem_map.mpr ⟨q, h q hq, rfl⟩)
theorem zc_T0 : ∀ w ∈ k2_sels lw_privs_1, w ∈ lw_tbl := zc_sels _ (fun q h => List.mem_append_left _ h)
theorem zc_T1 : ∀ w ∈ k2_sels lw_privs_2, w ∈ lw_tbl := zc_sels _ (fun q h => List.mem_append_right _ (List.mem_append_left _ h))
theorem zc_T2 : ∀ w ∈ k2_sels lw_privs_3, w ∈ lw_tbl := zc_sels _ (fun q h => List.mem_append_right _ (List.mem_append_right _ (List.mem_append_left _ h)))
theorem zc_T3 : ∀ w ∈ k2_sels lw_privs_4, w ∈ lw_tbl := zc_sels _ (fun q h => List.mem_append_right _ (List.mem_append_right _ (List.mem_append_right _ (List.mem_append_left _ h))))
theorem zc_T4 : ∀ w ∈ k2_sels lw_privs_5, w ∈ lw_tbl := zc_sels _ (fun q h => List.mem_append_right _ (List.mem_append_right _ (List.mem_append_right _ (List.mem_append_right _ (h)))))
theorem zc_T5 : ∀ w ∈ tables_1_1, w ∈ lw_tbl := fun w h => List.mem_append_right _ (List.mem_append_left _ h)
theorem zc_T6 : ∀ w ∈ tables_1_2, w ∈ lw_tbl := fun w h => List.mem_append_right _ (List.mem_append_right _ (List.mem_append_left _ h))
theorem zc_T7 : ∀ w ∈ tables_1_3, w ∈ lw_tbl := fun w h => List.mem_append_right _ (List.mem_append_right _ (List.mem_append_right _ (List.mem_append_left _ h)))
theorem zc_T8 : ∀ w ∈ tables_1_4, w ∈ lw_tbl := fun w h => List.mem_append_right _ (List.mem_append_right _ (List.mem_append_right _ (List.mem_append_right _ (List.mem_append_left _ h))))
theorem zc_T9 : ∀ w ∈ tables_1_5, w ∈ lw_tbl := fun w h => List.mem_append_right _ (List.mem_append_right _ (List.mem_append_right _ (List.mem_append_right _ (List.mem_append_right _ (List.mem_append_left _ h)))))
theorem zc_T10 : ∀ w ∈ tables_1_6, w ∈ lw_tbl := fun w h => List.mem_append_right _ (List.mem_append_right _ (List.mem_append_right _ (List.mem_append_right _ (List.mem_append_right _ (List.mem_append_right _ (List.mem_append_left _ h))))))
theorem zc_T11 : ∀ w ∈ tables_1_7, w ∈ lw_tbl := fun w h => List.mem_append_right _ (List.mem_append_right _ (List.mem_append_right _ (List.mem_append_right _ (List.mem_append_right _ (List.mem_append_right _ (List.mem_append_right _ (h)))))))
theorem zc_T_in : ∀ k, ∀ w ∈ zc_T k, w ∈ lw_tbl := by
  intro k w
  unfold zc_T
  repeat' (first | (cases Nat.blt k _ <;> simp only [cond]) | (cases Nat.beq k _ <;> simp only [cond]) | exact fun h => absurd h List.not_mem_nil | exact zc_T0 w | exact zc_T1 w | exact zc_T2 w | exact zc_T3 w | exact zc_T4 w | exact zc_T5 w | exact zc_T6 w | exact zc_T7 w | exact zc_T8 w | exact zc_T9 w | exact zc_T10 w | exact zc_T11 w)
/-- the words that a callee may be told, too -/
def lw_g : List Jvm.Cond := lw_tbl.filter goodWord
theorem lw_g_of {w : Jvm.Cond} (h : w ∈ lw_tbl) (hg : goodWord w = true) : w ∈ lw_g := List.mem_filter.mpr ⟨h, hg⟩
theorem lw_g_in {w : Jvm.Cond} (h : w ∈ lw_g) : w ∈ lw_tbl := (List.mem_filter.mp h).1
theorem zw_good : GoodIn lw_g lw_g := fun w hw => ⟨hw, good_of_word (List.mem_filter.mp hw).2⟩
def zc_w (p : Nat) (w : Jvm.Cond) : Bool := decide ((zc_T (p / 1000))[p % 1000]? = some w) && goodWord w
theorem zc_w_in {p : Nat} {w : Jvm.Cond} (h : zc_w p w = true) : w ∈ lw_g := by
  unfold zc_w at h
  rw [Bool.and_eq_true] at h
  exact lw_g_of (zc_T_in _ _ (List.mem_of_getElem? (of_decide_eq_true h.1))) h.2
/-- the class of a field, by its number -/
def zc_f (mi i ci k t p : Nat) (put : Bool) : Bool := match vwCl[ci]? with
  | some (C, T, N) => Nat.blt k N && Nat.beq N (zm_nF ci) && zc_w p (.fieldLink (zm_own mi) i C (T k).2.1 (T k).2.2.1) && decide ((T k).1 = C) && decide (Nat.beq t 2 = zm_fr ci k) && Nat.ble t 2 && (!put || (!(T k).2.2.2 && ((Nat.beq t 0 && decide ((T k).2.2.1 = "I")) || (Nat.beq t 1 && decide ((T k).2.2.1 = "Z")))))
  | none => false
def zc_y (y : MethodName) (np : Nat) : Bool := decide (y.cls ≠ "java/lang/invoke/MethodHandle") && decide (y.cls ≠ "java/lang/invoke/VarHandle") && decide ((parseMethodDescriptor y.desc).map (fun d => d.parameters.length) = some np)
def zc_rk (r : Option FieldType) (rk : Nat) : Bool := match r with
  | none => Nat.beq rk 0
  | some .int => Nat.beq rk 1
  | some .boolean => Nat.beq rk 1
  | some .long => Nat.beq rk 2
  | some (.object _) => Nat.beq rk 3
  | _ => false
def zc_rt (mi : Nat) : Bool := match zm_rt_ mi with
  | some .int => !(zm_isB mi)
  | some .boolean => zm_isB mi
  | _ => false
def zc_t (pc : Nat) (off : Int) (t : Nat) : Bool := decide ((pc : Int) + off = (t : Int))
def zc_ts (pc : Nat) (lo : Int) : List Int → List (Int32 × Nat) → Bool
  | [], [] => true
  | o :: os, (k, t) :: r => decide (k = Int32.ofInt lo) && decide (k.toInt = lo) && zc_t pc o t && zc_ts pc (lo + 1) os r
  | _, _ => false
def zc_ls (pc : Nat) : List (Int × Int) → List (Int32 × Nat) → Bool
  | [], [] => true
  | (a, o) :: os, (k, t) :: r => decide (k.toInt = a) && zc_t pc o t && zc_ls pc os r
  | _, _ => false
def zm_chk (mi pc : Nat) (e : ZI) : Bool := decide (decode (zm_b mi) pc = .ok (e.1, e.2.1)) && match e.1 with
  | .iconst n => Nat.beq e.2.1 1 && decide (e.2.2.2.1 = .int (Int32.ofInt n))
  | .bipush n => Nat.beq e.2.1 2 && decide (e.2.2.2.1 = .int (Int8.ofInt n).toInt32)
  | .sipush n => Nat.beq e.2.1 3 && decide (e.2.2.2.1 = .int (Int16.ofInt n).toInt32)
  | .lconst n => Nat.beq e.2.1 1 && decide (e.2.2.2.1 = .long (Int64.ofNat (n : Nat)))
  | .ldc i => (match e.2.2.1, e.2.2.2.1 with
    | [p], .int x => Nat.beq e.2.1 2 && zc_w p (.constant (zm_own mi) i x)
    | _, _ => false)
  | .ldc_w i => (match e.2.2.1, e.2.2.2.1 with
    | [p], .int x => Nat.beq e.2.1 3 && zc_w p (.constant (zm_own mi) i x)
    | _, _ => false)
  | .ldc2_w i => (match e.2.2.1, e.2.2.2.1 with
    | [p], .long x => Nat.beq e.2.1 3 && zc_w p (.constantLong (zm_own mi) i x)
    | _, _ => false)
  | .iinc i n => Nat.beq e.2.1 3 && decide (e.2.2.2.1 = .int (Int32.ofInt n)) && Nat.blt i (zm_ml mi)
  | .goto off => (match e.2.2.1 with
    | [t] => Nat.beq e.2.1 3 && zc_t pc off t
    | _ => false)
  | .ifCond _ off => (match e.2.2.1 with
    | [t] => Nat.beq e.2.1 3 && zc_t pc off t
    | _ => false)
  | .if_icmp _ off => (match e.2.2.1 with
    | [t] => Nat.beq e.2.1 3 && zc_t pc off t
    | _ => false)
  | .tableswitch d lo hi os => (match e.2.2.1 with
    | [t] => zc_t pc d t && zc_ts pc lo os.toList e.2.2.2.2 && decide (hi + 1 = lo + os.toList.length)
    | _ => false)
  | .lookupswitch d ps => (match e.2.2.1 with
    | [t] => zc_t pc d t && zc_ls pc ps.toList e.2.2.2.2 && (ps.toList.zip (ps.toList.drop 1)).all (fun (a, next) => a.1 < next.1)
    | _ => false)
  | .getfield i => (match e.2.2.1 with
    | [ci, k, t, p] => Nat.beq e.2.1 3 && zc_f mi i ci k t p false
    | _ => false)
  | .putfield i => (match e.2.2.1 with
    | [ci, k, t, p] => Nat.beq e.2.1 3 && zc_f mi i ci k t p true
    | _ => false)
  | .getstatic i => (match e.2.2.1 with
    | [z, p, q] => Nat.beq e.2.1 3 && Nat.blt z 4 && (cond (Nat.beq q 0) (zc_w p (.fieldLink (zm_own mi) i (zs_C z) (zs_n z) "[I")) (decide (zm_own mi = "EndTooLong$Numbers") && Nat.beq i 31 && Nat.beq z 1))
    | _ => false)
  | .invokevirtual i => (match e.2.2.1 with
    | [c, np, rk, ci, p1, p2, p3, p4] => Nat.beq e.2.1 3 && Nat.blt c zm_NM && zc_w p1 (.methodLink (zm_own mi) i (zm_y c)) && zc_w p2 (.instanceMethod (zm_y c)) && zc_w p3 (.selects (zm_own c) (zm_y c) (zm_y c)) && zc_w p4 (.initialized (zm_own c)) && zc_y (zm_y c) np && decide ((vwCl[ci]?).map (fun q => q.1) = some (zm_own c)) && zc_rk (zm_rt_ c) rk
    | _ => true)
  | .invokestatic i => (match e.2.2.1 with
    | [_, p1, p2, p3, p4] => Nat.beq e.2.1 3 && zc_w p1 (.methodLink (zm_own mi) i arraycopyName) && zc_w p2 (.native arraycopyName) && zc_w p3 (.static arraycopyName) && zc_w p4 (.initialized "java/lang/System")
    | [q, _, _, p1, p2, p3, _] => Nat.beq e.2.1 3 && Nat.ble q 2 && zc_w p1 (.methodLink (zm_own mi) i (cond (Nat.beq q 0) Lib.Math.max.name (cond (Nat.beq q 1) Lib.Math.min.name Lib.Math.abs.name))) && zc_w p2 (.static (cond (Nat.beq q 0) Lib.Math.max.name (cond (Nat.beq q 1) Lib.Math.min.name Lib.Math.abs.name))) && zc_w p3 (.initialized "java/lang/Math")
    | [c, np, rk, p1, p2, p4] => Nat.beq e.2.1 3 && Nat.blt c zm_NM && zc_w p1 (.methodLink (zm_own mi) i (zm_y c)) && zc_w p2 (.static (zm_y c)) && zc_w p4 (.initialized (zm_own c)) && zc_y (zm_y c) np && zc_rk (zm_rt_ c) rk
    | _ => true)
  | .iload _ => Nat.beq e.2.1 2
  | .aload _ => Nat.beq e.2.1 2
  | .lload _ => Nat.beq e.2.1 2
  | .istore i => Nat.beq e.2.1 2 && Nat.blt i (zm_ml mi)
  | .astore i => Nat.beq e.2.1 2 && Nat.blt i (zm_ml mi)
  | .lstore i => Nat.beq e.2.1 2 && Nat.blt (i + 1) (zm_ml mi)
  | .istore_n i => Nat.beq e.2.1 1 && Nat.blt i (zm_ml mi)
  | .astore_n i => Nat.beq e.2.1 1 && Nat.blt i (zm_ml mi)
  | .ireturn => Nat.beq e.2.1 1 && zc_rt mi
  | .lreturn => Nat.beq e.2.1 1 && decide (zm_rt_ mi = some .long)
  | .areturn => Nat.beq e.2.1 1 && (match zm_rt_ mi with | some (.object _) => true | _ => false)
  | .return_ => Nat.beq e.2.1 1 && (zm_rt_ mi).isNone
  | .new _ => true
  | .newarray _ => true
  | .anewarray _ => true
  | .invokespecial _ => true
  | _ => Nat.beq e.2.1 1
def zm_okE (mi pc : Nat) : Bool := match zm_tab mi pc with
  | none => true
  | some e => zm_chk mi pc e
def zk_P (mi a b : Nat) : Prop := ∀ pc, a ≤ pc → pc < b → zm_okE mi pc = true
theorem zk_of {mi a b : Nat} (h : (List.range' a (b - a)).all (zm_okE mi) = true) : zk_P mi a b := by
  intro pc h1 h2
  exact List.all_eq_true.mp h pc (by rw [List.mem_range'_1]; omega)
theorem zk_app {mi a b c : Nat} (h1 : zk_P mi a b) (h2 : zk_P mi b c) : zk_P mi a c := by
  intro pc ha hc
  by_cases hb : pc < b
  · exact h1 pc ha hb
  · exact h2 pc (by omega) hc
def zk_M (a b : Nat) : Prop := ∀ mi, a ≤ mi → mi < b → zk_P mi 0 (zm_len mi)
theorem zk_one {a n : Nat} (hn : zm_len a = n) (h : zk_P a 0 n) : zk_M a (a + 1) := by
  intro mi h1 h2
  obtain rfl : mi = a := by omega
  rw [hn]
  exact h
theorem zk_both {a b c : Nat} (h1 : zk_M a b) (h2 : zk_M b c) : zk_M a c := by
  intro mi ha hc
  by_cases hb : mi < b
  · exact h1 mi ha hb
  · exact h2 mi (by omega) hc
