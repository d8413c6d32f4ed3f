/-! naturals among the 32-bit numbers -/
def iN (n : Nat) : Int32 := Int32.ofNat n
theorem iN_toInt {n : Nat} (h : n < 2147483648) : (iN n).toInt = (n : Int) := Int32.toInt_ofNat_of_lt h
theorem iN_c {n : Nat} (h : n < 2147483648) : (iN n).toNatClampNeg = n := Int32.toNatClampNeg_ofNat_of_lt h
theorem iN_lit (a : Nat) : (OfNat.ofNat a : Int32) = iN a := rfl
theorem iN_add (a b : Nat) : iN a + iN b = iN (a + b) := (Int32.ofNat_add a b).symm
theorem iN_addl (a b : Nat) : (no_index (OfNat.ofNat a : Int32)) + iN b = iN (OfNat.ofNat a + b) := (Int32.ofNat_add a b).symm
theorem iN_addr (a b : Nat) : iN b + (no_index (OfNat.ofNat a : Int32)) = iN (b + OfNat.ofNat a) := (Int32.ofNat_add b a).symm
theorem iN_mul (a b : Nat) : iN a * iN b = iN (a * b) := (Int32.ofNat_mul a b).symm
theorem iN_mull (a b : Nat) : (no_index (OfNat.ofNat a : Int32)) * iN b = iN (OfNat.ofNat a * b) := (Int32.ofNat_mul a b).symm
theorem iN_mulr (a b : Nat) : iN b * (no_index (OfNat.ofNat a : Int32)) = iN (b * OfNat.ofNat a) := (Int32.ofNat_mul b a).symm
theorem iN_sub {a b : Nat} (h : b ≤ a) : iN a - iN b = iN (a - b) := (Int32.ofNat_sub a b h).symm
theorem iN_subl {a b : Nat} (h : b ≤ OfNat.ofNat a) : (no_index (OfNat.ofNat a : Int32)) - iN b = iN (OfNat.ofNat a - b) := (Int32.ofNat_sub a b h).symm
theorem iN_subr {a b : Nat} (h : OfNat.ofNat a ≤ b) : iN b - (no_index (OfNat.ofNat a : Int32)) = iN (b - OfNat.ofNat a) := (Int32.ofNat_sub b a h).symm
theorem iN_lt {a b : Nat} (ha : a < 2147483648) (hb : b < 2147483648) : (iN a < iN b) = (a < b) := propext (Int32.ofNat_lt_iff_lt ha hb)
theorem iN_ltl {a b : Nat} (ha : OfNat.ofNat a < 2147483648) (hb : b < 2147483648) : ((no_index (OfNat.ofNat a : Int32)) < iN b) = (OfNat.ofNat a < b) := propext (Int32.ofNat_lt_iff_lt ha hb)
theorem iN_ltr {a b : Nat} (ha : OfNat.ofNat a < 2147483648) (hb : b < 2147483648) : (iN b < (no_index (OfNat.ofNat a : Int32))) = (b < OfNat.ofNat a) := propext (Int32.ofNat_lt_iff_lt hb ha)
theorem iN_le {a b : Nat} (ha : a < 2147483648) (hb : b < 2147483648) : (iN a ≤ iN b) = (a ≤ b) := propext (Int32.ofNat_le_iff_le ha hb)
theorem iN_lel {a b : Nat} (ha : OfNat.ofNat a < 2147483648) (hb : b < 2147483648) : ((no_index (OfNat.ofNat a : Int32)) ≤ iN b) = (OfNat.ofNat a ≤ b) := propext (Int32.ofNat_le_iff_le ha hb)
theorem iN_ler {a b : Nat} (ha : OfNat.ofNat a < 2147483648) (hb : b < 2147483648) : (iN b ≤ (no_index (OfNat.ofNat a : Int32))) = (b ≤ OfNat.ofNat a) := propext (Int32.ofNat_le_iff_le hb ha)
theorem iN_inj {a b : Nat} (ha : a < 2147483648) (hb : b < 2147483648) (h : iN a = iN b) : a = b := by
  have e := congrArg Int32.toInt h
  rw [iN_toInt ha, iN_toInt hb] at e
  omega
theorem iN_eq {a b : Nat} (ha : a < 2147483648) (hb : b < 2147483648) : (iN a = iN b) = (a = b) := propext ⟨iN_inj ha hb, fun h => h ▸ rfl⟩
theorem iN_eql {a b : Nat} (ha : OfNat.ofNat a < 2147483648) (hb : b < 2147483648) : ((no_index (OfNat.ofNat a : Int32)) = iN b) = (OfNat.ofNat a = b) := iN_eq ha hb
theorem iN_eqr {a b : Nat} (ha : OfNat.ofNat a < 2147483648) (hb : b < 2147483648) : (iN b = (no_index (OfNat.ofNat a : Int32))) = (b = OfNat.ofNat a) := iN_eq hb ha
theorem iN_of {x : Int32} (h : 0 ≤ x) : x = iN x.toNatClampNeg := (Int32.ofNat_toNatClampNeg x h).symm
theorem iN_bd (x : Int32) : x.toNatClampNeg < 2147483648 := Int32.toNatClampNeg_lt x
theorem iN_ex {x : Int32} {n : Nat} (h : 0 ≤ x) (hb : x < iN n) (hn : n < 2147483648) : ∃ k, k < n ∧ x = iN k := by
  refine ⟨x.toNatClampNeg, ?_, iN_of h⟩
  rw [iN_of h, iN_lt (iN_bd x) hn] at hb
  exact hb
theorem iN_exl {x : Int32} {n : Nat} (h : 0 ≤ x) (hb : x < (OfNat.ofNat n : Int32)) (hn : OfNat.ofNat n < 2147483648) : ∃ k, k < OfNat.ofNat n ∧ x = iN k := iN_ex h hb hn
/-! reading back -/
theorem ui_s (h : zm_H) (c k : Nat) (v : Int32) : (zm_ui h c k v).1 c k = v := if_pos ⟨rfl, rfl⟩
theorem ui_k {h : zm_H} {c k b : Nat} {v : Int32} (n : b ≠ k) : (zm_ui h c k v).1 c b = h.1 c b := if_neg (fun e => n e.2)
theorem ui_c {h : zm_H} {c k a b : Nat} {v : Int32} (n : a ≠ c) : (zm_ui h c k v).1 a b = h.1 a b := if_neg (fun e => n e.1)
theorem ui_r (h : zm_H) (c k : Nat) (v : Int32) (a b : Nat) : (zm_ui h c k v).1 a b = if a = c ∧ b = k then v else h.1 a b := rfl
theorem ui_f {h : zm_H} {c k a : Nat} {v : Int32} (n : a ≠ c) : (zm_ui h c k v).1 a = h.1 a := funext (fun _ => ui_c n)
theorem ui_2 (h : zm_H) (c k : Nat) (v : Int32) : (zm_ui h c k v).2 = h.2 := rfl
theorem ul_1 (h : zm_H) (c k : Nat) (v : Int64) : (zm_ul h c k v).1 = h.1 := rfl
theorem ul_s (h : zm_H) (c k : Nat) (v : Int64) : (zm_ul h c k v).2 c k = v := if_pos ⟨rfl, rfl⟩
theorem ul_k {h : zm_H} {c k b : Nat} {v : Int64} (n : b ≠ k) : (zm_ul h c k v).2 c b = h.2 c b := if_neg (fun e => n e.2)
theorem ul_c {h : zm_H} {c k a b : Nat} {v : Int64} (n : a ≠ c) : (zm_ul h c k v).2 a b = h.2 a b := if_neg (fun e => n e.1)
theorem ul_r (h : zm_H) (c k : Nat) (v : Int64) (a b : Nat) : (zm_ul h c k v).2 a b = if a = c ∧ b = k then v else h.2 a b := rfl
theorem ul_f {h : zm_H} {c k a : Nat} {v : Int64} (n : a ≠ c) : (zm_ul h c k v).2 a = h.2 a := funext (fun _ => ul_c n)
/-! steps of the equations -/
theorem bI (x : Int32) (h : zm_H) (k : Int32 → zm_H → zm_R) : zb_I (some (some (.int x), h)) k = k x h := rfl
theorem bJ (x : Int64) (h : zm_H) (k : Int64 → zm_H → zm_R) : zb_J (some (some (.long x), h)) k = k x h := rfl
theorem bV (h : zm_H) (k : zm_H → zm_R) : zb_V (some (none, h)) k = k h := rfl
theorem cT {p : Prop} [Decidable p] (h : p) {α : Type} (x y : α) : cond (decide p) x y = x := by rw [decide_eq_true h]; rfl
theorem cF {p : Prop} [Decidable p] (h : ¬ p) {α : Type} (x y : α) : cond (decide p) x y = y := by rw [decide_eq_false h]; rfl
theorem cN {b : Bool} {α : Type} (x y : α) : cond (!b) x y = cond b y x := by cases b <;> rfl
theorem cOn {b : Bool} (h : b = true) {α : Type} (x y : α) : cond b x y = x := by rw [h]; rfl
def zi (b : Bool) : Int32 := cond b 1 0
theorem zi_t : zi true = 1 := rfl
theorem zi_f : zi false = 0 := rfl
theorem zi_0 (b : Bool) : decide (zi b = 0) = !b := by cases b <;> rfl
theorem zi_z (b : Bool) : cond (decide (zi b = 0)) true (decide (zi b = 1)) = true := by cases b <;> rfl
theorem cI (b : Bool) (x y : Int32) (h : zm_H) : cond b (some (some (.int x), h) : zm_R) (some (some (.int y), h)) = some (some (.int (cond b x y)), h) := by cases b <;> rfl
theorem ofN12 : Int32.ofNat 12 = 12 := rfl
/-! guards of rows -/
theorem at_iN {n j : Nat} (h : j < n) (hn : n < 2147483648) : zm_at n (iN j) = true := by
  have e : Nat.blt (iN j).toNatClampNeg n = true := by rw [iN_c (by omega), Nat.blt_eq]; exact h
  have f : ¬ iN j < 0 := by
    intro k
    rw [show (0 : Int32) = iN 0 from rfl, iN_lt (by omega) (by omega)] at k
    omega
  rw [zm_at, e, decide_eq_false f]; rfl
theorem gR_g {h : zm_H} {c n m j : Nat} (hk : zm_kd c = (m, n)) (hm : m = 1 ∨ m = 4) (hj : j < n) (hn : n < 2147483648) : zm_inR h c (iN j) = true := by
  have e : zm_lenOf h c = n := by
    rw [zm_lenOf, hk]; rcases hm with rfl | rfl <;> rfl
  rw [zm_inR, e, at_iN hj hn, hk]; rcases hm with rfl | rfl <;> rfl
theorem gW_g {c n j : Nat} (hk : zm_kd c = (1, n)) (hj : j < n) (hn : n < 2147483648) : zm_inW c (iN j) = true := by
  rw [zm_inW, hk, at_iN hj hn]; rfl
theorem gJ_g {c n j : Nat} (hk : zm_kd c = (2, n)) (hj : j < n) (hn : n < 2147483648) : zm_inJ c (iN j) = true := by
  rw [zm_inJ, hk, at_iN hj hn]; rfl
theorem gQ_32 {j : Nat} (hj : j < 6) : zm_inQ 32 (iN j) = true := by
  rw [zm_inQ, (by decide +kernel : zm_kd 32 = (3, 6)), at_iN hj (by omega)]; rfl
theorem gR_2 {h : zm_H} {j : Nat} (hj : j < 104) : zm_inR h 2 (iN j) = true := gR_g (m := 1) (by decide +kernel) (by omega) hj (by omega)
theorem hR_2 {h : zm_H} {j : Nat} (hj : OfNat.ofNat j < 104) : zm_inR h 2 (no_index (OfNat.ofNat j : Int32)) = true := gR_2 hj
theorem gW_2 {j : Nat} (hj : j < 104) : zm_inW 2 (iN j) = true := gW_g (by decide +kernel) hj (by omega)
theorem hW_2 {j : Nat} (hj : OfNat.ofNat j < 104) : zm_inW 2 (no_index (OfNat.ofNat j : Int32)) = true := gW_2 hj
theorem gR_4 {h : zm_H} {j : Nat} (hj : j < 40) : zm_inR h 4 (iN j) = true := gR_g (m := 1) (by decide +kernel) (by omega) hj (by omega)
theorem hR_4 {h : zm_H} {j : Nat} (hj : OfNat.ofNat j < 40) : zm_inR h 4 (no_index (OfNat.ofNat j : Int32)) = true := gR_4 hj
theorem gW_4 {j : Nat} (hj : j < 40) : zm_inW 4 (iN j) = true := gW_g (by decide +kernel) hj (by omega)
theorem hW_4 {j : Nat} (hj : OfNat.ofNat j < 40) : zm_inW 4 (no_index (OfNat.ofNat j : Int32)) = true := gW_4 hj
theorem gR_5 {h : zm_H} {j : Nat} (hj : j < 40) : zm_inR h 5 (iN j) = true := gR_g (m := 1) (by decide +kernel) (by omega) hj (by omega)
theorem hR_5 {h : zm_H} {j : Nat} (hj : OfNat.ofNat j < 40) : zm_inR h 5 (no_index (OfNat.ofNat j : Int32)) = true := gR_5 hj
theorem gW_5 {j : Nat} (hj : j < 40) : zm_inW 5 (iN j) = true := gW_g (by decide +kernel) hj (by omega)
theorem hW_5 {j : Nat} (hj : OfNat.ofNat j < 40) : zm_inW 5 (no_index (OfNat.ofNat j : Int32)) = true := gW_5 hj
theorem gR_6 {h : zm_H} {j : Nat} (hj : j < 40) : zm_inR h 6 (iN j) = true := gR_g (m := 1) (by decide +kernel) (by omega) hj (by omega)
theorem hR_6 {h : zm_H} {j : Nat} (hj : OfNat.ofNat j < 40) : zm_inR h 6 (no_index (OfNat.ofNat j : Int32)) = true := gR_6 hj
theorem gW_6 {j : Nat} (hj : j < 40) : zm_inW 6 (iN j) = true := gW_g (by decide +kernel) hj (by omega)
theorem hW_6 {j : Nat} (hj : OfNat.ofNat j < 40) : zm_inW 6 (no_index (OfNat.ofNat j : Int32)) = true := gW_6 hj
theorem gR_7 {h : zm_H} {j : Nat} (hj : j < 40) : zm_inR h 7 (iN j) = true := gR_g (m := 1) (by decide +kernel) (by omega) hj (by omega)
theorem hR_7 {h : zm_H} {j : Nat} (hj : OfNat.ofNat j < 40) : zm_inR h 7 (no_index (OfNat.ofNat j : Int32)) = true := gR_7 hj
theorem gW_7 {j : Nat} (hj : j < 40) : zm_inW 7 (iN j) = true := gW_g (by decide +kernel) hj (by omega)
theorem hW_7 {j : Nat} (hj : OfNat.ofNat j < 40) : zm_inW 7 (no_index (OfNat.ofNat j : Int32)) = true := gW_7 hj
theorem gR_9 {h : zm_H} {j : Nat} (hj : j < 120) : zm_inR h 9 (iN j) = true := gR_g (m := 1) (by decide +kernel) (by omega) hj (by omega)
theorem hR_9 {h : zm_H} {j : Nat} (hj : OfNat.ofNat j < 120) : zm_inR h 9 (no_index (OfNat.ofNat j : Int32)) = true := gR_9 hj
theorem gW_9 {j : Nat} (hj : j < 120) : zm_inW 9 (iN j) = true := gW_g (by decide +kernel) hj (by omega)
theorem hW_9 {j : Nat} (hj : OfNat.ofNat j < 120) : zm_inW 9 (no_index (OfNat.ofNat j : Int32)) = true := gW_9 hj
theorem gR_10 {h : zm_H} {j : Nat} (hj : j < 128) : zm_inR h 10 (iN j) = true := gR_g (m := 1) (by decide +kernel) (by omega) hj (by omega)
theorem hR_10 {h : zm_H} {j : Nat} (hj : OfNat.ofNat j < 128) : zm_inR h 10 (no_index (OfNat.ofNat j : Int32)) = true := gR_10 hj
theorem gW_10 {j : Nat} (hj : j < 128) : zm_inW 10 (iN j) = true := gW_g (by decide +kernel) hj (by omega)
theorem hW_10 {j : Nat} (hj : OfNat.ofNat j < 128) : zm_inW 10 (no_index (OfNat.ofNat j : Int32)) = true := gW_10 hj
theorem gR_12 {h : zm_H} {j : Nat} (hj : j < 128) : zm_inR h 12 (iN j) = true := gR_g (m := 1) (by decide +kernel) (by omega) hj (by omega)
theorem hR_12 {h : zm_H} {j : Nat} (hj : OfNat.ofNat j < 128) : zm_inR h 12 (no_index (OfNat.ofNat j : Int32)) = true := gR_12 hj
theorem gW_12 {j : Nat} (hj : j < 128) : zm_inW 12 (iN j) = true := gW_g (by decide +kernel) hj (by omega)
theorem hW_12 {j : Nat} (hj : OfNat.ofNat j < 128) : zm_inW 12 (no_index (OfNat.ofNat j : Int32)) = true := gW_12 hj
theorem gR_13 {h : zm_H} {j : Nat} (hj : j < 64) : zm_inR h 13 (iN j) = true := gR_g (m := 1) (by decide +kernel) (by omega) hj (by omega)
theorem hR_13 {h : zm_H} {j : Nat} (hj : OfNat.ofNat j < 64) : zm_inR h 13 (no_index (OfNat.ofNat j : Int32)) = true := gR_13 hj
theorem gW_13 {j : Nat} (hj : j < 64) : zm_inW 13 (iN j) = true := gW_g (by decide +kernel) hj (by omega)
theorem hW_13 {j : Nat} (hj : OfNat.ofNat j < 64) : zm_inW 13 (no_index (OfNat.ofNat j : Int32)) = true := gW_13 hj
theorem gR_16 {h : zm_H} {j : Nat} (hj : j < 6) : zm_inR h 16 (iN j) = true := gR_g (m := 1) (by decide +kernel) (by omega) hj (by omega)
theorem hR_16 {h : zm_H} {j : Nat} (hj : OfNat.ofNat j < 6) : zm_inR h 16 (no_index (OfNat.ofNat j : Int32)) = true := gR_16 hj
theorem gW_16 {j : Nat} (hj : j < 6) : zm_inW 16 (iN j) = true := gW_g (by decide +kernel) hj (by omega)
theorem hW_16 {j : Nat} (hj : OfNat.ofNat j < 6) : zm_inW 16 (no_index (OfNat.ofNat j : Int32)) = true := gW_16 hj
theorem gR_17 {h : zm_H} {j : Nat} (hj : j < 6) : zm_inR h 17 (iN j) = true := gR_g (m := 1) (by decide +kernel) (by omega) hj (by omega)
theorem hR_17 {h : zm_H} {j : Nat} (hj : OfNat.ofNat j < 6) : zm_inR h 17 (no_index (OfNat.ofNat j : Int32)) = true := gR_17 hj
theorem gW_17 {j : Nat} (hj : j < 6) : zm_inW 17 (iN j) = true := gW_g (by decide +kernel) hj (by omega)
theorem hW_17 {j : Nat} (hj : OfNat.ofNat j < 6) : zm_inW 17 (no_index (OfNat.ofNat j : Int32)) = true := gW_17 hj
theorem gR_18 {h : zm_H} {j : Nat} (hj : j < 6) : zm_inR h 18 (iN j) = true := gR_g (m := 1) (by decide +kernel) (by omega) hj (by omega)
theorem hR_18 {h : zm_H} {j : Nat} (hj : OfNat.ofNat j < 6) : zm_inR h 18 (no_index (OfNat.ofNat j : Int32)) = true := gR_18 hj
theorem gW_18 {j : Nat} (hj : j < 6) : zm_inW 18 (iN j) = true := gW_g (by decide +kernel) hj (by omega)
theorem hW_18 {j : Nat} (hj : OfNat.ofNat j < 6) : zm_inW 18 (no_index (OfNat.ofNat j : Int32)) = true := gW_18 hj
theorem gR_19 {h : zm_H} {j : Nat} (hj : j < 6) : zm_inR h 19 (iN j) = true := gR_g (m := 1) (by decide +kernel) (by omega) hj (by omega)
theorem hR_19 {h : zm_H} {j : Nat} (hj : OfNat.ofNat j < 6) : zm_inR h 19 (no_index (OfNat.ofNat j : Int32)) = true := gR_19 hj
theorem gW_19 {j : Nat} (hj : j < 6) : zm_inW 19 (iN j) = true := gW_g (by decide +kernel) hj (by omega)
theorem hW_19 {j : Nat} (hj : OfNat.ofNat j < 6) : zm_inW 19 (no_index (OfNat.ofNat j : Int32)) = true := gW_19 hj
theorem gR_20 {h : zm_H} {j : Nat} (hj : j < 6) : zm_inR h 20 (iN j) = true := gR_g (m := 1) (by decide +kernel) (by omega) hj (by omega)
theorem hR_20 {h : zm_H} {j : Nat} (hj : OfNat.ofNat j < 6) : zm_inR h 20 (no_index (OfNat.ofNat j : Int32)) = true := gR_20 hj
theorem gW_20 {j : Nat} (hj : j < 6) : zm_inW 20 (iN j) = true := gW_g (by decide +kernel) hj (by omega)
theorem hW_20 {j : Nat} (hj : OfNat.ofNat j < 6) : zm_inW 20 (no_index (OfNat.ofNat j : Int32)) = true := gW_20 hj
theorem gR_21 {h : zm_H} {j : Nat} (hj : j < 42) : zm_inR h 21 (iN j) = true := gR_g (m := 1) (by decide +kernel) (by omega) hj (by omega)
theorem hR_21 {h : zm_H} {j : Nat} (hj : OfNat.ofNat j < 42) : zm_inR h 21 (no_index (OfNat.ofNat j : Int32)) = true := gR_21 hj
theorem gW_21 {j : Nat} (hj : j < 42) : zm_inW 21 (iN j) = true := gW_g (by decide +kernel) hj (by omega)
theorem hW_21 {j : Nat} (hj : OfNat.ofNat j < 42) : zm_inW 21 (no_index (OfNat.ofNat j : Int32)) = true := gW_21 hj
theorem gR_22 {h : zm_H} {j : Nat} (hj : j < 7) : zm_inR h 22 (iN j) = true := gR_g (m := 1) (by decide +kernel) (by omega) hj (by omega)
theorem hR_22 {h : zm_H} {j : Nat} (hj : OfNat.ofNat j < 7) : zm_inR h 22 (no_index (OfNat.ofNat j : Int32)) = true := gR_22 hj
theorem gW_22 {j : Nat} (hj : j < 7) : zm_inW 22 (iN j) = true := gW_g (by decide +kernel) hj (by omega)
theorem hW_22 {j : Nat} (hj : OfNat.ofNat j < 7) : zm_inW 22 (no_index (OfNat.ofNat j : Int32)) = true := gW_22 hj
theorem gR_24 {h : zm_H} {j : Nat} (hj : j < 8) : zm_inR h 24 (iN j) = true := gR_g (m := 1) (by decide +kernel) (by omega) hj (by omega)
theorem hR_24 {h : zm_H} {j : Nat} (hj : OfNat.ofNat j < 8) : zm_inR h 24 (no_index (OfNat.ofNat j : Int32)) = true := gR_24 hj
theorem gW_24 {j : Nat} (hj : j < 8) : zm_inW 24 (iN j) = true := gW_g (by decide +kernel) hj (by omega)
theorem hW_24 {j : Nat} (hj : OfNat.ofNat j < 8) : zm_inW 24 (no_index (OfNat.ofNat j : Int32)) = true := gW_24 hj
theorem gR_25 {h : zm_H} {j : Nat} (hj : j < 8) : zm_inR h 25 (iN j) = true := gR_g (m := 1) (by decide +kernel) (by omega) hj (by omega)
theorem hR_25 {h : zm_H} {j : Nat} (hj : OfNat.ofNat j < 8) : zm_inR h 25 (no_index (OfNat.ofNat j : Int32)) = true := gR_25 hj
theorem gW_25 {j : Nat} (hj : j < 8) : zm_inW 25 (iN j) = true := gW_g (by decide +kernel) hj (by omega)
theorem hW_25 {j : Nat} (hj : OfNat.ofNat j < 8) : zm_inW 25 (no_index (OfNat.ofNat j : Int32)) = true := gW_25 hj
theorem gR_27 {h : zm_H} {j : Nat} (hj : j < 8) : zm_inR h 27 (iN j) = true := gR_g (m := 1) (by decide +kernel) (by omega) hj (by omega)
theorem hR_27 {h : zm_H} {j : Nat} (hj : OfNat.ofNat j < 8) : zm_inR h 27 (no_index (OfNat.ofNat j : Int32)) = true := gR_27 hj
theorem gW_27 {j : Nat} (hj : j < 8) : zm_inW 27 (iN j) = true := gW_g (by decide +kernel) hj (by omega)
theorem hW_27 {j : Nat} (hj : OfNat.ofNat j < 8) : zm_inW 27 (no_index (OfNat.ofNat j : Int32)) = true := gW_27 hj
theorem gR_28 {h : zm_H} {j : Nat} (hj : j < 8) : zm_inR h 28 (iN j) = true := gR_g (m := 1) (by decide +kernel) (by omega) hj (by omega)
theorem hR_28 {h : zm_H} {j : Nat} (hj : OfNat.ofNat j < 8) : zm_inR h 28 (no_index (OfNat.ofNat j : Int32)) = true := gR_28 hj
theorem gW_28 {j : Nat} (hj : j < 8) : zm_inW 28 (iN j) = true := gW_g (by decide +kernel) hj (by omega)
theorem hW_28 {j : Nat} (hj : OfNat.ofNat j < 8) : zm_inW 28 (no_index (OfNat.ofNat j : Int32)) = true := gW_28 hj
theorem gR_30 {h : zm_H} {j : Nat} (hj : j < 50) : zm_inR h 30 (iN j) = true := gR_g (m := 1) (by decide +kernel) (by omega) hj (by omega)
theorem hR_30 {h : zm_H} {j : Nat} (hj : OfNat.ofNat j < 50) : zm_inR h 30 (no_index (OfNat.ofNat j : Int32)) = true := gR_30 hj
theorem gW_30 {j : Nat} (hj : j < 50) : zm_inW 30 (iN j) = true := gW_g (by decide +kernel) hj (by omega)
theorem hW_30 {j : Nat} (hj : OfNat.ofNat j < 50) : zm_inW 30 (no_index (OfNat.ofNat j : Int32)) = true := gW_30 hj
theorem gR_31 {h : zm_H} {j : Nat} (hj : j < 24) : zm_inR h 31 (iN j) = true := gR_g (m := 1) (by decide +kernel) (by omega) hj (by omega)
theorem hR_31 {h : zm_H} {j : Nat} (hj : OfNat.ofNat j < 24) : zm_inR h 31 (no_index (OfNat.ofNat j : Int32)) = true := gR_31 hj
theorem gW_31 {j : Nat} (hj : j < 24) : zm_inW 31 (iN j) = true := gW_g (by decide +kernel) hj (by omega)
theorem hW_31 {j : Nat} (hj : OfNat.ofNat j < 24) : zm_inW 31 (no_index (OfNat.ofNat j : Int32)) = true := gW_31 hj
theorem gR_46 {h : zm_H} {j : Nat} (hj : j < 8) : zm_inR h 46 (iN j) = true := gR_g (m := 1) (by decide +kernel) (by omega) hj (by omega)
theorem hR_46 {h : zm_H} {j : Nat} (hj : OfNat.ofNat j < 8) : zm_inR h 46 (no_index (OfNat.ofNat j : Int32)) = true := gR_46 hj
theorem gW_46 {j : Nat} (hj : j < 8) : zm_inW 46 (iN j) = true := gW_g (by decide +kernel) hj (by omega)
theorem hW_46 {j : Nat} (hj : OfNat.ofNat j < 8) : zm_inW 46 (no_index (OfNat.ofNat j : Int32)) = true := gW_46 hj
theorem gR_47 {h : zm_H} {j : Nat} (hj : j < 8) : zm_inR h 47 (iN j) = true := gR_g (m := 1) (by decide +kernel) (by omega) hj (by omega)
theorem hR_47 {h : zm_H} {j : Nat} (hj : OfNat.ofNat j < 8) : zm_inR h 47 (no_index (OfNat.ofNat j : Int32)) = true := gR_47 hj
theorem gW_47 {j : Nat} (hj : j < 8) : zm_inW 47 (iN j) = true := gW_g (by decide +kernel) hj (by omega)
theorem hW_47 {j : Nat} (hj : OfNat.ofNat j < 8) : zm_inW 47 (no_index (OfNat.ofNat j : Int32)) = true := gW_47 hj
theorem gR_48 {h : zm_H} {j : Nat} (hj : j < 8) : zm_inR h 48 (iN j) = true := gR_g (m := 1) (by decide +kernel) (by omega) hj (by omega)
theorem hR_48 {h : zm_H} {j : Nat} (hj : OfNat.ofNat j < 8) : zm_inR h 48 (no_index (OfNat.ofNat j : Int32)) = true := gR_48 hj
theorem gW_48 {j : Nat} (hj : j < 8) : zm_inW 48 (iN j) = true := gW_g (by decide +kernel) hj (by omega)
theorem hW_48 {j : Nat} (hj : OfNat.ofNat j < 8) : zm_inW 48 (no_index (OfNat.ofNat j : Int32)) = true := gW_48 hj
theorem gR_49 {h : zm_H} {j : Nat} (hj : j < 8) : zm_inR h 49 (iN j) = true := gR_g (m := 1) (by decide +kernel) (by omega) hj (by omega)
theorem hR_49 {h : zm_H} {j : Nat} (hj : OfNat.ofNat j < 8) : zm_inR h 49 (no_index (OfNat.ofNat j : Int32)) = true := gR_49 hj
theorem gW_49 {j : Nat} (hj : j < 8) : zm_inW 49 (iN j) = true := gW_g (by decide +kernel) hj (by omega)
theorem hW_49 {j : Nat} (hj : OfNat.ofNat j < 8) : zm_inW 49 (no_index (OfNat.ofNat j : Int32)) = true := gW_49 hj
theorem gR_50 {h : zm_H} {j : Nat} (hj : j < 8) : zm_inR h 50 (iN j) = true := gR_g (m := 1) (by decide +kernel) (by omega) hj (by omega)
theorem hR_50 {h : zm_H} {j : Nat} (hj : OfNat.ofNat j < 8) : zm_inR h 50 (no_index (OfNat.ofNat j : Int32)) = true := gR_50 hj
theorem gW_50 {j : Nat} (hj : j < 8) : zm_inW 50 (iN j) = true := gW_g (by decide +kernel) hj (by omega)
theorem hW_50 {j : Nat} (hj : OfNat.ofNat j < 8) : zm_inW 50 (no_index (OfNat.ofNat j : Int32)) = true := gW_50 hj
theorem gR_51 {h : zm_H} {j : Nat} (hj : j < 8) : zm_inR h 51 (iN j) = true := gR_g (m := 1) (by decide +kernel) (by omega) hj (by omega)
theorem hR_51 {h : zm_H} {j : Nat} (hj : OfNat.ofNat j < 8) : zm_inR h 51 (no_index (OfNat.ofNat j : Int32)) = true := gR_51 hj
theorem gW_51 {j : Nat} (hj : j < 8) : zm_inW 51 (iN j) = true := gW_g (by decide +kernel) hj (by omega)
theorem hW_51 {j : Nat} (hj : OfNat.ofNat j < 8) : zm_inW 51 (no_index (OfNat.ofNat j : Int32)) = true := gW_51 hj
theorem gR_52 {h : zm_H} {j : Nat} (hj : j < 5) : zm_inR h 52 (iN j) = true := gR_g (m := 1) (by decide +kernel) (by omega) hj (by omega)
theorem hR_52 {h : zm_H} {j : Nat} (hj : OfNat.ofNat j < 5) : zm_inR h 52 (no_index (OfNat.ofNat j : Int32)) = true := gR_52 hj
theorem gW_52 {j : Nat} (hj : j < 5) : zm_inW 52 (iN j) = true := gW_g (by decide +kernel) hj (by omega)
theorem hW_52 {j : Nat} (hj : OfNat.ofNat j < 5) : zm_inW 52 (no_index (OfNat.ofNat j : Int32)) = true := gW_52 hj
theorem gR_53 {h : zm_H} {j : Nat} (hj : j < 7) : zm_inR h 53 (iN j) = true := gR_g (m := 1) (by decide +kernel) (by omega) hj (by omega)
theorem hR_53 {h : zm_H} {j : Nat} (hj : OfNat.ofNat j < 7) : zm_inR h 53 (no_index (OfNat.ofNat j : Int32)) = true := gR_53 hj
theorem gW_53 {j : Nat} (hj : j < 7) : zm_inW 53 (iN j) = true := gW_g (by decide +kernel) hj (by omega)
theorem hW_53 {j : Nat} (hj : OfNat.ofNat j < 7) : zm_inW 53 (no_index (OfNat.ofNat j : Int32)) = true := gW_53 hj
theorem gR_54 {h : zm_H} {j : Nat} (hj : j < 7) : zm_inR h 54 (iN j) = true := gR_g (m := 1) (by decide +kernel) (by omega) hj (by omega)
theorem hR_54 {h : zm_H} {j : Nat} (hj : OfNat.ofNat j < 7) : zm_inR h 54 (no_index (OfNat.ofNat j : Int32)) = true := gR_54 hj
theorem gW_54 {j : Nat} (hj : j < 7) : zm_inW 54 (iN j) = true := gW_g (by decide +kernel) hj (by omega)
theorem hW_54 {j : Nat} (hj : OfNat.ofNat j < 7) : zm_inW 54 (no_index (OfNat.ofNat j : Int32)) = true := gW_54 hj
theorem gR_55 {h : zm_H} {j : Nat} (hj : j < 7) : zm_inR h 55 (iN j) = true := gR_g (m := 1) (by decide +kernel) (by omega) hj (by omega)
theorem hR_55 {h : zm_H} {j : Nat} (hj : OfNat.ofNat j < 7) : zm_inR h 55 (no_index (OfNat.ofNat j : Int32)) = true := gR_55 hj
theorem gW_55 {j : Nat} (hj : j < 7) : zm_inW 55 (iN j) = true := gW_g (by decide +kernel) hj (by omega)
theorem hW_55 {j : Nat} (hj : OfNat.ofNat j < 7) : zm_inW 55 (no_index (OfNat.ofNat j : Int32)) = true := gW_55 hj
theorem gR_56 {h : zm_H} {j : Nat} (hj : j < 120) : zm_inR h 56 (iN j) = true := gR_g (m := 1) (by decide +kernel) (by omega) hj (by omega)
theorem hR_56 {h : zm_H} {j : Nat} (hj : OfNat.ofNat j < 120) : zm_inR h 56 (no_index (OfNat.ofNat j : Int32)) = true := gR_56 hj
theorem gW_56 {j : Nat} (hj : j < 120) : zm_inW 56 (iN j) = true := gW_g (by decide +kernel) hj (by omega)
theorem hW_56 {j : Nat} (hj : OfNat.ofNat j < 120) : zm_inW 56 (no_index (OfNat.ofNat j : Int32)) = true := gW_56 hj
theorem gR_57 {h : zm_H} {j : Nat} (hj : j < 60) : zm_inR h 57 (iN j) = true := gR_g (m := 1) (by decide +kernel) (by omega) hj (by omega)
theorem hR_57 {h : zm_H} {j : Nat} (hj : OfNat.ofNat j < 60) : zm_inR h 57 (no_index (OfNat.ofNat j : Int32)) = true := gR_57 hj
theorem gW_57 {j : Nat} (hj : j < 60) : zm_inW 57 (iN j) = true := gW_g (by decide +kernel) hj (by omega)
theorem hW_57 {j : Nat} (hj : OfNat.ofNat j < 60) : zm_inW 57 (no_index (OfNat.ofNat j : Int32)) = true := gW_57 hj
theorem gR_58 {h : zm_H} {j : Nat} (hj : j < 60) : zm_inR h 58 (iN j) = true := gR_g (m := 1) (by decide +kernel) (by omega) hj (by omega)
theorem hR_58 {h : zm_H} {j : Nat} (hj : OfNat.ofNat j < 60) : zm_inR h 58 (no_index (OfNat.ofNat j : Int32)) = true := gR_58 hj
theorem gW_58 {j : Nat} (hj : j < 60) : zm_inW 58 (iN j) = true := gW_g (by decide +kernel) hj (by omega)
theorem hW_58 {j : Nat} (hj : OfNat.ofNat j < 60) : zm_inW 58 (no_index (OfNat.ofNat j : Int32)) = true := gW_58 hj
theorem gR_59 {h : zm_H} {j : Nat} (hj : j < 60) : zm_inR h 59 (iN j) = true := gR_g (m := 1) (by decide +kernel) (by omega) hj (by omega)
theorem hR_59 {h : zm_H} {j : Nat} (hj : OfNat.ofNat j < 60) : zm_inR h 59 (no_index (OfNat.ofNat j : Int32)) = true := gR_59 hj
theorem gW_59 {j : Nat} (hj : j < 60) : zm_inW 59 (iN j) = true := gW_g (by decide +kernel) hj (by omega)
theorem hW_59 {j : Nat} (hj : OfNat.ofNat j < 60) : zm_inW 59 (no_index (OfNat.ofNat j : Int32)) = true := gW_59 hj
theorem gR_60 {h : zm_H} {j : Nat} (hj : j < 200) : zm_inR h 60 (iN j) = true := gR_g (m := 1) (by decide +kernel) (by omega) hj (by omega)
theorem hR_60 {h : zm_H} {j : Nat} (hj : OfNat.ofNat j < 200) : zm_inR h 60 (no_index (OfNat.ofNat j : Int32)) = true := gR_60 hj
theorem gW_60 {j : Nat} (hj : j < 200) : zm_inW 60 (iN j) = true := gW_g (by decide +kernel) hj (by omega)
theorem hW_60 {j : Nat} (hj : OfNat.ofNat j < 200) : zm_inW 60 (no_index (OfNat.ofNat j : Int32)) = true := gW_60 hj
theorem gR_61 {h : zm_H} {j : Nat} (hj : j < 61) : zm_inR h 61 (iN j) = true := gR_g (m := 1) (by decide +kernel) (by omega) hj (by omega)
theorem hR_61 {h : zm_H} {j : Nat} (hj : OfNat.ofNat j < 61) : zm_inR h 61 (no_index (OfNat.ofNat j : Int32)) = true := gR_61 hj
theorem gW_61 {j : Nat} (hj : j < 61) : zm_inW 61 (iN j) = true := gW_g (by decide +kernel) hj (by omega)
theorem hW_61 {j : Nat} (hj : OfNat.ofNat j < 61) : zm_inW 61 (no_index (OfNat.ofNat j : Int32)) = true := gW_61 hj
theorem gR_62 {h : zm_H} {j : Nat} (hj : j < 61) : zm_inR h 62 (iN j) = true := gR_g (m := 1) (by decide +kernel) (by omega) hj (by omega)
theorem hR_62 {h : zm_H} {j : Nat} (hj : OfNat.ofNat j < 61) : zm_inR h 62 (no_index (OfNat.ofNat j : Int32)) = true := gR_62 hj
theorem gW_62 {j : Nat} (hj : j < 61) : zm_inW 62 (iN j) = true := gW_g (by decide +kernel) hj (by omega)
theorem hW_62 {j : Nat} (hj : OfNat.ofNat j < 61) : zm_inW 62 (no_index (OfNat.ofNat j : Int32)) = true := gW_62 hj
theorem gR_63 {h : zm_H} {j : Nat} (hj : j < 61) : zm_inR h 63 (iN j) = true := gR_g (m := 1) (by decide +kernel) (by omega) hj (by omega)
theorem hR_63 {h : zm_H} {j : Nat} (hj : OfNat.ofNat j < 61) : zm_inR h 63 (no_index (OfNat.ofNat j : Int32)) = true := gR_63 hj
theorem gW_63 {j : Nat} (hj : j < 61) : zm_inW 63 (iN j) = true := gW_g (by decide +kernel) hj (by omega)
theorem hW_63 {j : Nat} (hj : OfNat.ofNat j < 61) : zm_inW 63 (no_index (OfNat.ofNat j : Int32)) = true := gW_63 hj
theorem gR_64 {h : zm_H} {j : Nat} (hj : j < 200) : zm_inR h 64 (iN j) = true := gR_g (m := 1) (by decide +kernel) (by omega) hj (by omega)
theorem hR_64 {h : zm_H} {j : Nat} (hj : OfNat.ofNat j < 200) : zm_inR h 64 (no_index (OfNat.ofNat j : Int32)) = true := gR_64 hj
theorem gW_64 {j : Nat} (hj : j < 200) : zm_inW 64 (iN j) = true := gW_g (by decide +kernel) hj (by omega)
theorem hW_64 {j : Nat} (hj : OfNat.ofNat j < 200) : zm_inW 64 (no_index (OfNat.ofNat j : Int32)) = true := gW_64 hj
theorem gR_65 {h : zm_H} {j : Nat} (hj : j < 200) : zm_inR h 65 (iN j) = true := gR_g (m := 1) (by decide +kernel) (by omega) hj (by omega)
theorem hR_65 {h : zm_H} {j : Nat} (hj : OfNat.ofNat j < 200) : zm_inR h 65 (no_index (OfNat.ofNat j : Int32)) = true := gR_65 hj
theorem gW_65 {j : Nat} (hj : j < 200) : zm_inW 65 (iN j) = true := gW_g (by decide +kernel) hj (by omega)
theorem hW_65 {j : Nat} (hj : OfNat.ofNat j < 200) : zm_inW 65 (no_index (OfNat.ofNat j : Int32)) = true := gW_65 hj
theorem gR_66 {h : zm_H} {j : Nat} (hj : j < 4) : zm_inR h 66 (iN j) = true := gR_g (m := 1) (by decide +kernel) (by omega) hj (by omega)
theorem hR_66 {h : zm_H} {j : Nat} (hj : OfNat.ofNat j < 4) : zm_inR h 66 (no_index (OfNat.ofNat j : Int32)) = true := gR_66 hj
theorem gW_66 {j : Nat} (hj : j < 4) : zm_inW 66 (iN j) = true := gW_g (by decide +kernel) hj (by omega)
theorem hW_66 {j : Nat} (hj : OfNat.ofNat j < 4) : zm_inW 66 (no_index (OfNat.ofNat j : Int32)) = true := gW_66 hj
theorem gR_67 {h : zm_H} {j : Nat} (hj : j < 8) : zm_inR h 67 (iN j) = true := gR_g (m := 1) (by decide +kernel) (by omega) hj (by omega)
theorem hR_67 {h : zm_H} {j : Nat} (hj : OfNat.ofNat j < 8) : zm_inR h 67 (no_index (OfNat.ofNat j : Int32)) = true := gR_67 hj
theorem gW_67 {j : Nat} (hj : j < 8) : zm_inW 67 (iN j) = true := gW_g (by decide +kernel) hj (by omega)
theorem hW_67 {j : Nat} (hj : OfNat.ofNat j < 8) : zm_inW 67 (no_index (OfNat.ofNat j : Int32)) = true := gW_67 hj
theorem gR_68 {h : zm_H} {j : Nat} (hj : j < 8) : zm_inR h 68 (iN j) = true := gR_g (m := 1) (by decide +kernel) (by omega) hj (by omega)
theorem hR_68 {h : zm_H} {j : Nat} (hj : OfNat.ofNat j < 8) : zm_inR h 68 (no_index (OfNat.ofNat j : Int32)) = true := gR_68 hj
theorem gW_68 {j : Nat} (hj : j < 8) : zm_inW 68 (iN j) = true := gW_g (by decide +kernel) hj (by omega)
theorem hW_68 {j : Nat} (hj : OfNat.ofNat j < 8) : zm_inW 68 (no_index (OfNat.ofNat j : Int32)) = true := gW_68 hj
theorem gR_69 {h : zm_H} {j : Nat} (hj : j < 4) : zm_inR h 69 (iN j) = true := gR_g (m := 1) (by decide +kernel) (by omega) hj (by omega)
theorem hR_69 {h : zm_H} {j : Nat} (hj : OfNat.ofNat j < 4) : zm_inR h 69 (no_index (OfNat.ofNat j : Int32)) = true := gR_69 hj
theorem gW_69 {j : Nat} (hj : j < 4) : zm_inW 69 (iN j) = true := gW_g (by decide +kernel) hj (by omega)
theorem hW_69 {j : Nat} (hj : OfNat.ofNat j < 4) : zm_inW 69 (no_index (OfNat.ofNat j : Int32)) = true := gW_69 hj
theorem gR_70 {h : zm_H} {j : Nat} (hj : j < 160) : zm_inR h 70 (iN j) = true := gR_g (m := 1) (by decide +kernel) (by omega) hj (by omega)
theorem hR_70 {h : zm_H} {j : Nat} (hj : OfNat.ofNat j < 160) : zm_inR h 70 (no_index (OfNat.ofNat j : Int32)) = true := gR_70 hj
theorem gW_70 {j : Nat} (hj : j < 160) : zm_inW 70 (iN j) = true := gW_g (by decide +kernel) hj (by omega)
theorem hW_70 {j : Nat} (hj : OfNat.ofNat j < 160) : zm_inW 70 (no_index (OfNat.ofNat j : Int32)) = true := gW_70 hj
theorem gR_71 {h : zm_H} {j : Nat} (hj : j < 50) : zm_inR h 71 (iN j) = true := gR_g (m := 1) (by decide +kernel) (by omega) hj (by omega)
theorem hR_71 {h : zm_H} {j : Nat} (hj : OfNat.ofNat j < 50) : zm_inR h 71 (no_index (OfNat.ofNat j : Int32)) = true := gR_71 hj
theorem gW_71 {j : Nat} (hj : j < 50) : zm_inW 71 (iN j) = true := gW_g (by decide +kernel) hj (by omega)
theorem hW_71 {j : Nat} (hj : OfNat.ofNat j < 50) : zm_inW 71 (no_index (OfNat.ofNat j : Int32)) = true := gW_71 hj
theorem gR_72 {h : zm_H} {j : Nat} (hj : j < 24) : zm_inR h 72 (iN j) = true := gR_g (m := 1) (by decide +kernel) (by omega) hj (by omega)
theorem hR_72 {h : zm_H} {j : Nat} (hj : OfNat.ofNat j < 24) : zm_inR h 72 (no_index (OfNat.ofNat j : Int32)) = true := gR_72 hj
theorem gW_72 {j : Nat} (hj : j < 24) : zm_inW 72 (iN j) = true := gW_g (by decide +kernel) hj (by omega)
theorem hW_72 {j : Nat} (hj : OfNat.ofNat j < 24) : zm_inW 72 (no_index (OfNat.ofNat j : Int32)) = true := gW_72 hj
theorem gR_73 {h : zm_H} {j : Nat} (hj : j < 6) : zm_inR h 73 (iN j) = true := gR_g (m := 1) (by decide +kernel) (by omega) hj (by omega)
theorem hR_73 {h : zm_H} {j : Nat} (hj : OfNat.ofNat j < 6) : zm_inR h 73 (no_index (OfNat.ofNat j : Int32)) = true := gR_73 hj
theorem gW_73 {j : Nat} (hj : j < 6) : zm_inW 73 (iN j) = true := gW_g (by decide +kernel) hj (by omega)
theorem hW_73 {j : Nat} (hj : OfNat.ofNat j < 6) : zm_inW 73 (no_index (OfNat.ofNat j : Int32)) = true := gW_73 hj
theorem gR_74 {h : zm_H} {j : Nat} (hj : j < 6) : zm_inR h 74 (iN j) = true := gR_g (m := 1) (by decide +kernel) (by omega) hj (by omega)
theorem hR_74 {h : zm_H} {j : Nat} (hj : OfNat.ofNat j < 6) : zm_inR h 74 (no_index (OfNat.ofNat j : Int32)) = true := gR_74 hj
theorem gW_74 {j : Nat} (hj : j < 6) : zm_inW 74 (iN j) = true := gW_g (by decide +kernel) hj (by omega)
theorem hW_74 {j : Nat} (hj : OfNat.ofNat j < 6) : zm_inW 74 (no_index (OfNat.ofNat j : Int32)) = true := gW_74 hj
theorem gR_76 {h : zm_H} {j : Nat} (hj : j < 6) : zm_inR h 76 (iN j) = true := gR_g (m := 1) (by decide +kernel) (by omega) hj (by omega)
theorem hR_76 {h : zm_H} {j : Nat} (hj : OfNat.ofNat j < 6) : zm_inR h 76 (no_index (OfNat.ofNat j : Int32)) = true := gR_76 hj
theorem gW_76 {j : Nat} (hj : j < 6) : zm_inW 76 (iN j) = true := gW_g (by decide +kernel) hj (by omega)
theorem hW_76 {j : Nat} (hj : OfNat.ofNat j < 6) : zm_inW 76 (no_index (OfNat.ofNat j : Int32)) = true := gW_76 hj
theorem gR_77 {h : zm_H} {j : Nat} (hj : j < 6) : zm_inR h 77 (iN j) = true := gR_g (m := 1) (by decide +kernel) (by omega) hj (by omega)
theorem hR_77 {h : zm_H} {j : Nat} (hj : OfNat.ofNat j < 6) : zm_inR h 77 (no_index (OfNat.ofNat j : Int32)) = true := gR_77 hj
theorem gW_77 {j : Nat} (hj : j < 6) : zm_inW 77 (iN j) = true := gW_g (by decide +kernel) hj (by omega)
theorem hW_77 {j : Nat} (hj : OfNat.ofNat j < 6) : zm_inW 77 (no_index (OfNat.ofNat j : Int32)) = true := gW_77 hj
theorem gR_78 {h : zm_H} {j : Nat} (hj : j < 6) : zm_inR h 78 (iN j) = true := gR_g (m := 1) (by decide +kernel) (by omega) hj (by omega)
theorem hR_78 {h : zm_H} {j : Nat} (hj : OfNat.ofNat j < 6) : zm_inR h 78 (no_index (OfNat.ofNat j : Int32)) = true := gR_78 hj
theorem gW_78 {j : Nat} (hj : j < 6) : zm_inW 78 (iN j) = true := gW_g (by decide +kernel) hj (by omega)
theorem hW_78 {j : Nat} (hj : OfNat.ofNat j < 6) : zm_inW 78 (no_index (OfNat.ofNat j : Int32)) = true := gW_78 hj
theorem gR_79 {h : zm_H} {j : Nat} (hj : j < 7) : zm_inR h 79 (iN j) = true := gR_g (m := 1) (by decide +kernel) (by omega) hj (by omega)
theorem hR_79 {h : zm_H} {j : Nat} (hj : OfNat.ofNat j < 7) : zm_inR h 79 (no_index (OfNat.ofNat j : Int32)) = true := gR_79 hj
theorem gW_79 {j : Nat} (hj : j < 7) : zm_inW 79 (iN j) = true := gW_g (by decide +kernel) hj (by omega)
theorem hW_79 {j : Nat} (hj : OfNat.ofNat j < 7) : zm_inW 79 (no_index (OfNat.ofNat j : Int32)) = true := gW_79 hj
theorem gR_80 {h : zm_H} {j : Nat} (hj : j < 6) : zm_inR h 80 (iN j) = true := gR_g (m := 1) (by decide +kernel) (by omega) hj (by omega)
theorem hR_80 {h : zm_H} {j : Nat} (hj : OfNat.ofNat j < 6) : zm_inR h 80 (no_index (OfNat.ofNat j : Int32)) = true := gR_80 hj
theorem gW_80 {j : Nat} (hj : j < 6) : zm_inW 80 (iN j) = true := gW_g (by decide +kernel) hj (by omega)
theorem hW_80 {j : Nat} (hj : OfNat.ofNat j < 6) : zm_inW 80 (no_index (OfNat.ofNat j : Int32)) = true := gW_80 hj
theorem gR_81 {h : zm_H} {j : Nat} (hj : j < 6) : zm_inR h 81 (iN j) = true := gR_g (m := 1) (by decide +kernel) (by omega) hj (by omega)
theorem hR_81 {h : zm_H} {j : Nat} (hj : OfNat.ofNat j < 6) : zm_inR h 81 (no_index (OfNat.ofNat j : Int32)) = true := gR_81 hj
theorem gW_81 {j : Nat} (hj : j < 6) : zm_inW 81 (iN j) = true := gW_g (by decide +kernel) hj (by omega)
theorem hW_81 {j : Nat} (hj : OfNat.ofNat j < 6) : zm_inW 81 (no_index (OfNat.ofNat j : Int32)) = true := gW_81 hj
theorem gR_82 {h : zm_H} {j : Nat} (hj : j < 6) : zm_inR h 82 (iN j) = true := gR_g (m := 1) (by decide +kernel) (by omega) hj (by omega)
theorem hR_82 {h : zm_H} {j : Nat} (hj : OfNat.ofNat j < 6) : zm_inR h 82 (no_index (OfNat.ofNat j : Int32)) = true := gR_82 hj
theorem gW_82 {j : Nat} (hj : j < 6) : zm_inW 82 (iN j) = true := gW_g (by decide +kernel) hj (by omega)
theorem hW_82 {j : Nat} (hj : OfNat.ofNat j < 6) : zm_inW 82 (no_index (OfNat.ofNat j : Int32)) = true := gW_82 hj
theorem gR_1000 {h : zm_H} {j : Nat} (hj : j < 12) : zm_inR h 1000 (iN j) = true := gR_g (m := 4) (by decide +kernel) (by omega) hj (by omega)
theorem hR_1000 {h : zm_H} {j : Nat} (hj : OfNat.ofNat j < 12) : zm_inR h 1000 (no_index (OfNat.ofNat j : Int32)) = true := gR_1000 hj
theorem gR_1001 {h : zm_H} {j : Nat} (hj : j < 12) : zm_inR h 1001 (iN j) = true := gR_g (m := 4) (by decide +kernel) (by omega) hj (by omega)
theorem hR_1001 {h : zm_H} {j : Nat} (hj : OfNat.ofNat j < 12) : zm_inR h 1001 (no_index (OfNat.ofNat j : Int32)) = true := gR_1001 hj
theorem gR_1002 {h : zm_H} {j : Nat} (hj : j < 8) : zm_inR h 1002 (iN j) = true := gR_g (m := 4) (by decide +kernel) (by omega) hj (by omega)
theorem hR_1002 {h : zm_H} {j : Nat} (hj : OfNat.ofNat j < 8) : zm_inR h 1002 (no_index (OfNat.ofNat j : Int32)) = true := gR_1002 hj
theorem gR_1003 {h : zm_H} {j : Nat} (hj : j < 32) : zm_inR h 1003 (iN j) = true := gR_g (m := 4) (by decide +kernel) (by omega) hj (by omega)
theorem hR_1003 {h : zm_H} {j : Nat} (hj : OfNat.ofNat j < 32) : zm_inR h 1003 (no_index (OfNat.ofNat j : Int32)) = true := gR_1003 hj
theorem gJ_39 {j : Nat} (hj : j < 60) : zm_inJ 39 (iN j) = true := gJ_g (by decide +kernel) hj (by omega)
theorem gJ_40 {j : Nat} (hj : j < 60) : zm_inJ 40 (iN j) = true := gJ_g (by decide +kernel) hj (by omega)
theorem gJ_41 {j : Nat} (hj : j < 60) : zm_inJ 41 (iN j) = true := gJ_g (by decide +kernel) hj (by omega)
theorem gJ_42 {j : Nat} (hj : j < 60) : zm_inJ 42 (iN j) = true := gJ_g (by decide +kernel) hj (by omega)
theorem gJ_43 {j : Nat} (hj : j < 60) : zm_inJ 43 (iN j) = true := gJ_g (by decide +kernel) hj (by omega)
theorem gJ_44 {j : Nat} (hj : j < 60) : zm_inJ 44 (iN j) = true := gJ_g (by decide +kernel) hj (by omega)
theorem gJ_75 {j : Nat} (hj : j < 360) : zm_inJ 75 (iN j) = true := gJ_g (by decide +kernel) hj (by omega)
