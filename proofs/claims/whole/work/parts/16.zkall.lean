/-! all methods -/
theorem zk_all : zk_M 0 240 := sorry
/-- every instruction of the tables is the bytes' own, and what it links stands in the claim's words -/
theorem zm_checked {mi pc : Nat} {e : ZI} (hm : mi < 240) (h : zm_tab mi pc = some e) : zm_chk mi pc e = true := by
  have hp : pc < zm_len mi := by
    unfold zm_tab at h
    cases hb : Nat.blt pc (zm_len mi) with
    | false => rw [hb] at h; cases h
    | true => exact Nat.le_of_ble_eq_true hb
  have hk := zk_all mi (Nat.zero_le _) hm pc (Nat.zero_le _) hp
  unfold zm_okE at hk
  rw [h] at hk
  exact hk
def zm_chm (mi : Nat) : Bool := plainName (zm_own mi) && Nat.ble (zm_ml mi) 21
theorem zm_chm_all : ∀ mi, mi < zm_NM → zm_chm mi = true := by decide +kernel
def zd_P (mi : Nat) : Prop := Jvm.Cond.code (zm_y mi) (zm_b mi) (zm_ml mi) (zm_rt_ mi) ∈ lw_g
theorem zd_of {mi k j : Nat} {y : MethodName} {b : ByteArray} {n : Nat} {rt : Option FieldType} (h1 : zm_y mi = y) (h2 : zm_b mi = b) (h3 : zm_ml mi = n) (h4 : zm_rt_ mi = rt) (h : (zc_T k)[j]? = some (.code y b n rt)) : zd_P mi := by
  subst h1; subst h2; subst h3; subst h4
  exact lw_g_of (zc_T_in _ _ (List.mem_of_getElem? h)) rfl
def zd_M (a b : Nat) : Prop := ∀ mi, a ≤ mi → mi < b → zd_P mi
theorem zd_one {a : Nat} (h : zd_P a) : zd_M a (a + 1) := by
  intro mi h1 h2
  obtain rfl : mi = a := by omega
  exact h
theorem zd_both {a b c : Nat} (h1 : zd_M a b) (h2 : zd_M b c) : zd_M a c := by
  intro mi ha hc
  by_cases hb : mi < b
  · exact h1 mi ha hb
  · exact h2 mi (by omega) hc
theorem zd_0 : zd_P 0 := zd_of (k := 6) (j := 162) (y := yX0_add) (b := cX0_add) (n := 5) (rt := none) (by decide +kernel) rfl (by decide +kernel) (by decide +kernel) rfl
theorem zd_1 : zd_P 1 := zd_of (k := 8) (j := 72) (y := yX0_stepBack) (b := cX0_stepBack) (n := 2) (rt := (some .int)) (by decide +kernel) rfl (by decide +kernel) (by decide +kernel) rfl
theorem zd_2 : zd_P 2 := zd_of (k := 8) (j := 81) (y := yX0_stepOn) (b := cX0_stepOn) (n := 2) (rt := (some .int)) (by decide +kernel) rfl (by decide +kernel) (by decide +kernel) rfl
theorem zd_3 : zd_P 3 := zd_of (k := 6) (j := 166) (y := yX0_forgetOldest) (b := cX0_forgetOldest) (n := 2) (rt := none) (by decide +kernel) rfl (by decide +kernel) (by decide +kernel) rfl
theorem zd_4 : zd_P 4 := zd_of (k := 7) (j := 165) (y := yX1_gather) (b := cX1_gather) (n := 4) (rt := none) (by decide +kernel) rfl (by decide +kernel) (by decide +kernel) rfl
theorem zd_5 : zd_P 5 := zd_of (k := 7) (j := 174) (y := yX1_time) (b := cX1_time) (n := 4) (rt := none) (by decide +kernel) rfl (by decide +kernel) (by decide +kernel) rfl
theorem zd_6 : zd_P 6 := zd_of (k := 7) (j := 234) (y := yX1_addTierLike) (b := cX1_addTierLike) (n := 4) (rt := none) (by decide +kernel) rfl (by decide +kernel) (by decide +kernel) rfl
theorem zd_7 : zd_P 7 := zd_of (k := 7) (j := 178) (y := yX1_allDone) (b := cX1_allDone) (n := 2) (rt := (some .int)) (by decide +kernel) rfl (by decide +kernel) (by decide +kernel) rfl
theorem zd_8 : zd_P 8 := zd_of (k := 7) (j := 206) (y := yX1_firstDone) (b := cX1_firstDone) (n := 5) (rt := (some .int)) (by decide +kernel) rfl (by decide +kernel) (by decide +kernel) rfl
theorem zd_9 : zd_P 9 := zd_of (k := 7) (j := 226) (y := yX1_doneBy) (b := cX1_doneBy) (n := 4) (rt := (some .int)) (by decide +kernel) rfl (by decide +kernel) (by decide +kernel) rfl
theorem zd_10 : zd_P 10 := zd_of (k := 7) (j := 170) (y := yX1_isGathered) (b := cX1_isGathered) (n := 3) (rt := (some .boolean)) (by decide +kernel) rfl (by decide +kernel) (by decide +kernel) rfl
theorem zd_11 : zd_P 11 := zd_of (k := 7) (j := 197) (y := yX1_minutesFor) (b := cX1_minutesFor) (n := 4) (rt := (some .int)) (by decide +kernel) rfl (by decide +kernel) (by decide +kernel) rfl
theorem zd_12 : zd_P 12 := zd_of (k := 7) (j := 182) (y := yX1_layPlaces) (b := cX1_layPlaces) (n := 2) (rt := none) (by decide +kernel) rfl (by decide +kernel) (by decide +kernel) rfl
theorem zd_13 : zd_P 13 := zd_of (k := 7) (j := 210) (y := yX1_keepOrder) (b := cX1_keepOrder) (n := 2) (rt := none) (by decide +kernel) rfl (by decide +kernel) (by decide +kernel) rfl
theorem zd_14 : zd_P 14 := zd_of (k := 7) (j := 186) (y := yX1_done) (b := cX1_done) (n := 5) (rt := (some .int)) (by decide +kernel) rfl (by decide +kernel) (by decide +kernel) rfl
theorem zd_15 : zd_P 15 := zd_of (k := 7) (j := 193) (y := yX1_firstFree) (b := cX1_firstFree) (n := 4) (rt := (some .int)) (by decide +kernel) rfl (by decide +kernel) (by decide +kernel) rfl
theorem zd_16 : zd_P 16 := zd_of (k := 7) (j := 214) (y := yX1_nextOrder) (b := cX1_nextOrder) (n := 5) (rt := (some .boolean)) (by decide +kernel) rfl (by decide +kernel) (by decide +kernel) rfl
theorem zd_17 : zd_P 17 := zd_of (k := 7) (j := 218) (y := yX1_swap) (b := cX1_swap) (n := 4) (rt := none) (by decide +kernel) rfl (by decide +kernel) (by decide +kernel) rfl
theorem zd_18 : zd_P 18 := zd_of (k := 7) (j := 15) (y := yX2_lay) (b := cX2_lay) (n := 4) (rt := none) (by decide +kernel) rfl (by decide +kernel) (by decide +kernel) rfl
theorem zd_19 : zd_P 19 := zd_of (k := 7) (j := 20) (y := yX2_cloth) (b := cX2_cloth) (n := 2) (rt := (some .int)) (by decide +kernel) rfl (by decide +kernel) (by decide +kernel) rfl
theorem zd_20 : zd_P 20 := zd_of (k := 7) (j := 54) (y := yX2_thin) (b := cX2_thin) (n := 2) (rt := (some .int)) (by decide +kernel) rfl (by decide +kernel) (by decide +kernel) rfl
theorem zd_21 : zd_P 21 := zd_of (k := 7) (j := 120) (y := yX2_apart) (b := cX2_apart) (n := 2) (rt := (some .int)) (by decide +kernel) rfl (by decide +kernel) (by decide +kernel) rfl
theorem zd_22 : zd_P 22 := zd_of (k := 7) (j := 58) (y := yX2_isRight) (b := cX2_isRight) (n := 4) (rt := (some .boolean)) (by decide +kernel) rfl (by decide +kernel) (by decide +kernel) rfl
theorem zd_23 : zd_P 23 := zd_of (k := 7) (j := 74) (y := yX2_isRightAt) (b := cX2_isRightAt) (n := 3) (rt := (some .boolean)) (by decide +kernel) rfl (by decide +kernel) (by decide +kernel) rfl
theorem zd_24 : zd_P 24 := zd_of (k := 7) (j := 80) (y := yX2_leastRight) (b := cX2_leastRight) (n := 2) (rt := (some .int)) (by decide +kernel) rfl (by decide +kernel) (by decide +kernel) rfl
theorem zd_25 : zd_P 25 := zd_of (k := 7) (j := 84) (y := yX2_greatestRight) (b := cX2_greatestRight) (n := 2) (rt := (some .int)) (by decide +kernel) rfl (by decide +kernel) (by decide +kernel) rfl
theorem zd_26 : zd_P 26 := zd_of (k := 7) (j := 70) (y := yX2_rightOnes) (b := cX2_rightOnes) (n := 3) (rt := (some .int)) (by decide +kernel) rfl (by decide +kernel) (by decide +kernel) rfl
theorem zd_27 : zd_P 27 := zd_of (k := 7) (j := 92) (y := yX2_turnsIfRight) (b := cX2_turnsIfRight) (n := 1) (rt := (some .int)) (by decide +kernel) rfl (by decide +kernel) (by decide +kernel) rfl
theorem zd_28 : zd_P 28 := zd_of (k := 7) (j := 104) (y := yX2_tries) (b := cX2_tries) (n := 6) (rt := (some .int)) (by decide +kernel) rfl (by decide +kernel) (by decide +kernel) rfl
theorem zd_29 : zd_P 29 := zd_of (k := 8) (j := 28) (y := yX2_drawnTries) (b := cX2_drawnTries) (n := 6) (rt := (some .int)) (by decide +kernel) rfl (by decide +kernel) (by decide +kernel) rfl
theorem zd_30 : zd_P 30 := zd_of (k := 8) (j := 7) (y := yX2_firstWrong) (b := cX2_firstWrong) (n := 8) (rt := (some .int)) (by decide +kernel) rfl (by decide +kernel) (by decide +kernel) rfl
theorem zd_31 : zd_P 31 := zd_of (k := 7) (j := 108) (y := yX2_corrected) (b := cX2_corrected) (n := 5) (rt := (some .int)) (by decide +kernel) rfl (by decide +kernel) (by decide +kernel) rfl
theorem zd_32 : zd_P 32 := zd_of (k := 7) (j := 24) (y := yX3_isTold) (b := cX3_isTold) (n := 1) (rt := (some .boolean)) (by decide +kernel) rfl (by decide +kernel) (by decide +kernel) rfl
theorem zd_33 : zd_P 33 := zd_of (k := 6) (j := 228) (y := yX3_become) (b := cX3_become) (n := 3) (rt := none) (by decide +kernel) rfl (by decide +kernel) (by decide +kernel) rfl
theorem zd_34 : zd_P 34 := zd_of (k := 7) (j := 28) (y := yX3_valueFor) (b := cX3_valueFor) (n := 7) (rt := (some .int)) (by decide +kernel) rfl (by decide +kernel) (by decide +kernel) rfl
theorem zd_35 : zd_P 35 := zd_of (k := 7) (j := 43) (y := yX3_turned) (b := cX3_turned) (n := 2) (rt := (some .int)) (by decide +kernel) rfl (by decide +kernel) (by decide +kernel) rfl
theorem zd_36 : zd_P 36 := zd_of (k := 7) (j := 40) (y := yX3_named) (b := cX3_named) (n := 3) (rt := (some .int)) (by decide +kernel) rfl (by decide +kernel) (by decide +kernel) rfl
theorem zd_37 : zd_P 37 := zd_of (k := 7) (j := 46) (y := yX3_joined) (b := cX3_joined) (n := 3) (rt := (some .int)) (by decide +kernel) rfl (by decide +kernel) (by decide +kernel) rfl
theorem zd_38 : zd_P 38 := zd_of (k := 7) (j := 36) (y := yX3_push) (b := cX3_push) (n := 2) (rt := none) (by decide +kernel) rfl (by decide +kernel) (by decide +kernel) rfl
theorem zd_39 : zd_P 39 := zd_of (k := 7) (j := 32) (y := yX3_pop) (b := cX3_pop) (n := 1) (rt := (some .int)) (by decide +kernel) rfl (by decide +kernel) (by decide +kernel) rfl
theorem zd_40 : zd_P 40 := zd_of (k := 8) (j := 50) (y := yX4_copyFrom) (b := cX4_copyFrom) (n := 2) (rt := none) (by decide +kernel) rfl (by decide +kernel) (by decide +kernel) rfl
theorem zd_41 : zd_P 41 := zd_of (k := 8) (j := 54) (y := yX4_copyTies) (b := cX4_copyTies) (n := 3) (rt := none) (by decide +kernel) rfl (by decide +kernel) (by decide +kernel) rfl
theorem zd_42 : zd_P 42 := zd_of (k := 8) (j := 63) (y := yX4_layTiesBack) (b := cX4_layTiesBack) (n := 3) (rt := none) (by decide +kernel) rfl (by decide +kernel) (by decide +kernel) rfl
theorem zd_43 : zd_P 43 := zd_of (k := 6) (j := 102) (y := yX5_has) (b := cX5_has) (n := 3) (rt := (some .boolean)) (by decide +kernel) rfl (by decide +kernel) (by decide +kernel) rfl
theorem zd_44 : zd_P 44 := zd_of (k := 6) (j := 158) (y := yX5_read) (b := cX5_read) (n := 3) (rt := (some .int)) (by decide +kernel) rfl (by decide +kernel) (by decide +kernel) rfl
theorem zd_45 : zd_P 45 := zd_of (k := 6) (j := 98) (y := yX5_write) (b := cX5_write) (n := 4) (rt := none) (by decide +kernel) rfl (by decide +kernel) (by decide +kernel) rfl
theorem zd_46 : zd_P 46 := zd_of (k := 6) (j := 94) (y := yX5_addTie) (b := cX5_addTie) (n := 5) (rt := (some .int)) (by decide +kernel) rfl (by decide +kernel) (by decide +kernel) rfl
theorem zd_47 : zd_P 47 := zd_of (k := 6) (j := 149) (y := yX5_addTier) (b := cX5_addTier) (n := 5) (rt := (some .int)) (by decide +kernel) rfl (by decide +kernel) (by decide +kernel) rfl
theorem zd_48 : zd_P 48 := zd_of (k := 6) (j := 106) (y := yX5_howMany) (b := cX5_howMany) (n := 2) (rt := (some .int)) (by decide +kernel) rfl (by decide +kernel) (by decide +kernel) rfl
theorem zd_49 : zd_P 49 := zd_of (k := 6) (j := 179) (y := yX6_add) (b := cX6_add) (n := 2) (rt := (some .int)) (by decide +kernel) rfl (by decide +kernel) (by decide +kernel) rfl
theorem zd_50 : zd_P 50 := zd_of (k := 6) (j := 235) (y := yX6_empty) (b := cX6_empty) (n := 1) (rt := none) (by decide +kernel) rfl (by decide +kernel) (by decide +kernel) rfl
theorem zd_51 : zd_P 51 := zd_of (k := 6) (j := 187) (y := yX6_readText) (b := cX6_readText) (n := 2) (rt := (some .boolean)) (by decide +kernel) rfl (by decide +kernel) (by decide +kernel) rfl
theorem zd_52 : zd_P 52 := zd_of (k := 6) (j := 191) (y := yX6_readLine) (b := cX6_readLine) (n := 1) (rt := (some .boolean)) (by decide +kernel) rfl (by decide +kernel) (by decide +kernel) rfl
theorem zd_53 : zd_P 53 := zd_of (k := 6) (j := 195) (y := yX6_readLevel) (b := cX6_readLevel) (n := 6) (rt := (some .boolean)) (by decide +kernel) rfl (by decide +kernel) (by decide +kernel) rfl
theorem zd_54 : zd_P 54 := zd_of (k := 6) (j := 199) (y := yX6_readOperand) (b := cX6_readOperand) (n := 3) (rt := (some .boolean)) (by decide +kernel) rfl (by decide +kernel) (by decide +kernel) rfl
theorem zd_55 : zd_P 55 := zd_of (k := 6) (j := 210) (y := yX6_number) (b := cX6_number) (n := 3) (rt := (some .int)) (by decide +kernel) rfl (by decide +kernel) (by decide +kernel) rfl
theorem zd_56 : zd_P 56 := zd_of (k := 6) (j := 221) (y := yX6_goesOnWith) (b := cX6_goesOnWith) (n := 2) (rt := (some .boolean)) (by decide +kernel) rfl (by decide +kernel) (by decide +kernel) rfl
theorem zd_57 : zd_P 57 := zd_of (k := 6) (j := 203) (y := yX6_ahead) (b := cX6_ahead) (n := 1) (rt := (some .int)) (by decide +kernel) rfl (by decide +kernel) (by decide +kernel) rfl
theorem zd_58 : zd_P 58 := zd_of (k := 6) (j := 214) (y := yX6_emit) (b := cX6_emit) (n := 2) (rt := (some .boolean)) (by decide +kernel) rfl (by decide +kernel) (by decide +kernel) rfl
theorem zd_59 : zd_P 59 := zd_of (k := 6) (j := 206) (y := yX6_isDigit) (b := cX6_isDigit) (n := 1) (rt := (some .boolean)) (by decide +kernel) rfl (by decide +kernel) (by decide +kernel) rfl
theorem zd_60 : zd_P 60 := zd_of (k := 6) (j := 217) (y := yX6_isName) (b := cX6_isName) (n := 1) (rt := (some .boolean)) (by decide +kernel) rfl (by decide +kernel) (by decide +kernel) rfl
theorem zd_61 : zd_P 61 := zd_of (k := 6) (j := 224) (y := yX6_levelOf) (b := cX6_levelOf) (n := 1) (rt := (some .int)) (by decide +kernel) rfl (by decide +kernel) (by decide +kernel) rfl
theorem zd_62 : zd_P 62 := zd_of (k := 6) (j := 118) (y := yX7_isEmpty) (b := cX7_isEmpty) (n := 1) (rt := (some .boolean)) (by decide +kernel) rfl (by decide +kernel) (by decide +kernel) rfl
theorem zd_63 : zd_P 63 := zd_of (k := 6) (j := 126) (y := yX7_isRow) (b := cX7_isRow) (n := 1) (rt := (some .boolean)) (by decide +kernel) rfl (by decide +kernel) (by decide +kernel) rfl
theorem zd_64 : zd_P 64 := zd_of (k := 6) (j := 122) (y := yX7_isRowOf) (b := cX7_isRowOf) (n := 2) (rt := (some .boolean)) (by decide +kernel) rfl (by decide +kernel) (by decide +kernel) rfl
theorem zd_65 : zd_P 65 := zd_of (k := 6) (j := 134) (y := yX7_hasSpan) (b := cX7_hasSpan) (n := 3) (rt := (some .boolean)) (by decide +kernel) rfl (by decide +kernel) (by decide +kernel) rfl
theorem zd_66 : zd_P 66 := zd_of (k := 8) (j := 146) (y := yX7_hold) (b := cX7_hold) (n := 2) (rt := none) (by decide +kernel) rfl (by decide +kernel) (by decide +kernel) rfl
theorem zd_67 : zd_P 67 := zd_of (k := 8) (j := 154) (y := yX7_holdRow) (b := cX7_holdRow) (n := 3) (rt := none) (by decide +kernel) rfl (by decide +kernel) (by decide +kernel) rfl
theorem zd_68 : zd_P 68 := zd_of (k := 6) (j := 138) (y := yX7_read) (b := cX7_read) (n := 2) (rt := (some .long)) (by decide +kernel) rfl (by decide +kernel) (by decide +kernel) rfl
theorem zd_69 : zd_P 69 := zd_of (k := 8) (j := 172) (y := yX7_write) (b := cX7_write) (n := 4) (rt := none) (by decide +kernel) rfl (by decide +kernel) (by decide +kernel) rfl
theorem zd_70 : zd_P 70 := zd_of (k := 8) (j := 176) (y := yX7_fitted) (b := cX7_fitted) (n := 3) (rt := (some .long)) (by decide +kernel) rfl (by decide +kernel) (by decide +kernel) rfl
theorem zd_71 : zd_P 71 := zd_of (k := 8) (j := 92) (y := yX8_add) (b := cX8_add) (n := 2) (rt := (some .int)) (by decide +kernel) rfl (by decide +kernel) (by decide +kernel) rfl
theorem zd_72 : zd_P 72 := zd_of (k := 8) (j := 100) (y := yX8_has) (b := cX8_has) (n := 2) (rt := (some .boolean)) (by decide +kernel) rfl (by decide +kernel) (by decide +kernel) rfl
theorem zd_73 : zd_P 73 := zd_of (k := 8) (j := 108) (y := yX8_kindOf) (b := cX8_kindOf) (n := 2) (rt := (some .int)) (by decide +kernel) rfl (by decide +kernel) (by decide +kernel) rfl
theorem zd_74 : zd_P 74 := zd_of (k := 8) (j := 196) (y := yX8_isUnder) (b := cX8_isUnder) (n := 5) (rt := (some .boolean)) (by decide +kernel) rfl (by decide +kernel) (by decide +kernel) rfl
theorem zd_75 : zd_P 75 := zd_of (k := 8) (j := 104) (y := yX8_start) (b := cX8_start) (n := 4) (rt := (some .int)) (by decide +kernel) rfl (by decide +kernel) (by decide +kernel) rfl
theorem zd_76 : zd_P 76 := zd_of (k := 8) (j := 113) (y := yX8_ask) (b := cX8_ask) (n := 7) (rt := (some .int)) (by decide +kernel) rfl (by decide +kernel) (by decide +kernel) rfl
theorem zd_77 : zd_P 77 := zd_of (k := 8) (j := 134) (y := yX8_run) (b := cX8_run) (n := 5) (rt := (some .int)) (by decide +kernel) rfl (by decide +kernel) (by decide +kernel) rfl
theorem zd_78 : zd_P 78 := zd_of (k := 8) (j := 130) (y := yX8_begin) (b := cX8_begin) (n := 2) (rt := none) (by decide +kernel) rfl (by decide +kernel) (by decide +kernel) rfl
theorem zd_79 : zd_P 79 := zd_of (k := 8) (j := 116) (y := yX8_homeOf) (b := cX8_homeOf) (n := 4) (rt := (some .int)) (by decide +kernel) rfl (by decide +kernel) (by decide +kernel) rfl
theorem zd_80 : zd_P 80 := zd_of (k := 8) (j := 124) (y := yX8_above) (b := cX8_above) (n := 1) (rt := (some .int)) (by decide +kernel) rfl (by decide +kernel) (by decide +kernel) rfl
theorem zd_81 : zd_P 81 := zd_of (k := 8) (j := 119) (y := yX8_ownOf) (b := cX8_ownOf) (n := 3) (rt := (some .int)) (by decide +kernel) rfl (by decide +kernel) (by decide +kernel) rfl
theorem zd_82 : zd_P 82 := zd_of (k := 6) (j := 83) (y := yX9_tie) (b := cX9_tie) (n := 3) (rt := (some .int)) (by decide +kernel) rfl (by decide +kernel) (by decide +kernel) rfl
theorem zd_83 : zd_P 83 := zd_of (k := 6) (j := 111) (y := yX9_ties) (b := cX9_ties) (n := 6) (rt := (some .int)) (by decide +kernel) rfl (by decide +kernel) (by decide +kernel) rfl
theorem zd_84 : zd_P 84 := zd_of (k := 6) (j := 142) (y := yX9_tier) (b := cX9_tier) (n := 3) (rt := (some .int)) (by decide +kernel) rfl (by decide +kernel) (by decide +kernel) rfl
theorem zd_85 : zd_P 85 := zd_of (k := 6) (j := 153) (y := yX9_mend) (b := cX9_mend) (n := 5) (rt := (some .int)) (by decide +kernel) rfl (by decide +kernel) (by decide +kernel) rfl
theorem zd_86 : zd_P 86 := zd_of (k := 6) (j := 171) (y := yX9_of) (b := cX9_of) (n := 3) (rt := (some .int)) (by decide +kernel) rfl (by decide +kernel) (by decide +kernel) rfl
theorem zd_87 : zd_P 87 := zd_of (k := 6) (j := 175) (y := yX9_feed) (b := cX9_feed) (n := 2) (rt := (some .int)) (by decide +kernel) rfl (by decide +kernel) (by decide +kernel) rfl
theorem zd_88 : zd_P 88 := zd_of (k := 6) (j := 183) (y := yX9_law) (b := cX9_law) (n := 3) (rt := (some .int)) (by decide +kernel) rfl (by decide +kernel) (by decide +kernel) rfl
theorem zd_89 : zd_P 89 := zd_of (k := 6) (j := 239) (y := yX9_hangs) (b := cX9_hangs) (n := 6) (rt := (some .int)) (by decide +kernel) rfl (by decide +kernel) (by decide +kernel) rfl
theorem zd_90 : zd_P 90 := zd_of (k := 7) (j := 66) (y := yX9_where) (b := cX9_where) (n := 4) (rt := (some .int)) (by decide +kernel) rfl (by decide +kernel) (by decide +kernel) rfl
theorem zd_91 : zd_P 91 := zd_of (k := 7) (j := 88) (y := yX9_knot) (b := cX9_knot) (n := 7) (rt := (some .int)) (by decide +kernel) rfl (by decide +kernel) (by decide +kernel) rfl
theorem zd_92 : zd_P 92 := zd_of (k := 7) (j := 97) (y := yX9_correct) (b := cX9_correct) (n := 6) (rt := (some .int)) (by decide +kernel) rfl (by decide +kernel) (by decide +kernel) rfl
theorem zd_93 : zd_P 93 := zd_of (k := 7) (j := 112) (y := yX9_share) (b := cX9_share) (n := 8) (rt := (some .int)) (by decide +kernel) rfl (by decide +kernel) (by decide +kernel) rfl
theorem zd_94 : zd_P 94 := zd_of (k := 7) (j := 116) (y := yX9_bow) (b := cX9_bow) (n := 8) (rt := (some .int)) (by decide +kernel) rfl (by decide +kernel) (by decide +kernel) rfl
theorem zd_95 : zd_P 95 := zd_of (k := 7) (j := 124) (y := yX9_stain) (b := cX9_stain) (n := 5) (rt := (some .int)) (by decide +kernel) rfl (by decide +kernel) (by decide +kernel) rfl
theorem zd_96 : zd_P 96 := zd_of (k := 7) (j := 128) (y := yX9_hide) (b := cX9_hide) (n := 4) (rt := (some .int)) (by decide +kernel) rfl (by decide +kernel) (by decide +kernel) rfl
theorem zd_97 : zd_P 97 := zd_of (k := 7) (j := 133) (y := yX9_fit) (b := cX9_fit) (n := 5) (rt := (some .int)) (by decide +kernel) rfl (by decide +kernel) (by decide +kernel) rfl
theorem zd_98 : zd_P 98 := zd_of (k := 7) (j := 137) (y := yX9_wear) (b := cX9_wear) (n := 6) (rt := (some .int)) (by decide +kernel) rfl (by decide +kernel) (by decide +kernel) rfl
theorem zd_99 : zd_P 99 := zd_of (k := 7) (j := 141) (y := yX9_takes) (b := cX9_takes) (n := 3) (rt := (some .int)) (by decide +kernel) rfl (by decide +kernel) (by decide +kernel) rfl
theorem zd_100 : zd_P 100 := zd_of (k := 7) (j := 149) (y := yX9_six) (b := cX9_six) (n := 6) (rt := (some .int)) (by decide +kernel) rfl (by decide +kernel) (by decide +kernel) rfl
theorem zd_101 : zd_P 101 := zd_of (k := 7) (j := 202) (y := yX9_order) (b := cX9_order) (n := 6) (rt := (some .int)) (by decide +kernel) rfl (by decide +kernel) (by decide +kernel) rfl
theorem zd_102 : zd_P 102 := zd_of (k := 7) (j := 222) (y := yX9_taxi) (b := cX9_taxi) (n := 5) (rt := (some .int)) (by decide +kernel) rfl (by decide +kernel) (by decide +kernel) rfl
theorem zd_103 : zd_P 103 := zd_of (k := 7) (j := 230) (y := yX9_oneMore) (b := cX9_oneMore) (n := 5) (rt := (some .int)) (by decide +kernel) rfl (by decide +kernel) (by decide +kernel) rfl
theorem zd_104 : zd_P 104 := zd_of (k := 7) (j := 239) (y := yX9_judge) (b := cX9_judge) (n := 5) (rt := (some .int)) (by decide +kernel) rfl (by decide +kernel) (by decide +kernel) rfl
theorem zd_105 : zd_P 105 := zd_of (k := 8) (j := 12) (y := yX9_which) (b := cX9_which) (n := 7) (rt := (some .int)) (by decide +kernel) rfl (by decide +kernel) (by decide +kernel) rfl
theorem zd_106 : zd_P 106 := zd_of (k := 8) (j := 16) (y := yX9_began) (b := cX9_began) (n := 7) (rt := (some .int)) (by decide +kernel) rfl (by decide +kernel) (by decide +kernel) rfl
theorem zd_107 : zd_P 107 := zd_of (k := 8) (j := 20) (y := yX9_thickness) (b := cX9_thickness) (n := 7) (rt := (some .int)) (by decide +kernel) rfl (by decide +kernel) (by decide +kernel) rfl
theorem zd_108 : zd_P 108 := zd_of (k := 8) (j := 24) (y := yX9_drawn) (b := cX9_drawn) (n := 10) (rt := (some .int)) (by decide +kernel) rfl (by decide +kernel) (by decide +kernel) rfl
theorem zd_109 : zd_P 109 := zd_of (k := 8) (j := 33) (y := yX9_tieOn) (b := cX9_tieOn) (n := 6) (rt := (some .int)) (by decide +kernel) rfl (by decide +kernel) (by decide +kernel) rfl
theorem zd_110 : zd_P 110 := zd_of (k := 8) (j := 38) (y := yX9_untie) (b := cX9_untie) (n := 3) (rt := (some .int)) (by decide +kernel) rfl (by decide +kernel) (by decide +kernel) rfl
theorem zd_111 : zd_P 111 := zd_of (k := 8) (j := 42) (y := yX9_led) (b := cX9_led) (n := 2) (rt := (some .int)) (by decide +kernel) rfl (by decide +kernel) (by decide +kernel) rfl
theorem zd_112 : zd_P 112 := zd_of (k := 8) (j := 46) (y := yX9_image) (b := cX9_image) (n := 1) (rt := (some .int)) (by decide +kernel) rfl (by decide +kernel) (by decide +kernel) rfl
theorem zd_113 : zd_P 113 := zd_of (k := 8) (j := 59) (y := yX9_back) (b := cX9_back) (n := 1) (rt := (some .int)) (by decide +kernel) rfl (by decide +kernel) (by decide +kernel) rfl
theorem zd_114 : zd_P 114 := zd_of (k := 8) (j := 68) (y := yX9_undo) (b := cX9_undo) (n := 1) (rt := (some .int)) (by decide +kernel) rfl (by decide +kernel) (by decide +kernel) rfl
theorem zd_115 : zd_P 115 := zd_of (k := 8) (j := 77) (y := yX9_redo) (b := cX9_redo) (n := 1) (rt := (some .int)) (by decide +kernel) rfl (by decide +kernel) (by decide +kernel) rfl
theorem zd_116 : zd_P 116 := zd_of (k := 8) (j := 85) (y := yX9_body) (b := cX9_body) (n := 2) (rt := (some .int)) (by decide +kernel) rfl (by decide +kernel) (by decide +kernel) rfl
theorem zd_117 : zd_P 117 := zd_of (k := 8) (j := 96) (y := yX9_act) (b := cX9_act) (n := 4) (rt := (some .int)) (by decide +kernel) rfl (by decide +kernel) (by decide +kernel) rfl
theorem zd_118 : zd_P 118 := zd_of (k := 8) (j := 138) (y := yX9_trace) (b := cX9_trace) (n := 2) (rt := (some .int)) (by decide +kernel) rfl (by decide +kernel) (by decide +kernel) rfl
theorem zd_119 : zd_P 119 := zd_of (k := 8) (j := 142) (y := yX9_keep) (b := cX9_keep) (n := 3) (rt := (some .int)) (by decide +kernel) rfl (by decide +kernel) (by decide +kernel) rfl
theorem zd_120 : zd_P 120 := zd_of (k := 8) (j := 150) (y := yX9_row) (b := cX9_row) (n := 4) (rt := (some .int)) (by decide +kernel) rfl (by decide +kernel) (by decide +kernel) rfl
theorem zd_121 : zd_P 121 := zd_of (k := 8) (j := 163) (y := yX9_put) (b := cX9_put) (n := 6) (rt := (some .int)) (by decide +kernel) rfl (by decide +kernel) (by decide +kernel) rfl
theorem zd_122 : zd_P 122 := zd_of (k := 8) (j := 180) (y := yX9_element) (b := cX9_element) (n := 3) (rt := (some .long)) (by decide +kernel) rfl (by decide +kernel) (by decide +kernel) rfl
theorem zd_123 : zd_P 123 := zd_of (k := 8) (j := 185) (y := yX9_shift) (b := cX9_shift) (n := 8) (rt := (some .int)) (by decide +kernel) rfl (by decide +kernel) (by decide +kernel) rfl
theorem zd_124 : zd_P 124 := zd_of (k := 8) (j := 192) (y := yX9_taken) (b := cX9_taken) (n := 4) (rt := (some .int)) (by decide +kernel) rfl (by decide +kernel) (by decide +kernel) rfl
theorem zd_125 : zd_P 125 := zd_of (k := 8) (j := 201) (y := yX9_count) (b := cX9_count) (n := 2) (rt := (some .int)) (by decide +kernel) rfl (by decide +kernel) (by decide +kernel) rfl
theorem zd_126 : zd_P 126 := zd_of (k := 6) (j := 86) (y := yX9_isAllowed) (b := cX9_isAllowed) (n := 2) (rt := (some .boolean)) (by decide +kernel) rfl (by decide +kernel) (by decide +kernel) rfl
theorem zd_127 : zd_P 127 := zd_of (k := 6) (j := 145) (y := yX9_isBeginning) (b := cX9_isBeginning) (n := 1) (rt := (some .boolean)) (by decide +kernel) rfl (by decide +kernel) (by decide +kernel) rfl
theorem zd_128 : zd_P 128 := zd_of (k := 7) (j := 100) (y := yX9_isStart) (b := cX9_isStart) (n := 1) (rt := (some .boolean)) (by decide +kernel) rfl (by decide +kernel) (by decide +kernel) rfl
theorem zd_129 : zd_P 129 := zd_of (k := 6) (j := 114) (y := yX9_isShelf) (b := cX9_isShelf) (n := 1) (rt := (some .boolean)) (by decide +kernel) rfl (by decide +kernel) (by decide +kernel) rfl
theorem zd_130 : zd_P 130 := zd_of (k := 7) (j := 6) (y := yX9_isKnot) (b := cX9_isKnot) (n := 1) (rt := (some .boolean)) (by decide +kernel) rfl (by decide +kernel) (by decide +kernel) rfl
theorem zd_131 : zd_P 131 := zd_of (k := 8) (j := 88) (y := yX9_isKind) (b := cX9_isKind) (n := 1) (rt := (some .boolean)) (by decide +kernel) rfl (by decide +kernel) (by decide +kernel) rfl
theorem zd_132 : zd_P 132 := zd_of (k := 7) (j := 3) (y := yX9_isTieInKnot) (b := cX9_isTieInKnot) (n := 2) (rt := (some .boolean)) (by decide +kernel) rfl (by decide +kernel) (by decide +kernel) rfl
theorem zd_133 : zd_P 133 := zd_of (k := 7) (j := 11) (y := yX9_hung) (b := cX9_hung) (n := 2) (rt := (some (.object "EndTooLong$Hanging"))) (by decide +kernel) rfl (by decide +kernel) (by decide +kernel) rfl
theorem zd_134 : zd_P 134 := zd_of (k := 6) (j := 130) (y := yX9_tieCame) (b := cX9_tieCame) (n := 6) (rt := (some .boolean)) (by decide +kernel) rfl (by decide +kernel) (by decide +kernel) rfl
theorem zd_135 : zd_P 135 := zd_of (k := 7) (j := 145) (y := yX9_minutesOf) (b := cX9_minutesOf) (n := 4) (rt := (some .int)) (by decide +kernel) rfl (by decide +kernel) (by decide +kernel) rfl
theorem zd_136 : zd_P 136 := zd_of (k := 7) (j := 161) (y := yX9_gather) (b := cX9_gather) (n := 5) (rt := none) (by decide +kernel) rfl (by decide +kernel) (by decide +kernel) rfl
theorem zd_137 : zd_P 137 := zd_of (k := 7) (j := 157) (y := yX9_refusalOfRow) (b := cX9_refusalOfRow) (n := 3) (rt := (some .int)) (by decide +kernel) rfl (by decide +kernel) (by decide +kernel) rfl
theorem zd_138 : zd_P 138 := zd_of (k := 7) (j := 153) (y := yX9_refusalOfDressing) (b := cX9_refusalOfDressing) (n := 4) (rt := (some .int)) (by decide +kernel) rfl (by decide +kernel) (by decide +kernel) rfl
theorem zd_139 : zd_P 139 := zd_of (k := 8) (j := 3) (y := yX9_refusalOfTries) (b := cX9_refusalOfTries) (n := 3) (rt := (some .int)) (by decide +kernel) rfl (by decide +kernel) (by decide +kernel) rfl
theorem zd_140 : zd_P 140 := zd_of (k := 8) (j := 167) (y := yX9_refusalOfPlace) (b := cX9_refusalOfPlace) (n := 3) (rt := (some .int)) (by decide +kernel) rfl (by decide +kernel) (by decide +kernel) rfl
theorem zd_141 : zd_P 141 := zd_of (k := 9) (j := 147) (y := yX10_within) (b := cX10_within) (n := 3) (rt := (some .boolean)) (by decide +kernel) rfl (by decide +kernel) (by decide +kernel) rfl
theorem zd_142 : zd_P 142 := zd_of (k := 9) (j := 181) (y := yX10_isTie) (b := cX10_isTie) (n := 2) (rt := (some .boolean)) (by decide +kernel) rfl (by decide +kernel) (by decide +kernel) rfl
theorem zd_143 : zd_P 143 := zd_of (k := 9) (j := 184) (y := yX10_isKnot) (b := cX10_isKnot) (n := 1) (rt := (some .boolean)) (by decide +kernel) rfl (by decide +kernel) (by decide +kernel) rfl
theorem zd_144 : zd_P 144 := zd_of (k := 9) (j := 188) (y := yX10_isTier) (b := cX10_isTier) (n := 2) (rt := (some .boolean)) (by decide +kernel) rfl (by decide +kernel) (by decide +kernel) rfl
theorem zd_145 : zd_P 145 := zd_of (k := 10) (j := 34) (y := yX10_isTied) (b := cX10_isTied) (n := 2) (rt := (some .boolean)) (by decide +kernel) rfl (by decide +kernel) (by decide +kernel) rfl
theorem zd_146 : zd_P 146 := zd_of (k := 9) (j := 169) (y := yX10_isPlace) (b := cX10_isPlace) (n := 1) (rt := (some .boolean)) (by decide +kernel) rfl (by decide +kernel) (by decide +kernel) rfl
theorem zd_147 : zd_P 147 := zd_of (k := 9) (j := 166) (y := yX10_isShare) (b := cX10_isShare) (n := 1) (rt := (some .boolean)) (by decide +kernel) rfl (by decide +kernel) (by decide +kernel) rfl
theorem zd_148 : zd_P 148 := zd_of (k := 10) (j := 79) (y := yX10_isTry) (b := cX10_isTry) (n := 1) (rt := (some .boolean)) (by decide +kernel) rfl (by decide +kernel) (by decide +kernel) rfl
theorem zd_149 : zd_P 149 := zd_of (k := 9) (j := 158) (y := yX10_isShelf) (b := cX10_isShelf) (n := 1) (rt := (some .boolean)) (by decide +kernel) rfl (by decide +kernel) (by decide +kernel) rfl
theorem zd_150 : zd_P 150 := zd_of (k := 9) (j := 151) (y := yX10_newTie) (b := cX10_newTie) (n := 4) (rt := (some .int)) (by decide +kernel) rfl (by decide +kernel) (by decide +kernel) rfl
theorem zd_151 : zd_P 151 := zd_of (k := 9) (j := 144) (y := yX10_tie) (b := cX10_tie) (n := 3) (rt := (some .int)) (by decide +kernel) rfl (by decide +kernel) (by decide +kernel) rfl
theorem zd_152 : zd_P 152 := zd_of (k := 9) (j := 155) (y := yX10_ties) (b := cX10_ties) (n := 9) (rt := (some .int)) (by decide +kernel) rfl (by decide +kernel) (by decide +kernel) rfl
theorem zd_153 : zd_P 153 := zd_of (k := 9) (j := 163) (y := yX10_tier) (b := cX10_tier) (n := 3) (rt := (some .int)) (by decide +kernel) rfl (by decide +kernel) (by decide +kernel) rfl
theorem zd_154 : zd_P 154 := zd_of (k := 9) (j := 177) (y := yX10_isOf) (b := cX10_isOf) (n := 3) (rt := (some .boolean)) (by decide +kernel) rfl (by decide +kernel) (by decide +kernel) rfl
theorem zd_155 : zd_P 155 := zd_of (k := 9) (j := 191) (y := yX10_isFit) (b := cX10_isFit) (n := 2) (rt := (some .boolean)) (by decide +kernel) rfl (by decide +kernel) (by decide +kernel) rfl
theorem zd_156 : zd_P 156 := zd_of (k := 9) (j := 195) (y := yX10_get) (b := cX10_get) (n := 3) (rt := (some .int)) (by decide +kernel) rfl (by decide +kernel) (by decide +kernel) rfl
theorem zd_157 : zd_P 157 := zd_of (k := 9) (j := 199) (y := yX10_becomes) (b := cX10_becomes) (n := 4) (rt := none) (by decide +kernel) rfl (by decide +kernel) (by decide +kernel) rfl
theorem zd_158 : zd_P 158 := zd_of (k := 9) (j := 173) (y := yX10_mend) (b := cX10_mend) (n := 6) (rt := (some .int)) (by decide +kernel) rfl (by decide +kernel) (by decide +kernel) rfl
theorem zd_159 : zd_P 159 := zd_of (k := 9) (j := 203) (y := yX10_of) (b := cX10_of) (n := 3) (rt := (some .int)) (by decide +kernel) rfl (by decide +kernel) (by decide +kernel) rfl
theorem zd_160 : zd_P 160 := zd_of (k := 9) (j := 207) (y := yX10_undo) (b := cX10_undo) (n := 1) (rt := (some .int)) (by decide +kernel) rfl (by decide +kernel) (by decide +kernel) rfl
theorem zd_161 : zd_P 161 := zd_of (k := 9) (j := 211) (y := yX10_redo) (b := cX10_redo) (n := 1) (rt := (some .int)) (by decide +kernel) rfl (by decide +kernel) (by decide +kernel) rfl
theorem zd_162 : zd_P 162 := zd_of (k := 9) (j := 215) (y := yX10_feed) (b := cX10_feed) (n := 2) (rt := (some .int)) (by decide +kernel) rfl (by decide +kernel) (by decide +kernel) rfl
theorem zd_163 : zd_P 163 := zd_of (k := 10) (j := 15) (y := yX10_sign) (b := cX10_sign) (n := 1) (rt := (some .int)) (by decide +kernel) rfl (by decide +kernel) (by decide +kernel) rfl
theorem zd_164 : zd_P 164 := zd_of (k := 10) (j := 26) (y := yX10_is) (b := cX10_is) (n := 2) (rt := (some .boolean)) (by decide +kernel) rfl (by decide +kernel) (by decide +kernel) rfl
theorem zd_165 : zd_P 165 := zd_of (k := 10) (j := 19) (y := yX10_codes) (b := cX10_codes) (n := 2) (rt := (some .boolean)) (by decide +kernel) rfl (by decide +kernel) (by decide +kernel) rfl
theorem zd_166 : zd_P 166 := zd_of (k := 10) (j := 11) (y := yX10_isDigit) (b := cX10_isDigit) (n := 1) (rt := (some .boolean)) (by decide +kernel) rfl (by decide +kernel) (by decide +kernel) rfl
theorem zd_167 : zd_P 167 := zd_of (k := 10) (j := 22) (y := yX10_nameOf) (b := cX10_nameOf) (n := 1) (rt := (some .int)) (by decide +kernel) rfl (by decide +kernel) (by decide +kernel) rfl
theorem zd_168 : zd_P 168 := zd_of (k := 10) (j := 7) (y := yX10_isO) (b := cX10_isO) (n := 3) (rt := (some .boolean)) (by decide +kernel) rfl (by decide +kernel) (by decide +kernel) rfl
theorem zd_169 : zd_P 169 := zd_of (k := 10) (j := 3) (y := yX10_isP) (b := cX10_isP) (n := 2) (rt := (some .boolean)) (by decide +kernel) rfl (by decide +kernel) (by decide +kernel) rfl
theorem zd_170 : zd_P 170 := zd_of (k := 9) (j := 239) (y := yX10_isS) (b := cX10_isS) (n := 2) (rt := (some .boolean)) (by decide +kernel) rfl (by decide +kernel) (by decide +kernel) rfl
theorem zd_171 : zd_P 171 := zd_of (k := 9) (j := 235) (y := yX10_isB) (b := cX10_isB) (n := 2) (rt := (some .boolean)) (by decide +kernel) rfl (by decide +kernel) (by decide +kernel) rfl
theorem zd_172 : zd_P 172 := zd_of (k := 9) (j := 231) (y := yX10_isA) (b := cX10_isA) (n := 1) (rt := (some .boolean)) (by decide +kernel) rfl (by decide +kernel) (by decide +kernel) rfl
theorem zd_173 : zd_P 173 := zd_of (k := 9) (j := 227) (y := yX10_isE) (b := cX10_isE) (n := 1) (rt := (some .boolean)) (by decide +kernel) rfl (by decide +kernel) (by decide +kernel) rfl
theorem zd_174 : zd_P 174 := zd_of (k := 9) (j := 223) (y := yX10_isLine) (b := cX10_isLine) (n := 1) (rt := (some .boolean)) (by decide +kernel) rfl (by decide +kernel) (by decide +kernel) rfl
theorem zd_175 : zd_P 175 := zd_of (k := 9) (j := 219) (y := yX10_law) (b := cX10_law) (n := 4) (rt := (some .int)) (by decide +kernel) rfl (by decide +kernel) (by decide +kernel) rfl
theorem zd_176 : zd_P 176 := zd_of (k := 10) (j := 46) (y := yX10_both) (b := cX10_both) (n := 3) (rt := (some .int)) (by decide +kernel) rfl (by decide +kernel) (by decide +kernel) rfl
theorem zd_177 : zd_P 177 := zd_of (k := 10) (j := 43) (y := yX10_worked) (b := cX10_worked) (n := 9) (rt := (some .int)) (by decide +kernel) rfl (by decide +kernel) (by decide +kernel) rfl
theorem zd_178 : zd_P 178 := zd_of (k := 10) (j := 38) (y := yX10_cloth) (b := cX10_cloth) (n := 5) (rt := (some .int)) (by decide +kernel) rfl (by decide +kernel) (by decide +kernel) rfl
theorem zd_179 : zd_P 179 := zd_of (k := 10) (j := 51) (y := yX10_thin) (b := cX10_thin) (n := 3) (rt := (some .int)) (by decide +kernel) rfl (by decide +kernel) (by decide +kernel) rfl
theorem zd_180 : zd_P 180 := zd_of (k := 10) (j := 55) (y := yX10_isRight) (b := cX10_isRight) (n := 4) (rt := (some .boolean)) (by decide +kernel) rfl (by decide +kernel) (by decide +kernel) rfl
theorem zd_181 : zd_P 181 := zd_of (k := 10) (j := 68) (y := yX10_hangsRight) (b := cX10_hangsRight) (n := 4) (rt := (some .boolean)) (by decide +kernel) rfl (by decide +kernel) (by decide +kernel) rfl
theorem zd_182 : zd_P 182 := zd_of (k := 10) (j := 30) (y := yX10_hangs) (b := cX10_hangs) (n := 5) (rt := (some .int)) (by decide +kernel) rfl (by decide +kernel) (by decide +kernel) rfl
theorem zd_183 : zd_P 183 := zd_of (k := 10) (j := 64) (y := yX10_rights) (b := cX10_rights) (n := 8) (rt := (some .int)) (by decide +kernel) rfl (by decide +kernel) (by decide +kernel) rfl
theorem zd_184 : zd_P 184 := zd_of (k := 10) (j := 60) (y := yX10_where) (b := cX10_where) (n := 3) (rt := (some .int)) (by decide +kernel) rfl (by decide +kernel) (by decide +kernel) rfl
theorem zd_185 : zd_P 185 := zd_of (k := 10) (j := 72) (y := yX10_knot) (b := cX10_knot) (n := 8) (rt := (some .int)) (by decide +kernel) rfl (by decide +kernel) (by decide +kernel) rfl
theorem zd_186 : zd_P 186 := zd_of (k := 10) (j := 87) (y := yX10_next) (b := cX10_next) (n := 5) (rt := (some .int)) (by decide +kernel) rfl (by decide +kernel) (by decide +kernel) rfl
theorem zd_187 : zd_P 187 := zd_of (k := 10) (j := 83) (y := yX10_tries) (b := cX10_tries) (n := 7) (rt := (some .int)) (by decide +kernel) rfl (by decide +kernel) (by decide +kernel) rfl
theorem zd_188 : zd_P 188 := zd_of (k := 10) (j := 76) (y := yX10_correct) (b := cX10_correct) (n := 5) (rt := (some .int)) (by decide +kernel) rfl (by decide +kernel) (by decide +kernel) rfl
theorem zd_189 : zd_P 189 := zd_of (k := 10) (j := 91) (y := yX10_share) (b := cX10_share) (n := 7) (rt := (some .int)) (by decide +kernel) rfl (by decide +kernel) (by decide +kernel) rfl
theorem zd_190 : zd_P 190 := zd_of (k := 10) (j := 95) (y := yX10_bow) (b := cX10_bow) (n := 7) (rt := (some .int)) (by decide +kernel) rfl (by decide +kernel) (by decide +kernel) rfl
theorem zd_191 : zd_P 191 := zd_of (k := 10) (j := 103) (y := yX10_stained) (b := cX10_stained) (n := 5) (rt := (some .int)) (by decide +kernel) rfl (by decide +kernel) (by decide +kernel) rfl
theorem zd_192 : zd_P 192 := zd_of (k := 10) (j := 99) (y := yX10_stain) (b := cX10_stain) (n := 3) (rt := (some .int)) (by decide +kernel) rfl (by decide +kernel) (by decide +kernel) rfl
theorem zd_193 : zd_P 193 := zd_of (k := 10) (j := 107) (y := yX10_hide) (b := cX10_hide) (n := 3) (rt := (some .int)) (by decide +kernel) rfl (by decide +kernel) (by decide +kernel) rfl
theorem zd_194 : zd_P 194 := zd_of (k := 10) (j := 111) (y := yX10_fit) (b := cX10_fit) (n := 6) (rt := (some .int)) (by decide +kernel) rfl (by decide +kernel) (by decide +kernel) rfl
theorem zd_195 : zd_P 195 := zd_of (k := 10) (j := 115) (y := yX10_wear) (b := cX10_wear) (n := 7) (rt := (some .int)) (by decide +kernel) rfl (by decide +kernel) (by decide +kernel) rfl
theorem zd_196 : zd_P 196 := zd_of (k := 10) (j := 123) (y := yX10_takesFor) (b := cX10_takesFor) (n := 5) (rt := (some .int)) (by decide +kernel) rfl (by decide +kernel) (by decide +kernel) rfl
theorem zd_197 : zd_P 197 := zd_of (k := 10) (j := 119) (y := yX10_takes) (b := cX10_takes) (n := 3) (rt := (some .int)) (by decide +kernel) rfl (by decide +kernel) (by decide +kernel) rfl
theorem zd_198 : zd_P 198 := zd_of (k := 10) (j := 131) (y := yX10_noRow) (b := cX10_noRow) (n := 3) (rt := (some .int)) (by decide +kernel) rfl (by decide +kernel) (by decide +kernel) rfl
theorem zd_199 : zd_P 199 := zd_of (k := 10) (j := 139) (y := yX10_told) (b := cX10_told) (n := 3) (rt := (some .int)) (by decide +kernel) rfl (by decide +kernel) (by decide +kernel) rfl
theorem zd_200 : zd_P 200 := zd_of (k := 10) (j := 135) (y := yX10_reads) (b := cX10_reads) (n := 5) (rt := none) (by decide +kernel) rfl (by decide +kernel) (by decide +kernel) rfl
theorem zd_201 : zd_P 201 := zd_of (k := 10) (j := 143) (y := yX10_dresses) (b := cX10_dresses) (n := 7) (rt := (some .int)) (by decide +kernel) rfl (by decide +kernel) (by decide +kernel) rfl
theorem zd_202 : zd_P 202 := zd_of (k := 10) (j := 127) (y := yX10_six) (b := cX10_six) (n := 6) (rt := (some .int)) (by decide +kernel) rfl (by decide +kernel) (by decide +kernel) rfl
theorem zd_203 : zd_P 203 := zd_of (k := 10) (j := 147) (y := yX10_order) (b := cX10_order) (n := 9) (rt := (some .int)) (by decide +kernel) rfl (by decide +kernel) (by decide +kernel) rfl
theorem zd_204 : zd_P 204 := zd_of (k := 10) (j := 151) (y := yX10_nextOrder) (b := cX10_nextOrder) (n := 5) (rt := (some .boolean)) (by decide +kernel) rfl (by decide +kernel) (by decide +kernel) rfl
theorem zd_205 : zd_P 205 := zd_of (k := 10) (j := 155) (y := yX10_exchange) (b := cX10_exchange) (n := 4) (rt := none) (by decide +kernel) rfl (by decide +kernel) (by decide +kernel) rfl
theorem zd_206 : zd_P 206 := zd_of (k := 10) (j := 159) (y := yX10_taxi) (b := cX10_taxi) (n := 7) (rt := (some .int)) (by decide +kernel) rfl (by decide +kernel) (by decide +kernel) rfl
theorem zd_207 : zd_P 207 := zd_of (k := 10) (j := 163) (y := yX10_oneMore) (b := cX10_oneMore) (n := 5) (rt := (some .int)) (by decide +kernel) rfl (by decide +kernel) (by decide +kernel) rfl
theorem zd_208 : zd_P 208 := zd_of (k := 10) (j := 171) (y := yX10_wrong) (b := cX10_wrong) (n := 10) (rt := (some .int)) (by decide +kernel) rfl (by decide +kernel) (by decide +kernel) rfl
theorem zd_209 : zd_P 209 := zd_of (k := 10) (j := 167) (y := yX10_judge) (b := cX10_judge) (n := 5) (rt := (some .int)) (by decide +kernel) rfl (by decide +kernel) (by decide +kernel) rfl
theorem zd_210 : zd_P 210 := zd_of (k := 10) (j := 175) (y := yX10_which) (b := cX10_which) (n := 7) (rt := (some .int)) (by decide +kernel) rfl (by decide +kernel) (by decide +kernel) rfl
theorem zd_211 : zd_P 211 := zd_of (k := 10) (j := 179) (y := yX10_began) (b := cX10_began) (n := 6) (rt := (some .int)) (by decide +kernel) rfl (by decide +kernel) (by decide +kernel) rfl
theorem zd_212 : zd_P 212 := zd_of (k := 10) (j := 183) (y := yX10_thickness) (b := cX10_thickness) (n := 9) (rt := (some .int)) (by decide +kernel) rfl (by decide +kernel) (by decide +kernel) rfl
theorem zd_213 : zd_P 213 := zd_of (k := 10) (j := 187) (y := yX10_drawn) (b := cX10_drawn) (n := 13) (rt := (some .int)) (by decide +kernel) rfl (by decide +kernel) (by decide +kernel) rfl
theorem zd_214 : zd_P 214 := zd_of (k := 10) (j := 192) (y := yX10_tieOn) (b := cX10_tieOn) (n := 5) (rt := (some .int)) (by decide +kernel) rfl (by decide +kernel) (by decide +kernel) rfl
theorem zd_215 : zd_P 215 := zd_of (k := 10) (j := 196) (y := yX10_untie) (b := cX10_untie) (n := 3) (rt := (some .int)) (by decide +kernel) rfl (by decide +kernel) (by decide +kernel) rfl
theorem zd_216 : zd_P 216 := zd_of (k := 10) (j := 200) (y := yX10_led) (b := cX10_led) (n := 2) (rt := (some .int)) (by decide +kernel) rfl (by decide +kernel) (by decide +kernel) rfl
theorem zd_217 : zd_P 217 := zd_of (k := 10) (j := 204) (y := yX10_image) (b := cX10_image) (n := 2) (rt := (some .int)) (by decide +kernel) rfl (by decide +kernel) (by decide +kernel) rfl
theorem zd_218 : zd_P 218 := zd_of (k := 10) (j := 208) (y := yX10_back) (b := cX10_back) (n := 2) (rt := (some .int)) (by decide +kernel) rfl (by decide +kernel) (by decide +kernel) rfl
theorem zd_219 : zd_P 219 := zd_of (k := 10) (j := 227) (y := yX10_above) (b := cX10_above) (n := 1) (rt := (some .int)) (by decide +kernel) rfl (by decide +kernel) (by decide +kernel) rfl
theorem zd_220 : zd_P 220 := zd_of (k := 10) (j := 224) (y := yX10_ran) (b := cX10_ran) (n := 2) (rt := none) (by decide +kernel) rfl (by decide +kernel) (by decide +kernel) rfl
theorem zd_221 : zd_P 221 := zd_of (k := 10) (j := 220) (y := yX10_lies) (b := cX10_lies) (n := 4) (rt := (some .int)) (by decide +kernel) rfl (by decide +kernel) (by decide +kernel) rfl
theorem zd_222 : zd_P 222 := zd_of (k := 10) (j := 231) (y := yX10_tookBy) (b := cX10_tookBy) (n := 5) (rt := (some .int)) (by decide +kernel) rfl (by decide +kernel) (by decide +kernel) rfl
theorem zd_223 : zd_P 223 := zd_of (k := 10) (j := 235) (y := yX10_slipped) (b := cX10_slipped) (n := 5) (rt := (some .int)) (by decide +kernel) rfl (by decide +kernel) (by decide +kernel) rfl
theorem zd_224 : zd_P 224 := zd_of (k := 10) (j := 239) (y := yX10_tells) (b := cX10_tells) (n := 5) (rt := (some .int)) (by decide +kernel) rfl (by decide +kernel) (by decide +kernel) rfl
theorem zd_225 : zd_P 225 := zd_of (k := 10) (j := 212) (y := yX10_body) (b := cX10_body) (n := 2) (rt := (some .int)) (by decide +kernel) rfl (by decide +kernel) (by decide +kernel) rfl
theorem zd_226 : zd_P 226 := zd_of (k := 10) (j := 216) (y := yX10_act) (b := cX10_act) (n := 5) (rt := (some .int)) (by decide +kernel) rfl (by decide +kernel) (by decide +kernel) rfl
theorem zd_227 : zd_P 227 := zd_of (k := 11) (j := 3) (y := yX10_trace) (b := cX10_trace) (n := 2) (rt := (some .int)) (by decide +kernel) rfl (by decide +kernel) (by decide +kernel) rfl
theorem zd_228 : zd_P 228 := zd_of (k := 11) (j := 7) (y := yX10_keep) (b := cX10_keep) (n := 3) (rt := (some .int)) (by decide +kernel) rfl (by decide +kernel) (by decide +kernel) rfl
theorem zd_229 : zd_P 229 := zd_of (k := 11) (j := 11) (y := yX10_row) (b := cX10_row) (n := 5) (rt := (some .int)) (by decide +kernel) rfl (by decide +kernel) (by decide +kernel) rfl
theorem zd_230 : zd_P 230 := zd_of (k := 11) (j := 19) (y := yX10_isRow) (b := cX10_isRow) (n := 2) (rt := (some .boolean)) (by decide +kernel) rfl (by decide +kernel) (by decide +kernel) rfl
theorem zd_231 : zd_P 231 := zd_of (k := 11) (j := 22) (y := yX10_kept) (b := cX10_kept) (n := 3) (rt := (some .long)) (by decide +kernel) rfl (by decide +kernel) (by decide +kernel) rfl
theorem zd_232 : zd_P 232 := zd_of (k := 11) (j := 15) (y := yX10_put) (b := cX10_put) (n := 5) (rt := (some .int)) (by decide +kernel) rfl (by decide +kernel) (by decide +kernel) rfl
theorem zd_233 : zd_P 233 := zd_of (k := 11) (j := 26) (y := yX10_element) (b := cX10_element) (n := 3) (rt := (some .long)) (by decide +kernel) rfl (by decide +kernel) (by decide +kernel) rfl
theorem zd_234 : zd_P 234 := zd_of (k := 11) (j := 31) (y := yX10_shift) (b := cX10_shift) (n := 7) (rt := (some .int)) (by decide +kernel) rfl (by decide +kernel) (by decide +kernel) rfl
theorem zd_235 : zd_P 235 := zd_of (k := 11) (j := 35) (y := yX10_taken) (b := cX10_taken) (n := 5) (rt := (some .int)) (by decide +kernel) rfl (by decide +kernel) (by decide +kernel) rfl
theorem zd_236 : zd_P 236 := zd_of (k := 11) (j := 39) (y := yX10_count) (b := cX10_count) (n := 2) (rt := (some .int)) (by decide +kernel) rfl (by decide +kernel) (by decide +kernel) rfl
theorem zd_237 : zd_P 237 := zd_of (k := 8) (j := 159) (y := yJ7_fill_d0a16) (b := cJ7_fill_d0a16) (n := 5) (rt := none) (by decide +kernel) rfl (by decide +kernel) (by decide +kernel) rfl
theorem zd_238 : zd_P 238 := zd_of (k := 7) (j := 189) (y := yJ7_fill_53178) (b := cJ7_fill_53178) (n := 4) (rt := none) (by decide +kernel) rfl (by decide +kernel) (by decide +kernel) rfl
theorem zd_all : zd_M 0 239 := zd_both (zd_both (zd_both (zd_both (zd_both (zd_both (zd_both (zd_one zd_0) (zd_both (zd_one zd_1) (zd_one zd_2))) (zd_both (zd_both (zd_one zd_3) (zd_one zd_4)) (zd_both (zd_one zd_5) (zd_one zd_6)))) (zd_both (zd_both (zd_one zd_7) (zd_both (zd_one zd_8) (zd_one zd_9))) (zd_both (zd_both (zd_one zd_10) (zd_one zd_11)) (zd_both (zd_one zd_12) (zd_one zd_13))))) (zd_both (zd_both (zd_both (zd_one zd_14) (zd_both (zd_one zd_15) (zd_one zd_16))) (zd_both (zd_both (zd_one zd_17) (zd_one zd_18)) (zd_both (zd_one zd_19) (zd_one zd_20)))) (zd_both (zd_both (zd_both (zd_one zd_21) (zd_one zd_22)) (zd_both (zd_one zd_23) (zd_one zd_24))) (zd_both (zd_both (zd_one zd_25) (zd_one zd_26)) (zd_both (zd_one zd_27) (zd_one zd_28)))))) (zd_both (zd_both (zd_both (zd_both (zd_one zd_29) (zd_both (zd_one zd_30) (zd_one zd_31))) (zd_both (zd_both (zd_one zd_32) (zd_one zd_33)) (zd_both (zd_one zd_34) (zd_one zd_35)))) (zd_both (zd_both (zd_both (zd_one zd_36) (zd_one zd_37)) (zd_both (zd_one zd_38) (zd_one zd_39))) (zd_both (zd_both (zd_one zd_40) (zd_one zd_41)) (zd_both (zd_one zd_42) (zd_one zd_43))))) (zd_both (zd_both (zd_both (zd_one zd_44) (zd_both (zd_one zd_45) (zd_one zd_46))) (zd_both (zd_both (zd_one zd_47) (zd_one zd_48)) (zd_both (zd_one zd_49) (zd_one zd_50)))) (zd_both (zd_both (zd_both (zd_one zd_51) (zd_one zd_52)) (zd_both (zd_one zd_53) (zd_one zd_54))) (zd_both (zd_both (zd_one zd_55) (zd_one zd_56)) (zd_both (zd_one zd_57) (zd_one zd_58))))))) (zd_both (zd_both (zd_both (zd_both (zd_both (zd_one zd_59) (zd_both (zd_one zd_60) (zd_one zd_61))) (zd_both (zd_both (zd_one zd_62) (zd_one zd_63)) (zd_both (zd_one zd_64) (zd_one zd_65)))) (zd_both (zd_both (zd_both (zd_one zd_66) (zd_one zd_67)) (zd_both (zd_one zd_68) (zd_one zd_69))) (zd_both (zd_both (zd_one zd_70) (zd_one zd_71)) (zd_both (zd_one zd_72) (zd_one zd_73))))) (zd_both (zd_both (zd_both (zd_one zd_74) (zd_both (zd_one zd_75) (zd_one zd_76))) (zd_both (zd_both (zd_one zd_77) (zd_one zd_78)) (zd_both (zd_one zd_79) (zd_one zd_80)))) (zd_both (zd_both (zd_both (zd_one zd_81) (zd_one zd_82)) (zd_both (zd_one zd_83) (zd_one zd_84))) (zd_both (zd_both (zd_one zd_85) (zd_one zd_86)) (zd_both (zd_one zd_87) (zd_one zd_88)))))) (zd_both (zd_both (zd_both (zd_both (zd_one zd_89) (zd_both (zd_one zd_90) (zd_one zd_91))) (zd_both (zd_both (zd_one zd_92) (zd_one zd_93)) (zd_both (zd_one zd_94) (zd_one zd_95)))) (zd_both (zd_both (zd_both (zd_one zd_96) (zd_one zd_97)) (zd_both (zd_one zd_98) (zd_one zd_99))) (zd_both (zd_both (zd_one zd_100) (zd_one zd_101)) (zd_both (zd_one zd_102) (zd_one zd_103))))) (zd_both (zd_both (zd_both (zd_one zd_104) (zd_both (zd_one zd_105) (zd_one zd_106))) (zd_both (zd_both (zd_one zd_107) (zd_one zd_108)) (zd_both (zd_one zd_109) (zd_one zd_110)))) (zd_both (zd_both (zd_both (zd_one zd_111) (zd_one zd_112)) (zd_both (zd_one zd_113) (zd_one zd_114))) (zd_both (zd_both (zd_one zd_115) (zd_one zd_116)) (zd_both (zd_one zd_117) (zd_one zd_118)))))))) (zd_both (zd_both (zd_both (zd_both (zd_both (zd_both (zd_one zd_119) (zd_both (zd_one zd_120) (zd_one zd_121))) (zd_both (zd_both (zd_one zd_122) (zd_one zd_123)) (zd_both (zd_one zd_124) (zd_one zd_125)))) (zd_both (zd_both (zd_both (zd_one zd_126) (zd_one zd_127)) (zd_both (zd_one zd_128) (zd_one zd_129))) (zd_both (zd_both (zd_one zd_130) (zd_one zd_131)) (zd_both (zd_one zd_132) (zd_one zd_133))))) (zd_both (zd_both (zd_both (zd_one zd_134) (zd_both (zd_one zd_135) (zd_one zd_136))) (zd_both (zd_both (zd_one zd_137) (zd_one zd_138)) (zd_both (zd_one zd_139) (zd_one zd_140)))) (zd_both (zd_both (zd_both (zd_one zd_141) (zd_one zd_142)) (zd_both (zd_one zd_143) (zd_one zd_144))) (zd_both (zd_both (zd_one zd_145) (zd_one zd_146)) (zd_both (zd_one zd_147) (zd_one zd_148)))))) (zd_both (zd_both (zd_both (zd_both (zd_one zd_149) (zd_both (zd_one zd_150) (zd_one zd_151))) (zd_both (zd_both (zd_one zd_152) (zd_one zd_153)) (zd_both (zd_one zd_154) (zd_one zd_155)))) (zd_both (zd_both (zd_both (zd_one zd_156) (zd_one zd_157)) (zd_both (zd_one zd_158) (zd_one zd_159))) (zd_both (zd_both (zd_one zd_160) (zd_one zd_161)) (zd_both (zd_one zd_162) (zd_one zd_163))))) (zd_both (zd_both (zd_both (zd_one zd_164) (zd_both (zd_one zd_165) (zd_one zd_166))) (zd_both (zd_both (zd_one zd_167) (zd_one zd_168)) (zd_both (zd_one zd_169) (zd_one zd_170)))) (zd_both (zd_both (zd_both (zd_one zd_171) (zd_one zd_172)) (zd_both (zd_one zd_173) (zd_one zd_174))) (zd_both (zd_both (zd_one zd_175) (zd_one zd_176)) (zd_both (zd_one zd_177) (zd_one zd_178))))))) (zd_both (zd_both (zd_both (zd_both (zd_both (zd_one zd_179) (zd_both (zd_one zd_180) (zd_one zd_181))) (zd_both (zd_both (zd_one zd_182) (zd_one zd_183)) (zd_both (zd_one zd_184) (zd_one zd_185)))) (zd_both (zd_both (zd_both (zd_one zd_186) (zd_one zd_187)) (zd_both (zd_one zd_188) (zd_one zd_189))) (zd_both (zd_both (zd_one zd_190) (zd_one zd_191)) (zd_both (zd_one zd_192) (zd_one zd_193))))) (zd_both (zd_both (zd_both (zd_one zd_194) (zd_both (zd_one zd_195) (zd_one zd_196))) (zd_both (zd_both (zd_one zd_197) (zd_one zd_198)) (zd_both (zd_one zd_199) (zd_one zd_200)))) (zd_both (zd_both (zd_both (zd_one zd_201) (zd_one zd_202)) (zd_both (zd_one zd_203) (zd_one zd_204))) (zd_both (zd_both (zd_one zd_205) (zd_one zd_206)) (zd_both (zd_one zd_207) (zd_one zd_208)))))) (zd_both (zd_both (zd_both (zd_both (zd_one zd_209) (zd_both (zd_one zd_210) (zd_one zd_211))) (zd_both (zd_both (zd_one zd_212) (zd_one zd_213)) (zd_both (zd_one zd_214) (zd_one zd_215)))) (zd_both (zd_both (zd_both (zd_one zd_216) (zd_one zd_217)) (zd_both (zd_one zd_218) (zd_one zd_219))) (zd_both (zd_both (zd_one zd_220) (zd_one zd_221)) (zd_both (zd_one zd_222) (zd_one zd_223))))) (zd_both (zd_both (zd_both (zd_one zd_224) (zd_both (zd_one zd_225) (zd_one zd_226))) (zd_both (zd_both (zd_one zd_227) (zd_one zd_228)) (zd_both (zd_one zd_229) (zd_one zd_230)))) (zd_both (zd_both (zd_both (zd_one zd_231) (zd_one zd_232)) (zd_both (zd_one zd_233) (zd_one zd_234))) (zd_both (zd_both (zd_one zd_235) (zd_one zd_236)) (zd_both (zd_one zd_237) (zd_one zd_238))))))))
theorem zmath_max : Jvm.Cond.code Lib.Math.max.name Lib.Math.max.code 2 (some .int) ∈ lw_g := lw_g_of (zc_T_in 7 _ (List.mem_of_getElem? (i := 50) (by decide +kernel))) rfl
theorem zmath_min : Jvm.Cond.code Lib.Math.min.name Lib.Math.min.code 2 (some .int) ∈ lw_g := lw_g_of (zc_T_in 6 _ (List.mem_of_getElem? (i := 231) (by decide +kernel))) rfl
theorem zmath_abs : Jvm.Cond.code Lib.Math.abs.name Lib.Math.abs.code 1 (some .int) ∈ lw_g := lw_g_of (zc_T_in 7 _ (List.mem_of_getElem? (i := 62) (by decide +kernel))) rfl
theorem zu_0 : ∀ w ∈ u_ws RX0 TX0 6, w ∈ lw_g := fun w hw => lw_g_of ((by decide +kernel : ∀ w ∈ u_ws RX0 TX0 6, w ∈ lw_tbl) w hw) (List.all_eq_true.mp (by decide +kernel : (u_ws RX0 TX0 6).all goodWord = true) w hw)
theorem zu_1 : ∀ w ∈ u_ws RX1 TX1 8, w ∈ lw_g := fun w hw => lw_g_of ((by decide +kernel : ∀ w ∈ u_ws RX1 TX1 8, w ∈ lw_tbl) w hw) (List.all_eq_true.mp (by decide +kernel : (u_ws RX1 TX1 8).all goodWord = true) w hw)
theorem zu_2 : ∀ w ∈ u_ws RX2 TX2 12, w ∈ lw_g := fun w hw => lw_g_of ((by decide +kernel : ∀ w ∈ u_ws RX2 TX2 12, w ∈ lw_tbl) w hw) (List.all_eq_true.mp (by decide +kernel : (u_ws RX2 TX2 12).all goodWord = true) w hw)
theorem zu_3 : ∀ w ∈ u_ws RX3 TX3 4, w ∈ lw_g := fun w hw => lw_g_of ((by decide +kernel : ∀ w ∈ u_ws RX3 TX3 4, w ∈ lw_tbl) w hw) (List.all_eq_true.mp (by decide +kernel : (u_ws RX3 TX3 4).all goodWord = true) w hw)
theorem zu_4 : ∀ w ∈ u_ws RX4 TX4 6, w ∈ lw_g := fun w hw => lw_g_of ((by decide +kernel : ∀ w ∈ u_ws RX4 TX4 6, w ∈ lw_tbl) w hw) (List.all_eq_true.mp (by decide +kernel : (u_ws RX4 TX4 6).all goodWord = true) w hw)
theorem zu_5 : ∀ w ∈ u_ws RX5 TX5 3, w ∈ lw_g := fun w hw => lw_g_of ((by decide +kernel : ∀ w ∈ u_ws RX5 TX5 3, w ∈ lw_tbl) w hw) (List.all_eq_true.mp (by decide +kernel : (u_ws RX5 TX5 3).all goodWord = true) w hw)
theorem zu_6 : ∀ w ∈ u_ws RX6 TX6 5, w ∈ lw_g := fun w hw => lw_g_of ((by decide +kernel : ∀ w ∈ u_ws RX6 TX6 5, w ∈ lw_tbl) w hw) (List.all_eq_true.mp (by decide +kernel : (u_ws RX6 TX6 5).all goodWord = true) w hw)
theorem zu_7 : ∀ w ∈ u_ws RX7 TX7 4, w ∈ lw_g := fun w hw => lw_g_of ((by decide +kernel : ∀ w ∈ u_ws RX7 TX7 4, w ∈ lw_tbl) w hw) (List.all_eq_true.mp (by decide +kernel : (u_ws RX7 TX7 4).all goodWord = true) w hw)
theorem zu_8 : ∀ w ∈ u_ws RX8 TX8 6, w ∈ lw_g := fun w hw => lw_g_of ((by decide +kernel : ∀ w ∈ u_ws RX8 TX8 6, w ∈ lw_tbl) w hw) (List.all_eq_true.mp (by decide +kernel : (u_ws RX8 TX8 6).all goodWord = true) w hw)
theorem zu_9 : ∀ w ∈ u_ws RX9 TX9 11, w ∈ lw_g := fun w hw => lw_g_of ((by decide +kernel : ∀ w ∈ u_ws RX9 TX9 11, w ∈ lw_tbl) w hw) (List.all_eq_true.mp (by decide +kernel : (u_ws RX9 TX9 11).all goodWord = true) w hw)
theorem zu_10 : ∀ w ∈ u_ws RX10 TX10 57, w ∈ lw_g := fun w hw => lw_g_of ((by decide +kernel : ∀ w ∈ u_ws RX10 TX10 57, w ∈ lw_tbl) w hw) (List.all_eq_true.mp (by decide +kernel : (u_ws RX10 TX10 57).all goodWord = true) w hw)
