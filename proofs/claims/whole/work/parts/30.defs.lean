/-! the methods as answers of the abstract machine (entries, and places where loops come round) -/
noncomputable def fCh_add (d : Nat) (a0 : Int32) (a1 : Int32) (a2 : Int32) (a3 : Int32) (h : zm_H) : zm_R := zm_lim d 0 0 (zm_ent 0 [.ref (3), .int a0, .int a1, .int a2, .int a3]) [] h
theorem fCh_add_call (d : Nat) (a0 : Int32) (a1 : Int32) (a2 : Int32) (a3 : Int32) (h : zm_H) : zm_call (d + 1) 0 [.ref (3), .int a0, .int a1, .int a2, .int a3] h = fCh_add d a0 a1 a2 a3 h := by
  show cond (Nat.ble 5 (zm_ml 0)) (fCh_add d a0 a1 a2 a3 h) none = _
  rw [(by decide +kernel : Nat.ble 5 (zm_ml 0) = true)]
  rfl
noncomputable def fCh_stepBack (d : Nat) (h : zm_H) : zm_R := zm_lim d 1 0 (zm_ent 1 [.ref (3), .ref (1)]) [] h
theorem fCh_stepBack_call (d : Nat) (h : zm_H) : zm_call (d + 1) 1 [.ref (3), .ref (1)] h = fCh_stepBack d h := by
  show cond (Nat.ble 2 (zm_ml 1)) (fCh_stepBack d h) none = _
  rw [(by decide +kernel : Nat.ble 2 (zm_ml 1) = true)]
  rfl
noncomputable def fCh_stepOn (d : Nat) (h : zm_H) : zm_R := zm_lim d 2 0 (zm_ent 2 [.ref (3), .ref (1)]) [] h
theorem fCh_stepOn_call (d : Nat) (h : zm_H) : zm_call (d + 1) 2 [.ref (3), .ref (1)] h = fCh_stepOn d h := by
  show cond (Nat.ble 2 (zm_ml 2)) (fCh_stepOn d h) none = _
  rw [(by decide +kernel : Nat.ble 2 (zm_ml 2) = true)]
  rfl
noncomputable def fCh_forgetOldest (d : Nat) (h : zm_H) : zm_R := zm_lim d 3 0 (zm_ent 3 [.ref (3)]) [] h
noncomputable def fCh_forgetOldest_c2 (d : Nat) (x1 : Int32) (h : zm_H) : zm_R := zm_lim d 3 2 [some (.ref (3)), some (.int x1)] [] h
theorem fCh_forgetOldest_call (d : Nat) (h : zm_H) : zm_call (d + 1) 3 [.ref (3)] h = fCh_forgetOldest d h := by
  show cond (Nat.ble 1 (zm_ml 3)) (fCh_forgetOldest d h) none = _
  rw [(by decide +kernel : Nat.ble 1 (zm_ml 3) = true)]
  rfl
noncomputable def fDr_gather (d : Nat) (r0 : Nat) (a1 : Int32) (h : zm_H) : zm_R := zm_lim d 4 0 (zm_ent 4 [.ref (15), .ref r0, .int a1]) [] h
noncomputable def fDr_gather_c5 (d : Nat) (x1 : Nat) (x2 : Int32) (h : zm_H) : zm_R := zm_lim d 4 5 [some (.ref (15)), some (.ref x1), some (.int x2), none] [] h
theorem fDr_gather_call (d : Nat) (r0 : Nat) (a1 : Int32) (h : zm_H) : zm_call (d + 1) 4 [.ref (15), .ref r0, .int a1] h = fDr_gather d r0 a1 h := by
  show cond (Nat.ble 3 (zm_ml 4)) (fDr_gather d r0 a1 h) none = _
  rw [(by decide +kernel : Nat.ble 3 (zm_ml 4) = true)]
  rfl
noncomputable def fDr_time (d : Nat) (a0 : Int32) (a1 : Int32) (a2 : Int32) (h : zm_H) : zm_R := zm_lim d 5 0 (zm_ent 5 [.ref (15), .int a0, .int a1, .int a2]) [] h
theorem fDr_time_call (d : Nat) (a0 : Int32) (a1 : Int32) (a2 : Int32) (h : zm_H) : zm_call (d + 1) 5 [.ref (15), .int a0, .int a1, .int a2] h = fDr_time d a0 a1 a2 h := by
  show cond (Nat.ble 4 (zm_ml 5)) (fDr_time d a0 a1 a2 h) none = _
  rw [(by decide +kernel : Nat.ble 4 (zm_ml 5) = true)]
  rfl
noncomputable def fDr_addTierLike (d : Nat) (a0 : Int32) (a1 : Int32) (h : zm_H) : zm_R := zm_lim d 6 0 (zm_ent 6 [.ref (15), .int a0, .int a1]) [] h
noncomputable def fDr_addTierLike_c2 (d : Nat) (x1 : Int32) (x2 : Int32) (x3 : Int32) (h : zm_H) : zm_R := zm_lim d 6 2 [some (.ref (15)), some (.int x1), some (.int x2), some (.int x3)] [] h
theorem fDr_addTierLike_call (d : Nat) (a0 : Int32) (a1 : Int32) (h : zm_H) : zm_call (d + 1) 6 [.ref (15), .int a0, .int a1] h = fDr_addTierLike d a0 a1 h := by
  show cond (Nat.ble 3 (zm_ml 6)) (fDr_addTierLike d a0 a1 h) none = _
  rw [(by decide +kernel : Nat.ble 3 (zm_ml 6) = true)]
  rfl
noncomputable def fDr_allDone (d : Nat) (a0 : Int32) (h : zm_H) : zm_R := zm_lim d 7 0 (zm_ent 7 [.ref (15), .int a0]) [] h
theorem fDr_allDone_call (d : Nat) (a0 : Int32) (h : zm_H) : zm_call (d + 1) 7 [.ref (15), .int a0] h = fDr_allDone d a0 h := by
  show cond (Nat.ble 2 (zm_ml 7)) (fDr_allDone d a0 h) none = _
  rw [(by decide +kernel : Nat.ble 2 (zm_ml 7) = true)]
  rfl
noncomputable def fDr_firstDone (d : Nat) (a0 : Int32) (h : zm_H) : zm_R := zm_lim d 8 0 (zm_ent 8 [.ref (15), .int a0]) [] h
noncomputable def fDr_firstDone_c16 (d : Nat) (x1 : Int32) (x2 : Int32) (x3 : Int32) (h : zm_H) : zm_R := zm_lim d 8 16 [some (.ref (15)), some (.int x1), some (.int x2), some (.int x3), none] [] h
theorem fDr_firstDone_call (d : Nat) (a0 : Int32) (h : zm_H) : zm_call (d + 1) 8 [.ref (15), .int a0] h = fDr_firstDone d a0 h := by
  show cond (Nat.ble 2 (zm_ml 8)) (fDr_firstDone d a0 h) none = _
  rw [(by decide +kernel : Nat.ble 2 (zm_ml 8) = true)]
  rfl
noncomputable def fDr_doneBy (d : Nat) (a0 : Int32) (h : zm_H) : zm_R := zm_lim d 9 0 (zm_ent 9 [.ref (15), .int a0]) [] h
noncomputable def fDr_doneBy_c4 (d : Nat) (x1 : Int32) (x2 : Int32) (x3 : Int32) (h : zm_H) : zm_R := zm_lim d 9 4 [some (.ref (15)), some (.int x1), some (.int x2), some (.int x3)] [] h
theorem fDr_doneBy_call (d : Nat) (a0 : Int32) (h : zm_H) : zm_call (d + 1) 9 [.ref (15), .int a0] h = fDr_doneBy d a0 h := by
  show cond (Nat.ble 2 (zm_ml 9)) (fDr_doneBy d a0 h) none = _
  rw [(by decide +kernel : Nat.ble 2 (zm_ml 9) = true)]
  rfl
noncomputable def fDr_isGathered (d : Nat) (a0 : Int32) (h : zm_H) : zm_R := zm_lim d 10 0 (zm_ent 10 [.ref (15), .int a0]) [] h
noncomputable def fDr_isGathered_c2 (d : Nat) (x1 : Int32) (x2 : Int32) (h : zm_H) : zm_R := zm_lim d 10 2 [some (.ref (15)), some (.int x1), some (.int x2)] [] h
theorem fDr_isGathered_call (d : Nat) (a0 : Int32) (h : zm_H) : zm_call (d + 1) 10 [.ref (15), .int a0] h = fDr_isGathered d a0 h := by
  show cond (Nat.ble 2 (zm_ml 10)) (fDr_isGathered d a0 h) none = _
  rw [(by decide +kernel : Nat.ble 2 (zm_ml 10) = true)]
  rfl
noncomputable def fDr_minutesFor (d : Nat) (a0 : Int32) (a1 : Int32) (h : zm_H) : zm_R := zm_lim d 11 0 (zm_ent 11 [.ref (15), .int a0, .int a1]) [] h
theorem fDr_minutesFor_call (d : Nat) (a0 : Int32) (a1 : Int32) (h : zm_H) : zm_call (d + 1) 11 [.ref (15), .int a0, .int a1] h = fDr_minutesFor d a0 a1 h := by
  show cond (Nat.ble 3 (zm_ml 11)) (fDr_minutesFor d a0 a1 h) none = _
  rw [(by decide +kernel : Nat.ble 3 (zm_ml 11) = true)]
  rfl
noncomputable def fDr_layPlaces (d : Nat) (h : zm_H) : zm_R := zm_lim d 12 0 (zm_ent 12 [.ref (15)]) [] h
noncomputable def fDr_layPlaces_c2 (d : Nat) (x1 : Int32) (h : zm_H) : zm_R := zm_lim d 12 2 [some (.ref (15)), some (.int x1)] [] h
theorem fDr_layPlaces_call (d : Nat) (h : zm_H) : zm_call (d + 1) 12 [.ref (15)] h = fDr_layPlaces d h := by
  show cond (Nat.ble 1 (zm_ml 12)) (fDr_layPlaces d h) none = _
  rw [(by decide +kernel : Nat.ble 1 (zm_ml 12) = true)]
  rfl
noncomputable def fDr_keepOrder (d : Nat) (h : zm_H) : zm_R := zm_lim d 13 0 (zm_ent 13 [.ref (15)]) [] h
noncomputable def fDr_keepOrder_c2 (d : Nat) (x1 : Int32) (h : zm_H) : zm_R := zm_lim d 13 2 [some (.ref (15)), some (.int x1)] [] h
theorem fDr_keepOrder_call (d : Nat) (h : zm_H) : zm_call (d + 1) 13 [.ref (15)] h = fDr_keepOrder d h := by
  show cond (Nat.ble 1 (zm_ml 13)) (fDr_keepOrder d h) none = _
  rw [(by decide +kernel : Nat.ble 1 (zm_ml 13) = true)]
  rfl
noncomputable def fDr_done (d : Nat) (a0 : Int32) (h : zm_H) : zm_R := zm_lim d 14 0 (zm_ent 14 [.ref (15), .int a0]) [] h
noncomputable def fDr_done_c12 (d : Nat) (x1 : Int32) (x2 : Int32) (x3 : Int32) (h : zm_H) : zm_R := zm_lim d 14 12 [some (.ref (15)), some (.int x1), some (.int x2), some (.int x3), none] [] h
theorem fDr_done_call (d : Nat) (a0 : Int32) (h : zm_H) : zm_call (d + 1) 14 [.ref (15), .int a0] h = fDr_done d a0 h := by
  show cond (Nat.ble 2 (zm_ml 14)) (fDr_done d a0 h) none = _
  rw [(by decide +kernel : Nat.ble 2 (zm_ml 14) = true)]
  rfl
noncomputable def fDr_firstFree (d : Nat) (a0 : Int32) (h : zm_H) : zm_R := zm_lim d 15 0 (zm_ent 15 [.ref (15), .int a0]) [] h
noncomputable def fDr_firstFree_c4 (d : Nat) (x1 : Int32) (x2 : Int32) (x3 : Int32) (h : zm_H) : zm_R := zm_lim d 15 4 [some (.ref (15)), some (.int x1), some (.int x2), some (.int x3)] [] h
theorem fDr_firstFree_call (d : Nat) (a0 : Int32) (h : zm_H) : zm_call (d + 1) 15 [.ref (15), .int a0] h = fDr_firstFree d a0 h := by
  show cond (Nat.ble 2 (zm_ml 15)) (fDr_firstFree d a0 h) none = _
  rw [(by decide +kernel : Nat.ble 2 (zm_ml 15) = true)]
  rfl
noncomputable def fDr_nextOrder (d : Nat) (h : zm_H) : zm_R := zm_lim d 16 0 (zm_ent 16 [.ref (15)]) [] h
noncomputable def fDr_nextOrder_c7 (d : Nat) (x1 : Int32) (h : zm_H) : zm_R := zm_lim d 16 7 [some (.ref (15)), some (.int x1), none, none, none] [] h
noncomputable def fDr_nextOrder_c47 (d : Nat) (x1 : Int32) (x2 : Int32) (h : zm_H) : zm_R := zm_lim d 16 47 [some (.ref (15)), some (.int x1), some (.int x2), none, none] [] h
noncomputable def fDr_nextOrder_c91 (d : Nat) (x3 : Int32) (x4 : Int32) (h : zm_H) : zm_R := zm_lim d 16 91 [some (.ref (15)), none, none, some (.int x3), some (.int x4)] [] h
theorem fDr_nextOrder_call (d : Nat) (h : zm_H) : zm_call (d + 1) 16 [.ref (15)] h = fDr_nextOrder d h := by
  show cond (Nat.ble 1 (zm_ml 16)) (fDr_nextOrder d h) none = _
  rw [(by decide +kernel : Nat.ble 1 (zm_ml 16) = true)]
  rfl
noncomputable def fDr_swap (d : Nat) (a0 : Int32) (a1 : Int32) (h : zm_H) : zm_R := zm_lim d 17 0 (zm_ent 17 [.ref (15), .int a0, .int a1]) [] h
theorem fDr_swap_call (d : Nat) (a0 : Int32) (a1 : Int32) (h : zm_H) : zm_call (d + 1) 17 [.ref (15), .int a0, .int a1] h = fDr_swap d a0 a1 h := by
  show cond (Nat.ble 3 (zm_ml 17)) (fDr_swap d a0 a1 h) none = _
  rw [(by decide +kernel : Nat.ble 3 (zm_ml 17) = true)]
  rfl
noncomputable def fHa_lay (d : Nat) (a1 : Int32) (a2 : Int32) (h : zm_H) : zm_R := zm_lim d 18 0 (zm_ent 18 [.ref (14), .ref (1), .int a1, .int a2]) [] h
theorem fHa_lay_call (d : Nat) (a1 : Int32) (a2 : Int32) (h : zm_H) : zm_call (d + 1) 18 [.ref (14), .ref (1), .int a1, .int a2] h = fHa_lay d a1 a2 h := by
  show cond (Nat.ble 4 (zm_ml 18)) (fHa_lay d a1 a2 h) none = _
  rw [(by decide +kernel : Nat.ble 4 (zm_ml 18) = true)]
  rfl
noncomputable def fHa_cloth (d : Nat) (a0 : Int32) (h : zm_H) : zm_R := zm_lim d 19 0 (zm_ent 19 [.ref (14), .int a0]) [] h
theorem fHa_cloth_call (d : Nat) (a0 : Int32) (h : zm_H) : zm_call (d + 1) 19 [.ref (14), .int a0] h = fHa_cloth d a0 h := by
  show cond (Nat.ble 2 (zm_ml 19)) (fHa_cloth d a0 h) none = _
  rw [(by decide +kernel : Nat.ble 2 (zm_ml 19) = true)]
  rfl
noncomputable def fHa_thin (d : Nat) (a0 : Int32) (h : zm_H) : zm_R := zm_lim d 20 0 (zm_ent 20 [.ref (14), .int a0]) [] h
theorem fHa_thin_call (d : Nat) (a0 : Int32) (h : zm_H) : zm_call (d + 1) 20 [.ref (14), .int a0] h = fHa_thin d a0 h := by
  show cond (Nat.ble 2 (zm_ml 20)) (fHa_thin d a0 h) none = _
  rw [(by decide +kernel : Nat.ble 2 (zm_ml 20) = true)]
  rfl
noncomputable def fHa_apart (d : Nat) (a0 : Int32) (h : zm_H) : zm_R := zm_lim d 21 0 (zm_ent 21 [.ref (14), .int a0]) [] h
theorem fHa_apart_call (d : Nat) (a0 : Int32) (h : zm_H) : zm_call (d + 1) 21 [.ref (14), .int a0] h = fHa_apart d a0 h := by
  show cond (Nat.ble 2 (zm_ml 21)) (fHa_apart d a0 h) none = _
  rw [(by decide +kernel : Nat.ble 2 (zm_ml 21) = true)]
  rfl
noncomputable def fHa_isRight (d : Nat) (a0 : Int32) (a1 : Int32) (h : zm_H) : zm_R := zm_lim d 22 0 (zm_ent 22 [.ref (14), .int a0, .int a1]) [] h
theorem fHa_isRight_call (d : Nat) (a0 : Int32) (a1 : Int32) (h : zm_H) : zm_call (d + 1) 22 [.ref (14), .int a0, .int a1] h = fHa_isRight d a0 a1 h := by
  show cond (Nat.ble 3 (zm_ml 22)) (fHa_isRight d a0 a1 h) none = _
  rw [(by decide +kernel : Nat.ble 3 (zm_ml 22) = true)]
  rfl
noncomputable def fHa_isRightAt (d : Nat) (a0 : Int32) (h : zm_H) : zm_R := zm_lim d 23 0 (zm_ent 23 [.ref (14), .int a0]) [] h
theorem fHa_isRightAt_call (d : Nat) (a0 : Int32) (h : zm_H) : zm_call (d + 1) 23 [.ref (14), .int a0] h = fHa_isRightAt d a0 h := by
  show cond (Nat.ble 2 (zm_ml 23)) (fHa_isRightAt d a0 h) none = _
  rw [(by decide +kernel : Nat.ble 2 (zm_ml 23) = true)]
  rfl
noncomputable def fHa_leastRight (d : Nat) (h : zm_H) : zm_R := zm_lim d 24 0 (zm_ent 24 [.ref (14)]) [] h
noncomputable def fHa_leastRight_c2 (d : Nat) (x1 : Int32) (h : zm_H) : zm_R := zm_lim d 24 2 [some (.ref (14)), some (.int x1)] [] h
theorem fHa_leastRight_call (d : Nat) (h : zm_H) : zm_call (d + 1) 24 [.ref (14)] h = fHa_leastRight d h := by
  show cond (Nat.ble 1 (zm_ml 24)) (fHa_leastRight d h) none = _
  rw [(by decide +kernel : Nat.ble 1 (zm_ml 24) = true)]
  rfl
noncomputable def fHa_greatestRight (d : Nat) (h : zm_H) : zm_R := zm_lim d 25 0 (zm_ent 25 [.ref (14)]) [] h
noncomputable def fHa_greatestRight_c4 (d : Nat) (x1 : Int32) (h : zm_H) : zm_R := zm_lim d 25 4 [some (.ref (14)), some (.int x1)] [] h
theorem fHa_greatestRight_call (d : Nat) (h : zm_H) : zm_call (d + 1) 25 [.ref (14)] h = fHa_greatestRight d h := by
  show cond (Nat.ble 1 (zm_ml 25)) (fHa_greatestRight d h) none = _
  rw [(by decide +kernel : Nat.ble 1 (zm_ml 25) = true)]
  rfl
noncomputable def fHa_rightOnes (d : Nat) (h : zm_H) : zm_R := zm_lim d 26 0 (zm_ent 26 [.ref (14)]) [] h
noncomputable def fHa_rightOnes_c4 (d : Nat) (x1 : Int32) (x2 : Int32) (h : zm_H) : zm_R := zm_lim d 26 4 [some (.ref (14)), some (.int x1), some (.int x2)] [] h
theorem fHa_rightOnes_call (d : Nat) (h : zm_H) : zm_call (d + 1) 26 [.ref (14)] h = fHa_rightOnes d h := by
  show cond (Nat.ble 1 (zm_ml 26)) (fHa_rightOnes d h) none = _
  rw [(by decide +kernel : Nat.ble 1 (zm_ml 26) = true)]
  rfl
noncomputable def fHa_turnsIfRight (d : Nat) (h : zm_H) : zm_R := zm_lim d 27 0 (zm_ent 27 [.ref (14)]) [] h
theorem fHa_turnsIfRight_call (d : Nat) (h : zm_H) : zm_call (d + 1) 27 [.ref (14)] h = fHa_turnsIfRight d h := by
  show cond (Nat.ble 1 (zm_ml 27)) (fHa_turnsIfRight d h) none = _
  rw [(by decide +kernel : Nat.ble 1 (zm_ml 27) = true)]
  rfl
noncomputable def fHa_tries (d : Nat) (a0 : Int32) (a1 : Int32) (h : zm_H) : zm_R := zm_lim d 28 0 (zm_ent 28 [.ref (14), .int a0, .int a1]) [] h
noncomputable def fHa_tries_c5 (d : Nat) (x2 : Int32) (x3 : Int32) (x4 : Int32) (h : zm_H) : zm_R := zm_lim d 28 5 [some (.ref (14)), none, some (.int x2), some (.int x3), some (.int x4), none] [] h
theorem fHa_tries_call (d : Nat) (a0 : Int32) (a1 : Int32) (h : zm_H) : zm_call (d + 1) 28 [.ref (14), .int a0, .int a1] h = fHa_tries d a0 a1 h := by
  show cond (Nat.ble 3 (zm_ml 28)) (fHa_tries d a0 a1 h) none = _
  rw [(by decide +kernel : Nat.ble 3 (zm_ml 28) = true)]
  rfl
noncomputable def fHa_drawnTries (d : Nat) (a0 : Int32) (a1 : Int32) (h : zm_H) : zm_R := zm_lim d 29 0 (zm_ent 29 [.ref (14), .int a0, .int a1]) [] h
noncomputable def fHa_drawnTries_c5 (d : Nat) (x2 : Int32) (x3 : Int32) (x4 : Int32) (h : zm_H) : zm_R := zm_lim d 29 5 [some (.ref (14)), none, some (.int x2), some (.int x3), some (.int x4), none] [] h
theorem fHa_drawnTries_call (d : Nat) (a0 : Int32) (a1 : Int32) (h : zm_H) : zm_call (d + 1) 29 [.ref (14), .int a0, .int a1] h = fHa_drawnTries d a0 a1 h := by
  show cond (Nat.ble 3 (zm_ml 29)) (fHa_drawnTries d a0 a1 h) none = _
  rw [(by decide +kernel : Nat.ble 3 (zm_ml 29) = true)]
  rfl
noncomputable def fHa_firstWrong (d : Nat) (r0 : Nat) (a1 : Int32) (a2 : Int32) (h : zm_H) : zm_R := zm_lim d 30 0 (zm_ent 30 [.ref (14), .ref r0, .int a1, .int a2]) [] h
noncomputable def fHa_firstWrong_c9 (d : Nat) (x1 : Nat) (x3 : Int32) (x4 : Int32) (x5 : Int32) (x6 : Int32) (h : zm_H) : zm_R := zm_lim d 30 9 [some (.ref (14)), some (.ref x1), none, some (.int x3), some (.int x4), some (.int x5), some (.int x6), none] [] h
theorem fHa_firstWrong_call (d : Nat) (r0 : Nat) (a1 : Int32) (a2 : Int32) (h : zm_H) : zm_call (d + 1) 30 [.ref (14), .ref r0, .int a1, .int a2] h = fHa_firstWrong d r0 a1 a2 h := by
  show cond (Nat.ble 4 (zm_ml 30)) (fHa_firstWrong d r0 a1 a2 h) none = _
  rw [(by decide +kernel : Nat.ble 4 (zm_ml 30) = true)]
  rfl
noncomputable def fHa_corrected (d : Nat) (a0 : Int32) (a1 : Int32) (a2 : Int32) (h : zm_H) : zm_R := zm_lim d 31 0 (zm_ent 31 [.ref (14), .int a0, .int a1, .int a2]) [] h
theorem fHa_corrected_call (d : Nat) (a0 : Int32) (a1 : Int32) (a2 : Int32) (h : zm_H) : zm_call (d + 1) 31 [.ref (14), .int a0, .int a1, .int a2] h = fHa_corrected d a0 a1 a2 h := by
  show cond (Nat.ble 4 (zm_ml 31)) (fHa_corrected d a0 a1 a2 h) none = _
  rw [(by decide +kernel : Nat.ble 4 (zm_ml 31) = true)]
  rfl
noncomputable def fLa_isTold (d : Nat) (h : zm_H) : zm_R := zm_lim d 32 0 (zm_ent 32 [.ref (11)]) [] h
theorem fLa_isTold_call (d : Nat) (h : zm_H) : zm_call (d + 1) 32 [.ref (11)] h = fLa_isTold d h := by
  show cond (Nat.ble 1 (zm_ml 32)) (fLa_isTold d h) none = _
  rw [(by decide +kernel : Nat.ble 1 (zm_ml 32) = true)]
  rfl
noncomputable def fLa_become (d : Nat) (h : zm_H) : zm_R := zm_lim d 33 0 (zm_ent 33 [.ref (11), .ref (8)]) [] h
noncomputable def fLa_become_c16 (d : Nat) (x2 : Int32) (h : zm_H) : zm_R := zm_lim d 33 16 [some (.ref (11)), some (.ref (8)), some (.int x2)] [] h
theorem fLa_become_call (d : Nat) (h : zm_H) : zm_call (d + 1) 33 [.ref (11), .ref (8)] h = fLa_become d h := by
  show cond (Nat.ble 2 (zm_ml 33)) (fLa_become d h) none = _
  rw [(by decide +kernel : Nat.ble 2 (zm_ml 33) = true)]
  rfl
noncomputable def fLa_valueFor (d : Nat) (a1 : Int32) (h : zm_H) : zm_R := zm_lim d 34 0 (zm_ent 34 [.ref (11), .ref (14), .int a1]) [] h
noncomputable def fLa_valueFor_c10 (d : Nat) (x2 : Int32) (x3 : Int32) (x4 : Int32) (h : zm_H) : zm_R := zm_lim d 34 10 [some (.ref (11)), some (.ref (14)), some (.int x2), some (.int x3), some (.int x4), none, none] [] h
theorem fLa_valueFor_call (d : Nat) (a1 : Int32) (h : zm_H) : zm_call (d + 1) 34 [.ref (11), .ref (14), .int a1] h = fLa_valueFor d a1 h := by
  show cond (Nat.ble 3 (zm_ml 34)) (fLa_valueFor d a1 h) none = _
  rw [(by decide +kernel : Nat.ble 3 (zm_ml 34) = true)]
  rfl
noncomputable def fLa_turned (d : Nat) (a0 : Int32) (a1 : Int32) (h : zm_H) : zm_R := zm_lim d 35 0 (zm_ent 35 [.int a0, .int a1]) [] h
theorem fLa_turned_call (d : Nat) (a0 : Int32) (a1 : Int32) (h : zm_H) : zm_call (d + 1) 35 [.int a0, .int a1] h = fLa_turned d a0 a1 h := by
  show cond (Nat.ble 2 (zm_ml 35)) (fLa_turned d a0 a1 h) none = _
  rw [(by decide +kernel : Nat.ble 2 (zm_ml 35) = true)]
  rfl
noncomputable def fLa_named (d : Nat) (a0 : Int32) (a2 : Int32) (h : zm_H) : zm_R := zm_lim d 36 0 (zm_ent 36 [.int a0, .ref (14), .int a2]) [] h
theorem fLa_named_call (d : Nat) (a0 : Int32) (a2 : Int32) (h : zm_H) : zm_call (d + 1) 36 [.int a0, .ref (14), .int a2] h = fLa_named d a0 a2 h := by
  show cond (Nat.ble 3 (zm_ml 36)) (fLa_named d a0 a2 h) none = _
  rw [(by decide +kernel : Nat.ble 3 (zm_ml 36) = true)]
  rfl
noncomputable def fLa_joined (d : Nat) (a0 : Int32) (a1 : Int32) (a2 : Int32) (h : zm_H) : zm_R := zm_lim d 37 0 (zm_ent 37 [.int a0, .int a1, .int a2]) [] h
theorem fLa_joined_call (d : Nat) (a0 : Int32) (a1 : Int32) (a2 : Int32) (h : zm_H) : zm_call (d + 1) 37 [.int a0, .int a1, .int a2] h = fLa_joined d a0 a1 a2 h := by
  show cond (Nat.ble 3 (zm_ml 37)) (fLa_joined d a0 a1 a2 h) none = _
  rw [(by decide +kernel : Nat.ble 3 (zm_ml 37) = true)]
  rfl
noncomputable def fLa_push (d : Nat) (a0 : Int32) (h : zm_H) : zm_R := zm_lim d 38 0 (zm_ent 38 [.ref (11), .int a0]) [] h
theorem fLa_push_call (d : Nat) (a0 : Int32) (h : zm_H) : zm_call (d + 1) 38 [.ref (11), .int a0] h = fLa_push d a0 h := by
  show cond (Nat.ble 2 (zm_ml 38)) (fLa_push d a0 h) none = _
  rw [(by decide +kernel : Nat.ble 2 (zm_ml 38) = true)]
  rfl
noncomputable def fLa_pop (d : Nat) (h : zm_H) : zm_R := zm_lim d 39 0 (zm_ent 39 [.ref (11)]) [] h
theorem fLa_pop_call (d : Nat) (h : zm_H) : zm_call (d + 1) 39 [.ref (11)] h = fLa_pop d h := by
  show cond (Nat.ble 1 (zm_ml 39)) (fLa_pop d h) none = _
  rw [(by decide +kernel : Nat.ble 1 (zm_ml 39) = true)]
  rfl
noncomputable def fLe_copyFrom (d : Nat) (o : Nat) (r0 : Nat) (h : zm_H) : zm_R := zm_lim d 40 0 (zm_ent 40 [.ref o, .ref r0]) [] h
theorem fLe_copyFrom_call (d : Nat) (o : Nat) (r0 : Nat) (h : zm_H) : zm_call (d + 1) 40 [.ref o, .ref r0] h = fLe_copyFrom d o r0 h := by
  show cond (Nat.ble 2 (zm_ml 40)) (fLe_copyFrom d o r0 h) none = _
  rw [(by decide +kernel : Nat.ble 2 (zm_ml 40) = true)]
  rfl
noncomputable def fLe_copyTies (d : Nat) (o : Nat) (h : zm_H) : zm_R := zm_lim d 41 0 (zm_ent 41 [.ref o, .ref (1)]) [] h
noncomputable def fLe_copyTies_c2 (d : Nat) (x0 : Nat) (x2 : Int32) (h : zm_H) : zm_R := zm_lim d 41 2 [some (.ref x0), some (.ref (1)), some (.int x2)] [] h
theorem fLe_copyTies_call (d : Nat) (o : Nat) (h : zm_H) : zm_call (d + 1) 41 [.ref o, .ref (1)] h = fLe_copyTies d o h := by
  show cond (Nat.ble 2 (zm_ml 41)) (fLe_copyTies d o h) none = _
  rw [(by decide +kernel : Nat.ble 2 (zm_ml 41) = true)]
  rfl
noncomputable def fLe_layTiesBack (d : Nat) (o : Nat) (h : zm_H) : zm_R := zm_lim d 42 0 (zm_ent 42 [.ref o, .ref (1)]) [] h
noncomputable def fLe_layTiesBack_c2 (d : Nat) (x0 : Nat) (x2 : Int32) (h : zm_H) : zm_R := zm_lim d 42 2 [some (.ref x0), some (.ref (1)), some (.int x2)] [] h
theorem fLe_layTiesBack_call (d : Nat) (o : Nat) (h : zm_H) : zm_call (d + 1) 42 [.ref o, .ref (1)] h = fLe_layTiesBack d o h := by
  show cond (Nat.ble 2 (zm_ml 42)) (fLe_layTiesBack d o h) none = _
  rw [(by decide +kernel : Nat.ble 2 (zm_ml 42) = true)]
  rfl
noncomputable def fNu_has (d : Nat) (a0 : Int32) (a1 : Int32) (h : zm_H) : zm_R := zm_lim d 43 0 (zm_ent 43 [.ref (1), .int a0, .int a1]) [] h
theorem fNu_has_call (d : Nat) (a0 : Int32) (a1 : Int32) (h : zm_H) : zm_call (d + 1) 43 [.ref (1), .int a0, .int a1] h = fNu_has d a0 a1 h := by
  show cond (Nat.ble 3 (zm_ml 43)) (fNu_has d a0 a1 h) none = _
  rw [(by decide +kernel : Nat.ble 3 (zm_ml 43) = true)]
  rfl
noncomputable def fNu_read (d : Nat) (a0 : Int32) (a1 : Int32) (h : zm_H) : zm_R := zm_lim d 44 0 (zm_ent 44 [.ref (1), .int a0, .int a1]) [] h
theorem fNu_read_call (d : Nat) (a0 : Int32) (a1 : Int32) (h : zm_H) : zm_call (d + 1) 44 [.ref (1), .int a0, .int a1] h = fNu_read d a0 a1 h := by
  show cond (Nat.ble 3 (zm_ml 44)) (fNu_read d a0 a1 h) none = _
  rw [(by decide +kernel : Nat.ble 3 (zm_ml 44) = true)]
  rfl
noncomputable def fNu_write (d : Nat) (a0 : Int32) (a1 : Int32) (a2 : Int32) (h : zm_H) : zm_R := zm_lim d 45 0 (zm_ent 45 [.ref (1), .int a0, .int a1, .int a2]) [] h
theorem fNu_write_call (d : Nat) (a0 : Int32) (a1 : Int32) (a2 : Int32) (h : zm_H) : zm_call (d + 1) 45 [.ref (1), .int a0, .int a1, .int a2] h = fNu_write d a0 a1 a2 h := by
  show cond (Nat.ble 4 (zm_ml 45)) (fNu_write d a0 a1 a2 h) none = _
  rw [(by decide +kernel : Nat.ble 4 (zm_ml 45) = true)]
  rfl
noncomputable def fNu_addTie (d : Nat) (a0 : Int32) (a1 : Int32) (a2 : Int32) (h : zm_H) : zm_R := zm_lim d 46 0 (zm_ent 46 [.ref (1), .int a0, .int a1, .int a2]) [] h
theorem fNu_addTie_call (d : Nat) (a0 : Int32) (a1 : Int32) (a2 : Int32) (h : zm_H) : zm_call (d + 1) 46 [.ref (1), .int a0, .int a1, .int a2] h = fNu_addTie d a0 a1 a2 h := by
  show cond (Nat.ble 4 (zm_ml 46)) (fNu_addTie d a0 a1 a2 h) none = _
  rw [(by decide +kernel : Nat.ble 4 (zm_ml 46) = true)]
  rfl
noncomputable def fNu_addTier (d : Nat) (a0 : Int32) (a1 : Int32) (a2 : Int32) (h : zm_H) : zm_R := zm_lim d 47 0 (zm_ent 47 [.ref (1), .int a0, .int a1, .int a2]) [] h
theorem fNu_addTier_call (d : Nat) (a0 : Int32) (a1 : Int32) (a2 : Int32) (h : zm_H) : zm_call (d + 1) 47 [.ref (1), .int a0, .int a1, .int a2] h = fNu_addTier d a0 a1 a2 h := by
  show cond (Nat.ble 4 (zm_ml 47)) (fNu_addTier d a0 a1 a2 h) none = _
  rw [(by decide +kernel : Nat.ble 4 (zm_ml 47) = true)]
  rfl
noncomputable def fNu_howMany (d : Nat) (a0 : Int32) (h : zm_H) : zm_R := zm_lim d 48 0 (zm_ent 48 [.ref (1), .int a0]) [] h
theorem fNu_howMany_call (d : Nat) (a0 : Int32) (h : zm_H) : zm_call (d + 1) 48 [.ref (1), .int a0] h = fNu_howMany d a0 h := by
  show cond (Nat.ble 2 (zm_ml 48)) (fNu_howMany d a0 h) none = _
  rw [(by decide +kernel : Nat.ble 2 (zm_ml 48) = true)]
  rfl
noncomputable def fRe_add (d : Nat) (a0 : Int32) (h : zm_H) : zm_R := zm_lim d 49 0 (zm_ent 49 [.ref (8), .int a0]) [] h
theorem fRe_add_call (d : Nat) (a0 : Int32) (h : zm_H) : zm_call (d + 1) 49 [.ref (8), .int a0] h = fRe_add d a0 h := by
  show cond (Nat.ble 2 (zm_ml 49)) (fRe_add d a0 h) none = _
  rw [(by decide +kernel : Nat.ble 2 (zm_ml 49) = true)]
  rfl
noncomputable def fRe_empty (d : Nat) (h : zm_H) : zm_R := zm_lim d 50 0 (zm_ent 50 [.ref (8)]) [] h
theorem fRe_empty_call (d : Nat) (h : zm_H) : zm_call (d + 1) 50 [.ref (8)] h = fRe_empty d h := by
  show cond (Nat.ble 1 (zm_ml 50)) (fRe_empty d h) none = _
  rw [(by decide +kernel : Nat.ble 1 (zm_ml 50) = true)]
  rfl
noncomputable def fRe_readText (d : Nat) (h : zm_H) : zm_R := zm_lim d 51 0 (zm_ent 51 [.ref (8)]) [] h
noncomputable def fRe_readText_c12 (d : Nat) (x1 : Int32) (h : zm_H) : zm_R := zm_lim d 51 12 [some (.ref (8)), some (.int x1)] [] h
theorem fRe_readText_call (d : Nat) (h : zm_H) : zm_call (d + 1) 51 [.ref (8)] h = fRe_readText d h := by
  show cond (Nat.ble 1 (zm_ml 51)) (fRe_readText d h) none = _
  rw [(by decide +kernel : Nat.ble 1 (zm_ml 51) = true)]
  rfl
noncomputable def fRe_readLine (d : Nat) (h : zm_H) : zm_R := zm_lim d 52 0 (zm_ent 52 [.ref (8)]) [] h
theorem fRe_readLine_call (d : Nat) (h : zm_H) : zm_call (d + 1) 52 [.ref (8)] h = fRe_readLine d h := by
  show cond (Nat.ble 1 (zm_ml 52)) (fRe_readLine d h) none = _
  rw [(by decide +kernel : Nat.ble 1 (zm_ml 52) = true)]
  rfl
noncomputable def fRe_readLevel (d : Nat) (a0 : Int32) (a1 : Int32) (h : zm_H) : zm_R := zm_lim d 53 0 (zm_ent 53 [.ref (8), .int a0, .int a1]) [] h
noncomputable def fRe_readLevel_c39 (d : Nat) (x1 : Int32) (x2 : Int32) (x3 : Int32) (x4 : Int32) (h : zm_H) : zm_R := zm_lim d 53 39 [some (.ref (8)), some (.int x1), some (.int x2), some (.int x3), some (.int x4), none] [] h
theorem fRe_readLevel_call (d : Nat) (a0 : Int32) (a1 : Int32) (h : zm_H) : zm_call (d + 1) 53 [.ref (8), .int a0, .int a1] h = fRe_readLevel d a0 a1 h := by
  show cond (Nat.ble 3 (zm_ml 53)) (fRe_readLevel d a0 a1 h) none = _
  rw [(by decide +kernel : Nat.ble 3 (zm_ml 53) = true)]
  rfl
noncomputable def fRe_readOperand (d : Nat) (a0 : Int32) (h : zm_H) : zm_R := zm_lim d 54 0 (zm_ent 54 [.ref (8), .int a0]) [] h
theorem fRe_readOperand_call (d : Nat) (a0 : Int32) (h : zm_H) : zm_call (d + 1) 54 [.ref (8), .int a0] h = fRe_readOperand d a0 h := by
  show cond (Nat.ble 2 (zm_ml 54)) (fRe_readOperand d a0 h) none = _
  rw [(by decide +kernel : Nat.ble 2 (zm_ml 54) = true)]
  rfl
noncomputable def fRe_number (d : Nat) (h : zm_H) : zm_R := zm_lim d 55 0 (zm_ent 55 [.ref (8)]) [] h
noncomputable def fRe_number_c4 (d : Nat) (x1 : Int32) (x2 : Int32) (h : zm_H) : zm_R := zm_lim d 55 4 [some (.ref (8)), some (.int x1), some (.int x2)] [] h
theorem fRe_number_call (d : Nat) (h : zm_H) : zm_call (d + 1) 55 [.ref (8)] h = fRe_number d h := by
  show cond (Nat.ble 1 (zm_ml 55)) (fRe_number d h) none = _
  rw [(by decide +kernel : Nat.ble 1 (zm_ml 55) = true)]
  rfl
noncomputable def fRe_goesOnWith (d : Nat) (a0 : Int32) (h : zm_H) : zm_R := zm_lim d 56 0 (zm_ent 56 [.ref (8), .int a0]) [] h
theorem fRe_goesOnWith_call (d : Nat) (a0 : Int32) (h : zm_H) : zm_call (d + 1) 56 [.ref (8), .int a0] h = fRe_goesOnWith d a0 h := by
  show cond (Nat.ble 2 (zm_ml 56)) (fRe_goesOnWith d a0 h) none = _
  rw [(by decide +kernel : Nat.ble 2 (zm_ml 56) = true)]
  rfl
noncomputable def fRe_ahead (d : Nat) (h : zm_H) : zm_R := zm_lim d 57 0 (zm_ent 57 [.ref (8)]) [] h
theorem fRe_ahead_call (d : Nat) (h : zm_H) : zm_call (d + 1) 57 [.ref (8)] h = fRe_ahead d h := by
  show cond (Nat.ble 1 (zm_ml 57)) (fRe_ahead d h) none = _
  rw [(by decide +kernel : Nat.ble 1 (zm_ml 57) = true)]
  rfl
noncomputable def fRe_emit (d : Nat) (a0 : Int32) (h : zm_H) : zm_R := zm_lim d 58 0 (zm_ent 58 [.ref (8), .int a0]) [] h
theorem fRe_emit_call (d : Nat) (a0 : Int32) (h : zm_H) : zm_call (d + 1) 58 [.ref (8), .int a0] h = fRe_emit d a0 h := by
  show cond (Nat.ble 2 (zm_ml 58)) (fRe_emit d a0 h) none = _
  rw [(by decide +kernel : Nat.ble 2 (zm_ml 58) = true)]
  rfl
noncomputable def fRe_isDigit (d : Nat) (a0 : Int32) (h : zm_H) : zm_R := zm_lim d 59 0 (zm_ent 59 [.int a0]) [] h
theorem fRe_isDigit_call (d : Nat) (a0 : Int32) (h : zm_H) : zm_call (d + 1) 59 [.int a0] h = fRe_isDigit d a0 h := by
  show cond (Nat.ble 1 (zm_ml 59)) (fRe_isDigit d a0 h) none = _
  rw [(by decide +kernel : Nat.ble 1 (zm_ml 59) = true)]
  rfl
noncomputable def fRe_isName (d : Nat) (a0 : Int32) (h : zm_H) : zm_R := zm_lim d 60 0 (zm_ent 60 [.int a0]) [] h
theorem fRe_isName_call (d : Nat) (a0 : Int32) (h : zm_H) : zm_call (d + 1) 60 [.int a0] h = fRe_isName d a0 h := by
  show cond (Nat.ble 1 (zm_ml 60)) (fRe_isName d a0 h) none = _
  rw [(by decide +kernel : Nat.ble 1 (zm_ml 60) = true)]
  rfl
noncomputable def fRe_levelOf (d : Nat) (a0 : Int32) (h : zm_H) : zm_R := zm_lim d 61 0 (zm_ent 61 [.int a0]) [] h
theorem fRe_levelOf_call (d : Nat) (a0 : Int32) (h : zm_H) : zm_call (d + 1) 61 [.int a0] h = fRe_levelOf d a0 h := by
  show cond (Nat.ble 1 (zm_ml 61)) (fRe_levelOf d a0 h) none = _
  rw [(by decide +kernel : Nat.ble 1 (zm_ml 61) = true)]
  rfl
noncomputable def fSh_isEmpty (d : Nat) (o : Nat) (h : zm_H) : zm_R := zm_lim d 62 0 (zm_ent 62 [.ref o]) [] h
theorem fSh_isEmpty_call (d : Nat) (o : Nat) (h : zm_H) : zm_call (d + 1) 62 [.ref o] h = fSh_isEmpty d o h := by
  show cond (Nat.ble 1 (zm_ml 62)) (fSh_isEmpty d o h) none = _
  rw [(by decide +kernel : Nat.ble 1 (zm_ml 62) = true)]
  rfl
noncomputable def fSh_isRow (d : Nat) (o : Nat) (h : zm_H) : zm_R := zm_lim d 63 0 (zm_ent 63 [.ref o]) [] h
theorem fSh_isRow_call (d : Nat) (o : Nat) (h : zm_H) : zm_call (d + 1) 63 [.ref o] h = fSh_isRow d o h := by
  show cond (Nat.ble 1 (zm_ml 63)) (fSh_isRow d o h) none = _
  rw [(by decide +kernel : Nat.ble 1 (zm_ml 63) = true)]
  rfl
noncomputable def fSh_isRowOf (d : Nat) (o : Nat) (a0 : Int32) (h : zm_H) : zm_R := zm_lim d 64 0 (zm_ent 64 [.ref o, .int a0]) [] h
theorem fSh_isRowOf_call (d : Nat) (o : Nat) (a0 : Int32) (h : zm_H) : zm_call (d + 1) 64 [.ref o, .int a0] h = fSh_isRowOf d o a0 h := by
  show cond (Nat.ble 2 (zm_ml 64)) (fSh_isRowOf d o a0 h) none = _
  rw [(by decide +kernel : Nat.ble 2 (zm_ml 64) = true)]
  rfl
noncomputable def fSh_hasSpan (d : Nat) (o : Nat) (a0 : Int32) (a1 : Int32) (h : zm_H) : zm_R := zm_lim d 65 0 (zm_ent 65 [.ref o, .int a0, .int a1]) [] h
theorem fSh_hasSpan_call (d : Nat) (o : Nat) (a0 : Int32) (a1 : Int32) (h : zm_H) : zm_call (d + 1) 65 [.ref o, .int a0, .int a1] h = fSh_hasSpan d o a0 a1 h := by
  show cond (Nat.ble 3 (zm_ml 65)) (fSh_hasSpan d o a0 a1 h) none = _
  rw [(by decide +kernel : Nat.ble 3 (zm_ml 65) = true)]
  rfl
noncomputable def fSh_hold (d : Nat) (o : Nat) (a0 : Int32) (h : zm_H) : zm_R := zm_lim d 66 0 (zm_ent 66 [.ref o, .int a0]) [] h
theorem fSh_hold_call (d : Nat) (o : Nat) (a0 : Int32) (h : zm_H) : zm_call (d + 1) 66 [.ref o, .int a0] h = fSh_hold d o a0 h := by
  show cond (Nat.ble 2 (zm_ml 66)) (fSh_hold d o a0 h) none = _
  rw [(by decide +kernel : Nat.ble 2 (zm_ml 66) = true)]
  rfl
noncomputable def fSh_holdRow (d : Nat) (o : Nat) (a0 : Int32) (a1 : Int32) (h : zm_H) : zm_R := zm_lim d 67 0 (zm_ent 67 [.ref o, .int a0, .int a1]) [] h
theorem fSh_holdRow_call (d : Nat) (o : Nat) (a0 : Int32) (a1 : Int32) (h : zm_H) : zm_call (d + 1) 67 [.ref o, .int a0, .int a1] h = fSh_holdRow d o a0 a1 h := by
  show cond (Nat.ble 3 (zm_ml 67)) (fSh_holdRow d o a0 a1 h) none = _
  rw [(by decide +kernel : Nat.ble 3 (zm_ml 67) = true)]
  rfl
noncomputable def fSh_read (d : Nat) (o : Nat) (a0 : Int32) (h : zm_H) : zm_R := zm_lim d 68 0 (zm_ent 68 [.ref o, .int a0]) [] h
theorem fSh_read_call (d : Nat) (o : Nat) (a0 : Int32) (h : zm_H) : zm_call (d + 1) 68 [.ref o, .int a0] h = fSh_read d o a0 h := by
  show cond (Nat.ble 2 (zm_ml 68)) (fSh_read d o a0 h) none = _
  rw [(by decide +kernel : Nat.ble 2 (zm_ml 68) = true)]
  rfl
noncomputable def fSh_write (d : Nat) (o : Nat) (a0 : Int32) (a1 : Int64) (h : zm_H) : zm_R := zm_lim d 69 0 (zm_ent 69 [.ref o, .int a0, .long a1]) [] h
theorem fSh_write_call (d : Nat) (o : Nat) (a0 : Int32) (a1 : Int64) (h : zm_H) : zm_call (d + 1) 69 [.ref o, .int a0, .long a1] h = fSh_write d o a0 a1 h := by
  show cond (Nat.ble 4 (zm_ml 69)) (fSh_write d o a0 a1 h) none = _
  rw [(by decide +kernel : Nat.ble 4 (zm_ml 69) = true)]
  rfl
noncomputable def fSh_fitted (d : Nat) (o : Nat) (a0 : Int64) (h : zm_H) : zm_R := zm_lim d 70 0 (zm_ent 70 [.ref o, .long a0]) [] h
theorem fSh_fitted_call (d : Nat) (o : Nat) (a0 : Int64) (h : zm_H) : zm_call (d + 1) 70 [.ref o, .long a0] h = fSh_fitted d o a0 h := by
  show cond (Nat.ble 3 (zm_ml 70)) (fSh_fitted d o a0 h) none = _
  rw [(by decide +kernel : Nat.ble 3 (zm_ml 70) = true)]
  rfl
noncomputable def fTu_add (d : Nat) (a0 : Int32) (h : zm_H) : zm_R := zm_lim d 71 0 (zm_ent 71 [.ref (29), .int a0]) [] h
theorem fTu_add_call (d : Nat) (a0 : Int32) (h : zm_H) : zm_call (d + 1) 71 [.ref (29), .int a0] h = fTu_add d a0 h := by
  show cond (Nat.ble 2 (zm_ml 71)) (fTu_add d a0 h) none = _
  rw [(by decide +kernel : Nat.ble 2 (zm_ml 71) = true)]
  rfl
noncomputable def fTu_has (d : Nat) (a0 : Int32) (h : zm_H) : zm_R := zm_lim d 72 0 (zm_ent 72 [.ref (29), .int a0]) [] h
theorem fTu_has_call (d : Nat) (a0 : Int32) (h : zm_H) : zm_call (d + 1) 72 [.ref (29), .int a0] h = fTu_has d a0 h := by
  show cond (Nat.ble 2 (zm_ml 72)) (fTu_has d a0 h) none = _
  rw [(by decide +kernel : Nat.ble 2 (zm_ml 72) = true)]
  rfl
noncomputable def fTu_kindOf (d : Nat) (a0 : Int32) (h : zm_H) : zm_R := zm_lim d 73 0 (zm_ent 73 [.ref (29), .int a0]) [] h
theorem fTu_kindOf_call (d : Nat) (a0 : Int32) (h : zm_H) : zm_call (d + 1) 73 [.ref (29), .int a0] h = fTu_kindOf d a0 h := by
  show cond (Nat.ble 2 (zm_ml 73)) (fTu_kindOf d a0 h) none = _
  rw [(by decide +kernel : Nat.ble 2 (zm_ml 73) = true)]
  rfl
noncomputable def fTu_isUnder (d : Nat) (a0 : Int32) (a1 : Int32) (h : zm_H) : zm_R := zm_lim d 74 0 (zm_ent 74 [.ref (29), .int a0, .int a1]) [] h
noncomputable def fTu_isUnder_c9 (d : Nat) (x2 : Int32) (x3 : Int32) (x4 : Int32) (h : zm_H) : zm_R := zm_lim d 74 9 [none, none, some (.int x2), some (.int x3), some (.int x4)] [] h
theorem fTu_isUnder_call (d : Nat) (a0 : Int32) (a1 : Int32) (h : zm_H) : zm_call (d + 1) 74 [.ref (29), .int a0, .int a1] h = fTu_isUnder d a0 a1 h := by
  show cond (Nat.ble 3 (zm_ml 74)) (fTu_isUnder d a0 a1 h) none = _
  rw [(by decide +kernel : Nat.ble 3 (zm_ml 74) = true)]
  rfl
noncomputable def fTu_start (d : Nat) (a0 : Int32) (a1 : Int32) (a2 : Int32) (h : zm_H) : zm_R := zm_lim d 75 0 (zm_ent 75 [.ref (29), .int a0, .int a1, .int a2]) [] h
theorem fTu_start_call (d : Nat) (a0 : Int32) (a1 : Int32) (a2 : Int32) (h : zm_H) : zm_call (d + 1) 75 [.ref (29), .int a0, .int a1, .int a2] h = fTu_start d a0 a1 a2 h := by
  show cond (Nat.ble 4 (zm_ml 75)) (fTu_start d a0 a1 a2 h) none = _
  rw [(by decide +kernel : Nat.ble 4 (zm_ml 75) = true)]
  rfl
noncomputable def fTu_ask (d : Nat) (a0 : Int32) (a1 : Int32) (a2 : Int32) (a3 : Int32) (h : zm_H) : zm_R := zm_lim d 76 0 (zm_ent 76 [.ref (29), .int a0, .int a1, .int a2, .int a3]) [] h
theorem fTu_ask_call (d : Nat) (a0 : Int32) (a1 : Int32) (a2 : Int32) (a3 : Int32) (h : zm_H) : zm_call (d + 1) 76 [.ref (29), .int a0, .int a1, .int a2, .int a3] h = fTu_ask d a0 a1 a2 a3 h := by
  show cond (Nat.ble 5 (zm_ml 76)) (fTu_ask d a0 a1 a2 a3 h) none = _
  rw [(by decide +kernel : Nat.ble 5 (zm_ml 76) = true)]
  rfl
noncomputable def fTu_run (d : Nat) (a0 : Int32) (a1 : Int32) (a2 : Int32) (a3 : Int32) (h : zm_H) : zm_R := zm_lim d 77 0 (zm_ent 77 [.ref (29), .int a0, .int a1, .int a2, .int a3]) [] h
theorem fTu_run_call (d : Nat) (a0 : Int32) (a1 : Int32) (a2 : Int32) (a3 : Int32) (h : zm_H) : zm_call (d + 1) 77 [.ref (29), .int a0, .int a1, .int a2, .int a3] h = fTu_run d a0 a1 a2 a3 h := by
  show cond (Nat.ble 5 (zm_ml 77)) (fTu_run d a0 a1 a2 a3 h) none = _
  rw [(by decide +kernel : Nat.ble 5 (zm_ml 77) = true)]
  rfl
noncomputable def fTu_begin (d : Nat) (a0 : Int32) (h : zm_H) : zm_R := zm_lim d 78 0 (zm_ent 78 [.ref (29), .int a0]) [] h
theorem fTu_begin_call (d : Nat) (a0 : Int32) (h : zm_H) : zm_call (d + 1) 78 [.ref (29), .int a0] h = fTu_begin d a0 h := by
  show cond (Nat.ble 2 (zm_ml 78)) (fTu_begin d a0 h) none = _
  rw [(by decide +kernel : Nat.ble 2 (zm_ml 78) = true)]
  rfl
noncomputable def fTu_homeOf (d : Nat) (a0 : Int32) (a1 : Int32) (h : zm_H) : zm_R := zm_lim d 79 0 (zm_ent 79 [.int a0, .int a1]) [] h
noncomputable def fTu_homeOf_c4 (d : Nat) (x0 : Int32) (x2 : Int32) (x3 : Int32) (h : zm_H) : zm_R := zm_lim d 79 4 [some (.int x0), none, some (.int x2), some (.int x3)] [] h
theorem fTu_homeOf_call (d : Nat) (a0 : Int32) (a1 : Int32) (h : zm_H) : zm_call (d + 1) 79 [.int a0, .int a1] h = fTu_homeOf d a0 a1 h := by
  show cond (Nat.ble 2 (zm_ml 79)) (fTu_homeOf d a0 a1 h) none = _
  rw [(by decide +kernel : Nat.ble 2 (zm_ml 79) = true)]
  rfl
noncomputable def fTu_above (d : Nat) (a0 : Int32) (h : zm_H) : zm_R := zm_lim d 80 0 (zm_ent 80 [.int a0]) [] h
theorem fTu_above_call (d : Nat) (a0 : Int32) (h : zm_H) : zm_call (d + 1) 80 [.int a0] h = fTu_above d a0 h := by
  show cond (Nat.ble 1 (zm_ml 80)) (fTu_above d a0 h) none = _
  rw [(by decide +kernel : Nat.ble 1 (zm_ml 80) = true)]
  rfl
noncomputable def fTu_ownOf (d : Nat) (a0 : Int32) (a1 : Int32) (h : zm_H) : zm_R := zm_lim d 81 0 (zm_ent 81 [.int a0, .int a1]) [] h
theorem fTu_ownOf_call (d : Nat) (a0 : Int32) (a1 : Int32) (h : zm_H) : zm_call (d + 1) 81 [.int a0, .int a1] h = fTu_ownOf d a0 a1 h := by
  show cond (Nat.ble 2 (zm_ml 81)) (fTu_ownOf d a0 a1 h) none = _
  rw [(by decide +kernel : Nat.ble 2 (zm_ml 81) = true)]
  rfl
noncomputable def fE_tie (d : Nat) (a0 : Int32) (a1 : Int32) (h : zm_H) : zm_R := zm_lim d 82 0 (zm_ent 82 [.ref (0), .int a0, .int a1]) [] h
theorem fE_tie_call (d : Nat) (a0 : Int32) (a1 : Int32) (h : zm_H) : zm_call (d + 1) 82 [.ref (0), .int a0, .int a1] h = fE_tie d a0 a1 h := by
  show cond (Nat.ble 3 (zm_ml 82)) (fE_tie d a0 a1 h) none = _
  rw [(by decide +kernel : Nat.ble 3 (zm_ml 82) = true)]
  rfl
noncomputable def fE_ties (d : Nat) (a0 : Int32) (a1 : Int32) (a2 : Int32) (h : zm_H) : zm_R := zm_lim d 83 0 (zm_ent 83 [.ref (0), .int a0, .int a1, .int a2]) [] h
noncomputable def fE_ties_c53 (d : Nat) (x2 : Int32) (x3 : Int32) (x4 : Nat) (x5 : Int32) (h : zm_H) : zm_R := zm_lim d 83 53 [some (.ref (0)), none, some (.int x2), some (.int x3), some (.ref x4), some (.int x5)] [] h
theorem fE_ties_call (d : Nat) (a0 : Int32) (a1 : Int32) (a2 : Int32) (h : zm_H) : zm_call (d + 1) 83 [.ref (0), .int a0, .int a1, .int a2] h = fE_ties d a0 a1 a2 h := by
  show cond (Nat.ble 4 (zm_ml 83)) (fE_ties d a0 a1 a2 h) none = _
  rw [(by decide +kernel : Nat.ble 4 (zm_ml 83) = true)]
  rfl
noncomputable def fE_tier (d : Nat) (a0 : Int32) (a1 : Int32) (h : zm_H) : zm_R := zm_lim d 84 0 (zm_ent 84 [.ref (0), .int a0, .int a1]) [] h
theorem fE_tier_call (d : Nat) (a0 : Int32) (a1 : Int32) (h : zm_H) : zm_call (d + 1) 84 [.ref (0), .int a0, .int a1] h = fE_tier d a0 a1 h := by
  show cond (Nat.ble 3 (zm_ml 84)) (fE_tier d a0 a1 h) none = _
  rw [(by decide +kernel : Nat.ble 3 (zm_ml 84) = true)]
  rfl
noncomputable def fE_mend (d : Nat) (a0 : Int32) (a1 : Int32) (a2 : Int32) (h : zm_H) : zm_R := zm_lim d 85 0 (zm_ent 85 [.ref (0), .int a0, .int a1, .int a2]) [] h
theorem fE_mend_call (d : Nat) (a0 : Int32) (a1 : Int32) (a2 : Int32) (h : zm_H) : zm_call (d + 1) 85 [.ref (0), .int a0, .int a1, .int a2] h = fE_mend d a0 a1 a2 h := by
  show cond (Nat.ble 4 (zm_ml 85)) (fE_mend d a0 a1 a2 h) none = _
  rw [(by decide +kernel : Nat.ble 4 (zm_ml 85) = true)]
  rfl
noncomputable def fE_of (d : Nat) (a0 : Int32) (a1 : Int32) (h : zm_H) : zm_R := zm_lim d 86 0 (zm_ent 86 [.ref (0), .int a0, .int a1]) [] h
theorem fE_of_call (d : Nat) (a0 : Int32) (a1 : Int32) (h : zm_H) : zm_call (d + 1) 86 [.ref (0), .int a0, .int a1] h = fE_of d a0 a1 h := by
  show cond (Nat.ble 3 (zm_ml 86)) (fE_of d a0 a1 h) none = _
  rw [(by decide +kernel : Nat.ble 3 (zm_ml 86) = true)]
  rfl
noncomputable def fE_feed (d : Nat) (a0 : Int32) (h : zm_H) : zm_R := zm_lim d 87 0 (zm_ent 87 [.ref (0), .int a0]) [] h
theorem fE_feed_call (d : Nat) (a0 : Int32) (h : zm_H) : zm_call (d + 1) 87 [.ref (0), .int a0] h = fE_feed d a0 h := by
  show cond (Nat.ble 2 (zm_ml 87)) (fE_feed d a0 h) none = _
  rw [(by decide +kernel : Nat.ble 2 (zm_ml 87) = true)]
  rfl
noncomputable def fE_law (d : Nat) (h : zm_H) : zm_R := zm_lim d 88 0 (zm_ent 88 [.ref (0)]) [] h
theorem fE_law_call (d : Nat) (h : zm_H) : zm_call (d + 1) 88 [.ref (0)] h = fE_law d h := by
  show cond (Nat.ble 1 (zm_ml 88)) (fE_law d h) none = _
  rw [(by decide +kernel : Nat.ble 1 (zm_ml 88) = true)]
  rfl
noncomputable def fE_hangs (d : Nat) (a0 : Int32) (a1 : Int32) (a2 : Int32) (h : zm_H) : zm_R := zm_lim d 89 0 (zm_ent 89 [.ref (0), .int a0, .int a1, .int a2]) [] h
theorem fE_hangs_call (d : Nat) (a0 : Int32) (a1 : Int32) (a2 : Int32) (h : zm_H) : zm_call (d + 1) 89 [.ref (0), .int a0, .int a1, .int a2] h = fE_hangs d a0 a1 a2 h := by
  show cond (Nat.ble 4 (zm_ml 89)) (fE_hangs d a0 a1 a2 h) none = _
  rw [(by decide +kernel : Nat.ble 4 (zm_ml 89) = true)]
  rfl
noncomputable def fE_where (d : Nat) (a0 : Int32) (a1 : Int32) (h : zm_H) : zm_R := zm_lim d 90 0 (zm_ent 90 [.ref (0), .int a0, .int a1]) [] h
theorem fE_where_call (d : Nat) (a0 : Int32) (a1 : Int32) (h : zm_H) : zm_call (d + 1) 90 [.ref (0), .int a0, .int a1] h = fE_where d a0 a1 h := by
  show cond (Nat.ble 3 (zm_ml 90)) (fE_where d a0 a1 h) none = _
  rw [(by decide +kernel : Nat.ble 3 (zm_ml 90) = true)]
  rfl
noncomputable def fE_knot (d : Nat) (a0 : Int32) (a1 : Int32) (h : zm_H) : zm_R := zm_lim d 91 0 (zm_ent 91 [.ref (0), .int a0, .int a1]) [] h
noncomputable def fE_knot_c32 (d : Nat) (x1 : Int32) (x2 : Int32) (x3 : Int32) (x4 : Int32) (x5 : Int32) (h : zm_H) : zm_R := zm_lim d 91 32 [some (.ref (0)), some (.int x1), some (.int x2), some (.int x3), some (.int x4), some (.int x5), none] [] h
theorem fE_knot_call (d : Nat) (a0 : Int32) (a1 : Int32) (h : zm_H) : zm_call (d + 1) 91 [.ref (0), .int a0, .int a1] h = fE_knot d a0 a1 h := by
  show cond (Nat.ble 3 (zm_ml 91)) (fE_knot d a0 a1 h) none = _
  rw [(by decide +kernel : Nat.ble 3 (zm_ml 91) = true)]
  rfl
noncomputable def fE_correct (d : Nat) (a0 : Int32) (a1 : Int32) (a2 : Int32) (h : zm_H) : zm_R := zm_lim d 92 0 (zm_ent 92 [.ref (0), .int a0, .int a1, .int a2]) [] h
theorem fE_correct_call (d : Nat) (a0 : Int32) (a1 : Int32) (a2 : Int32) (h : zm_H) : zm_call (d + 1) 92 [.ref (0), .int a0, .int a1, .int a2] h = fE_correct d a0 a1 a2 h := by
  show cond (Nat.ble 4 (zm_ml 92)) (fE_correct d a0 a1 a2 h) none = _
  rw [(by decide +kernel : Nat.ble 4 (zm_ml 92) = true)]
  rfl
noncomputable def fE_share (d : Nat) (a0 : Int32) (a1 : Int32) (h : zm_H) : zm_R := zm_lim d 93 0 (zm_ent 93 [.ref (0), .int a0, .int a1]) [] h
noncomputable def fE_share_c34 (d : Nat) (x2 : Int32) (x4 : Int32) (x5 : Int32) (x6 : Int32) (h : zm_H) : zm_R := zm_lim d 93 34 [none, none, some (.int x2), some (.ref (14)), some (.int x4), some (.int x5), some (.int x6), none] [] h
theorem fE_share_call (d : Nat) (a0 : Int32) (a1 : Int32) (h : zm_H) : zm_call (d + 1) 93 [.ref (0), .int a0, .int a1] h = fE_share d a0 a1 h := by
  show cond (Nat.ble 3 (zm_ml 93)) (fE_share d a0 a1 h) none = _
  rw [(by decide +kernel : Nat.ble 3 (zm_ml 93) = true)]
  rfl
noncomputable def fE_bow (d : Nat) (a0 : Int32) (a1 : Int32) (h : zm_H) : zm_R := zm_lim d 94 0 (zm_ent 94 [.ref (0), .int a0, .int a1]) [] h
noncomputable def fE_bow_c38 (d : Nat) (x2 : Int32) (x4 : Int32) (x5 : Int32) (x6 : Int32) (h : zm_H) : zm_R := zm_lim d 94 38 [none, none, some (.int x2), some (.ref (14)), some (.int x4), some (.int x5), some (.int x6), none] [] h
theorem fE_bow_call (d : Nat) (a0 : Int32) (a1 : Int32) (h : zm_H) : zm_call (d + 1) 94 [.ref (0), .int a0, .int a1] h = fE_bow d a0 a1 h := by
  show cond (Nat.ble 3 (zm_ml 94)) (fE_bow d a0 a1 h) none = _
  rw [(by decide +kernel : Nat.ble 3 (zm_ml 94) = true)]
  rfl
noncomputable def fE_stain (d : Nat) (a0 : Int32) (a1 : Int32) (h : zm_H) : zm_R := zm_lim d 95 0 (zm_ent 95 [.ref (0), .int a0, .int a1]) [] h
theorem fE_stain_call (d : Nat) (a0 : Int32) (a1 : Int32) (h : zm_H) : zm_call (d + 1) 95 [.ref (0), .int a0, .int a1] h = fE_stain d a0 a1 h := by
  show cond (Nat.ble 3 (zm_ml 95)) (fE_stain d a0 a1 h) none = _
  rw [(by decide +kernel : Nat.ble 3 (zm_ml 95) = true)]
  rfl
noncomputable def fE_hide (d : Nat) (a0 : Int32) (h : zm_H) : zm_R := zm_lim d 96 0 (zm_ent 96 [.ref (0), .int a0]) [] h
noncomputable def fE_hide_c18 (d : Nat) (x3 : Int32) (h : zm_H) : zm_R := zm_lim d 96 18 [none, none, some (.ref (14)), some (.int x3)] [] h
theorem fE_hide_call (d : Nat) (a0 : Int32) (h : zm_H) : zm_call (d + 1) 96 [.ref (0), .int a0] h = fE_hide d a0 h := by
  show cond (Nat.ble 2 (zm_ml 96)) (fE_hide d a0 h) none = _
  rw [(by decide +kernel : Nat.ble 2 (zm_ml 96) = true)]
  rfl
noncomputable def fE_fit (d : Nat) (a0 : Int32) (a1 : Int32) (h : zm_H) : zm_R := zm_lim d 97 0 (zm_ent 97 [.ref (0), .int a0, .int a1]) [] h
noncomputable def fE_fit_c28 (d : Nat) (x2 : Int32) (x4 : Int32) (h : zm_H) : zm_R := zm_lim d 97 28 [none, none, some (.int x2), some (.ref (14)), some (.int x4)] [] h
theorem fE_fit_call (d : Nat) (a0 : Int32) (a1 : Int32) (h : zm_H) : zm_call (d + 1) 97 [.ref (0), .int a0, .int a1] h = fE_fit d a0 a1 h := by
  show cond (Nat.ble 3 (zm_ml 97)) (fE_fit d a0 a1 h) none = _
  rw [(by decide +kernel : Nat.ble 3 (zm_ml 97) = true)]
  rfl
noncomputable def fE_wear (d : Nat) (a0 : Int32) (a1 : Int32) (h : zm_H) : zm_R := zm_lim d 98 0 (zm_ent 98 [.ref (0), .int a0, .int a1]) [] h
noncomputable def fE_wear_c30 (d : Nat) (x2 : Int32) (x4 : Int32) (x5 : Int32) (h : zm_H) : zm_R := zm_lim d 98 30 [none, none, some (.int x2), some (.ref (14)), some (.int x4), some (.int x5)] [] h
theorem fE_wear_call (d : Nat) (a0 : Int32) (a1 : Int32) (h : zm_H) : zm_call (d + 1) 98 [.ref (0), .int a0, .int a1] h = fE_wear d a0 a1 h := by
  show cond (Nat.ble 3 (zm_ml 98)) (fE_wear d a0 a1 h) none = _
  rw [(by decide +kernel : Nat.ble 3 (zm_ml 98) = true)]
  rfl
noncomputable def fE_takes (d : Nat) (a0 : Int32) (a1 : Int32) (h : zm_H) : zm_R := zm_lim d 99 0 (zm_ent 99 [.ref (0), .int a0, .int a1]) [] h
theorem fE_takes_call (d : Nat) (a0 : Int32) (a1 : Int32) (h : zm_H) : zm_call (d + 1) 99 [.ref (0), .int a0, .int a1] h = fE_takes d a0 a1 h := by
  show cond (Nat.ble 3 (zm_ml 99)) (fE_takes d a0 a1 h) none = _
  rw [(by decide +kernel : Nat.ble 3 (zm_ml 99) = true)]
  rfl
noncomputable def fE_six (d : Nat) (a0 : Int32) (a1 : Int32) (a2 : Int32) (h : zm_H) : zm_R := zm_lim d 100 0 (zm_ent 100 [.ref (0), .int a0, .int a1, .int a2]) [] h
theorem fE_six_call (d : Nat) (a0 : Int32) (a1 : Int32) (a2 : Int32) (h : zm_H) : zm_call (d + 1) 100 [.ref (0), .int a0, .int a1, .int a2] h = fE_six d a0 a1 a2 h := by
  show cond (Nat.ble 4 (zm_ml 100)) (fE_six d a0 a1 a2 h) none = _
  rw [(by decide +kernel : Nat.ble 4 (zm_ml 100) = true)]
  rfl
noncomputable def fE_order (d : Nat) (a0 : Int32) (a1 : Int32) (a2 : Int32) (h : zm_H) : zm_R := zm_lim d 101 0 (zm_ent 101 [.ref (0), .int a0, .int a1, .int a2]) [] h
theorem fE_order_call (d : Nat) (a0 : Int32) (a1 : Int32) (a2 : Int32) (h : zm_H) : zm_call (d + 1) 101 [.ref (0), .int a0, .int a1, .int a2] h = fE_order d a0 a1 a2 h := by
  show cond (Nat.ble 4 (zm_ml 101)) (fE_order d a0 a1 a2 h) none = _
  rw [(by decide +kernel : Nat.ble 4 (zm_ml 101) = true)]
  rfl
noncomputable def fE_taxi (d : Nat) (a0 : Int32) (a1 : Int32) (a2 : Int32) (h : zm_H) : zm_R := zm_lim d 102 0 (zm_ent 102 [.ref (0), .int a0, .int a1, .int a2]) [] h
theorem fE_taxi_call (d : Nat) (a0 : Int32) (a1 : Int32) (a2 : Int32) (h : zm_H) : zm_call (d + 1) 102 [.ref (0), .int a0, .int a1, .int a2] h = fE_taxi d a0 a1 a2 h := by
  show cond (Nat.ble 4 (zm_ml 102)) (fE_taxi d a0 a1 a2 h) none = _
  rw [(by decide +kernel : Nat.ble 4 (zm_ml 102) = true)]
  rfl
noncomputable def fE_oneMore (d : Nat) (a0 : Int32) (a1 : Int32) (a2 : Int32) (h : zm_H) : zm_R := zm_lim d 103 0 (zm_ent 103 [.ref (0), .int a0, .int a1, .int a2]) [] h
theorem fE_oneMore_call (d : Nat) (a0 : Int32) (a1 : Int32) (a2 : Int32) (h : zm_H) : zm_call (d + 1) 103 [.ref (0), .int a0, .int a1, .int a2] h = fE_oneMore d a0 a1 a2 h := by
  show cond (Nat.ble 4 (zm_ml 103)) (fE_oneMore d a0 a1 a2 h) none = _
  rw [(by decide +kernel : Nat.ble 4 (zm_ml 103) = true)]
  rfl
noncomputable def fE_judge (d : Nat) (a0 : Int32) (a1 : Int32) (a2 : Int32) (h : zm_H) : zm_R := zm_lim d 104 0 (zm_ent 104 [.ref (0), .int a0, .int a1, .int a2]) [] h
theorem fE_judge_call (d : Nat) (a0 : Int32) (a1 : Int32) (a2 : Int32) (h : zm_H) : zm_call (d + 1) 104 [.ref (0), .int a0, .int a1, .int a2] h = fE_judge d a0 a1 a2 h := by
  show cond (Nat.ble 4 (zm_ml 104)) (fE_judge d a0 a1 a2 h) none = _
  rw [(by decide +kernel : Nat.ble 4 (zm_ml 104) = true)]
  rfl
noncomputable def fE_which (d : Nat) (a0 : Int32) (a1 : Int32) (a2 : Int32) (h : zm_H) : zm_R := zm_lim d 105 0 (zm_ent 105 [.ref (0), .int a0, .int a1, .int a2]) [] h
noncomputable def fE_which_c45 (d : Nat) (x1 : Int32) (x2 : Int32) (x3 : Int32) (x5 : Int32) (x6 : Int32) (h : zm_H) : zm_R := zm_lim d 105 45 [some (.ref (0)), some (.int x1), some (.int x2), some (.int x3), none, some (.int x5), some (.int x6)] [] h
theorem fE_which_call (d : Nat) (a0 : Int32) (a1 : Int32) (a2 : Int32) (h : zm_H) : zm_call (d + 1) 105 [.ref (0), .int a0, .int a1, .int a2] h = fE_which d a0 a1 a2 h := by
  show cond (Nat.ble 4 (zm_ml 105)) (fE_which d a0 a1 a2 h) none = _
  rw [(by decide +kernel : Nat.ble 4 (zm_ml 105) = true)]
  rfl
noncomputable def fE_began (d : Nat) (a0 : Int32) (a1 : Int32) (a2 : Int32) (h : zm_H) : zm_R := zm_lim d 106 0 (zm_ent 106 [.ref (0), .int a0, .int a1, .int a2]) [] h
noncomputable def fE_began_c47 (d : Nat) (x1 : Int32) (x3 : Int32) (x6 : Int32) (h : zm_H) : zm_R := zm_lim d 106 47 [some (.ref (0)), some (.int x1), none, some (.int x3), none, some (.ref (14)), some (.int x6)] [] h
theorem fE_began_call (d : Nat) (a0 : Int32) (a1 : Int32) (a2 : Int32) (h : zm_H) : zm_call (d + 1) 106 [.ref (0), .int a0, .int a1, .int a2] h = fE_began d a0 a1 a2 h := by
  show cond (Nat.ble 4 (zm_ml 106)) (fE_began d a0 a1 a2 h) none = _
  rw [(by decide +kernel : Nat.ble 4 (zm_ml 106) = true)]
  rfl
noncomputable def fE_thickness (d : Nat) (a0 : Int32) (a1 : Int32) (a2 : Int32) (h : zm_H) : zm_R := zm_lim d 107 0 (zm_ent 107 [.ref (0), .int a0, .int a1, .int a2]) [] h
noncomputable def fE_thickness_c45 (d : Nat) (x1 : Int32) (x3 : Int32) (x6 : Int32) (h : zm_H) : zm_R := zm_lim d 107 45 [some (.ref (0)), some (.int x1), none, some (.int x3), none, some (.ref (14)), some (.int x6)] [] h
theorem fE_thickness_call (d : Nat) (a0 : Int32) (a1 : Int32) (a2 : Int32) (h : zm_H) : zm_call (d + 1) 107 [.ref (0), .int a0, .int a1, .int a2] h = fE_thickness d a0 a1 a2 h := by
  show cond (Nat.ble 4 (zm_ml 107)) (fE_thickness d a0 a1 a2 h) none = _
  rw [(by decide +kernel : Nat.ble 4 (zm_ml 107) = true)]
  rfl
noncomputable def fE_drawn (d : Nat) (a0 : Int32) (a1 : Int32) (a2 : Int32) (a3 : Int32) (h : zm_H) : zm_R := zm_lim d 108 0 (zm_ent 108 [.ref (0), .int a0, .int a1, .int a2, .int a3]) [] h
noncomputable def fE_drawn_c65 (d : Nat) (x2 : Int32) (x4 : Int32) (x6 : Int32) (x7 : Int32) (x8 : Int32) (h : zm_H) : zm_R := zm_lim d 108 65 [none, none, some (.int x2), none, some (.int x4), some (.ref (14)), some (.int x6), some (.int x7), some (.int x8), none] [] h
theorem fE_drawn_call (d : Nat) (a0 : Int32) (a1 : Int32) (a2 : Int32) (a3 : Int32) (h : zm_H) : zm_call (d + 1) 108 [.ref (0), .int a0, .int a1, .int a2, .int a3] h = fE_drawn d a0 a1 a2 a3 h := by
  show cond (Nat.ble 5 (zm_ml 108)) (fE_drawn d a0 a1 a2 a3 h) none = _
  rw [(by decide +kernel : Nat.ble 5 (zm_ml 108) = true)]
  rfl
noncomputable def fE_tieOn (d : Nat) (a0 : Int32) (a1 : Int32) (h : zm_H) : zm_R := zm_lim d 109 0 (zm_ent 109 [.ref (0), .int a0, .int a1]) [] h
theorem fE_tieOn_call (d : Nat) (a0 : Int32) (a1 : Int32) (h : zm_H) : zm_call (d + 1) 109 [.ref (0), .int a0, .int a1] h = fE_tieOn d a0 a1 h := by
  show cond (Nat.ble 3 (zm_ml 109)) (fE_tieOn d a0 a1 h) none = _
  rw [(by decide +kernel : Nat.ble 3 (zm_ml 109) = true)]
  rfl
noncomputable def fE_untie (d : Nat) (a0 : Int32) (h : zm_H) : zm_R := zm_lim d 110 0 (zm_ent 110 [.ref (0), .int a0]) [] h
theorem fE_untie_call (d : Nat) (a0 : Int32) (h : zm_H) : zm_call (d + 1) 110 [.ref (0), .int a0] h = fE_untie d a0 h := by
  show cond (Nat.ble 2 (zm_ml 110)) (fE_untie d a0 h) none = _
  rw [(by decide +kernel : Nat.ble 2 (zm_ml 110) = true)]
  rfl
noncomputable def fE_led (d : Nat) (a0 : Int32) (h : zm_H) : zm_R := zm_lim d 111 0 (zm_ent 111 [.ref (0), .int a0]) [] h
theorem fE_led_call (d : Nat) (a0 : Int32) (h : zm_H) : zm_call (d + 1) 111 [.ref (0), .int a0] h = fE_led d a0 h := by
  show cond (Nat.ble 2 (zm_ml 111)) (fE_led d a0 h) none = _
  rw [(by decide +kernel : Nat.ble 2 (zm_ml 111) = true)]
  rfl
noncomputable def fE_image (d : Nat) (h : zm_H) : zm_R := zm_lim d 112 0 (zm_ent 112 [.ref (0)]) [] h
theorem fE_image_call (d : Nat) (h : zm_H) : zm_call (d + 1) 112 [.ref (0)] h = fE_image d h := by
  show cond (Nat.ble 1 (zm_ml 112)) (fE_image d h) none = _
  rw [(by decide +kernel : Nat.ble 1 (zm_ml 112) = true)]
  rfl
noncomputable def fE_back (d : Nat) (h : zm_H) : zm_R := zm_lim d 113 0 (zm_ent 113 [.ref (0)]) [] h
theorem fE_back_call (d : Nat) (h : zm_H) : zm_call (d + 1) 113 [.ref (0)] h = fE_back d h := by
  show cond (Nat.ble 1 (zm_ml 113)) (fE_back d h) none = _
  rw [(by decide +kernel : Nat.ble 1 (zm_ml 113) = true)]
  rfl
noncomputable def fE_undo (d : Nat) (h : zm_H) : zm_R := zm_lim d 114 0 (zm_ent 114 [.ref (0)]) [] h
theorem fE_undo_call (d : Nat) (h : zm_H) : zm_call (d + 1) 114 [.ref (0)] h = fE_undo d h := by
  show cond (Nat.ble 1 (zm_ml 114)) (fE_undo d h) none = _
  rw [(by decide +kernel : Nat.ble 1 (zm_ml 114) = true)]
  rfl
noncomputable def fE_redo (d : Nat) (h : zm_H) : zm_R := zm_lim d 115 0 (zm_ent 115 [.ref (0)]) [] h
theorem fE_redo_call (d : Nat) (h : zm_H) : zm_call (d + 1) 115 [.ref (0)] h = fE_redo d h := by
  show cond (Nat.ble 1 (zm_ml 115)) (fE_redo d h) none = _
  rw [(by decide +kernel : Nat.ble 1 (zm_ml 115) = true)]
  rfl
noncomputable def fE_body (d : Nat) (a0 : Int32) (h : zm_H) : zm_R := zm_lim d 116 0 (zm_ent 116 [.ref (0), .int a0]) [] h
theorem fE_body_call (d : Nat) (a0 : Int32) (h : zm_H) : zm_call (d + 1) 116 [.ref (0), .int a0] h = fE_body d a0 h := by
  show cond (Nat.ble 2 (zm_ml 116)) (fE_body d a0 h) none = _
  rw [(by decide +kernel : Nat.ble 2 (zm_ml 116) = true)]
  rfl
noncomputable def fE_act (d : Nat) (a0 : Int32) (a1 : Int32) (a2 : Int32) (h : zm_H) : zm_R := zm_lim d 117 0 (zm_ent 117 [.ref (0), .int a0, .int a1, .int a2]) [] h
theorem fE_act_call (d : Nat) (a0 : Int32) (a1 : Int32) (a2 : Int32) (h : zm_H) : zm_call (d + 1) 117 [.ref (0), .int a0, .int a1, .int a2] h = fE_act d a0 a1 a2 h := by
  show cond (Nat.ble 4 (zm_ml 117)) (fE_act d a0 a1 a2 h) none = _
  rw [(by decide +kernel : Nat.ble 4 (zm_ml 117) = true)]
  rfl
noncomputable def fE_trace (d : Nat) (a0 : Int32) (h : zm_H) : zm_R := zm_lim d 118 0 (zm_ent 118 [.ref (0), .int a0]) [] h
theorem fE_trace_call (d : Nat) (a0 : Int32) (h : zm_H) : zm_call (d + 1) 118 [.ref (0), .int a0] h = fE_trace d a0 h := by
  show cond (Nat.ble 2 (zm_ml 118)) (fE_trace d a0 h) none = _
  rw [(by decide +kernel : Nat.ble 2 (zm_ml 118) = true)]
  rfl
noncomputable def fE_keep (d : Nat) (a0 : Int32) (a1 : Int32) (h : zm_H) : zm_R := zm_lim d 119 0 (zm_ent 119 [.ref (0), .int a0, .int a1]) [] h
theorem fE_keep_call (d : Nat) (a0 : Int32) (a1 : Int32) (h : zm_H) : zm_call (d + 1) 119 [.ref (0), .int a0, .int a1] h = fE_keep d a0 a1 h := by
  show cond (Nat.ble 3 (zm_ml 119)) (fE_keep d a0 a1 h) none = _
  rw [(by decide +kernel : Nat.ble 3 (zm_ml 119) = true)]
  rfl
noncomputable def fE_row (d : Nat) (a0 : Int32) (a1 : Int32) (a2 : Int32) (h : zm_H) : zm_R := zm_lim d 120 0 (zm_ent 120 [.ref (0), .int a0, .int a1, .int a2]) [] h
theorem fE_row_call (d : Nat) (a0 : Int32) (a1 : Int32) (a2 : Int32) (h : zm_H) : zm_call (d + 1) 120 [.ref (0), .int a0, .int a1, .int a2] h = fE_row d a0 a1 a2 h := by
  show cond (Nat.ble 4 (zm_ml 120)) (fE_row d a0 a1 a2 h) none = _
  rw [(by decide +kernel : Nat.ble 4 (zm_ml 120) = true)]
  rfl
noncomputable def fE_put (d : Nat) (a0 : Int32) (a1 : Int32) (a2 : Int64) (h : zm_H) : zm_R := zm_lim d 121 0 (zm_ent 121 [.ref (0), .int a0, .int a1, .long a2]) [] h
theorem fE_put_call (d : Nat) (a0 : Int32) (a1 : Int32) (a2 : Int64) (h : zm_H) : zm_call (d + 1) 121 [.ref (0), .int a0, .int a1, .long a2] h = fE_put d a0 a1 a2 h := by
  show cond (Nat.ble 5 (zm_ml 121)) (fE_put d a0 a1 a2 h) none = _
  rw [(by decide +kernel : Nat.ble 5 (zm_ml 121) = true)]
  rfl
noncomputable def fE_element (d : Nat) (a0 : Int32) (a1 : Int32) (h : zm_H) : zm_R := zm_lim d 122 0 (zm_ent 122 [.ref (0), .int a0, .int a1]) [] h
theorem fE_element_call (d : Nat) (a0 : Int32) (a1 : Int32) (h : zm_H) : zm_call (d + 1) 122 [.ref (0), .int a0, .int a1] h = fE_element d a0 a1 h := by
  show cond (Nat.ble 3 (zm_ml 122)) (fE_element d a0 a1 h) none = _
  rw [(by decide +kernel : Nat.ble 3 (zm_ml 122) = true)]
  rfl
noncomputable def fE_shift (d : Nat) (a0 : Int32) (a1 : Int32) (a2 : Int32) (a3 : Int32) (a4 : Int32) (h : zm_H) : zm_R := zm_lim d 123 0 (zm_ent 123 [.ref (0), .int a0, .int a1, .int a2, .int a3, .int a4]) [] h
theorem fE_shift_call (d : Nat) (a0 : Int32) (a1 : Int32) (a2 : Int32) (a3 : Int32) (a4 : Int32) (h : zm_H) : zm_call (d + 1) 123 [.ref (0), .int a0, .int a1, .int a2, .int a3, .int a4] h = fE_shift d a0 a1 a2 a3 a4 h := by
  show cond (Nat.ble 6 (zm_ml 123)) (fE_shift d a0 a1 a2 a3 a4 h) none = _
  rw [(by decide +kernel : Nat.ble 6 (zm_ml 123) = true)]
  rfl
noncomputable def fE_taken (d : Nat) (a0 : Int32) (a1 : Int32) (h : zm_H) : zm_R := zm_lim d 124 0 (zm_ent 124 [.ref (0), .int a0, .int a1]) [] h
theorem fE_taken_call (d : Nat) (a0 : Int32) (a1 : Int32) (h : zm_H) : zm_call (d + 1) 124 [.ref (0), .int a0, .int a1] h = fE_taken d a0 a1 h := by
  show cond (Nat.ble 3 (zm_ml 124)) (fE_taken d a0 a1 h) none = _
  rw [(by decide +kernel : Nat.ble 3 (zm_ml 124) = true)]
  rfl
noncomputable def fE_count (d : Nat) (a0 : Int32) (h : zm_H) : zm_R := zm_lim d 125 0 (zm_ent 125 [.ref (0), .int a0]) [] h
theorem fE_count_call (d : Nat) (a0 : Int32) (h : zm_H) : zm_call (d + 1) 125 [.ref (0), .int a0] h = fE_count d a0 h := by
  show cond (Nat.ble 2 (zm_ml 125)) (fE_count d a0 h) none = _
  rw [(by decide +kernel : Nat.ble 2 (zm_ml 125) = true)]
  rfl
noncomputable def fE_isAllowed (d : Nat) (a0 : Int32) (a1 : Int32) (h : zm_H) : zm_R := zm_lim d 126 0 (zm_ent 126 [.int a0, .int a1]) [] h
theorem fE_isAllowed_call (d : Nat) (a0 : Int32) (a1 : Int32) (h : zm_H) : zm_call (d + 1) 126 [.int a0, .int a1] h = fE_isAllowed d a0 a1 h := by
  show cond (Nat.ble 2 (zm_ml 126)) (fE_isAllowed d a0 a1 h) none = _
  rw [(by decide +kernel : Nat.ble 2 (zm_ml 126) = true)]
  rfl
noncomputable def fE_isBeginning (d : Nat) (a0 : Int32) (h : zm_H) : zm_R := zm_lim d 127 0 (zm_ent 127 [.int a0]) [] h
theorem fE_isBeginning_call (d : Nat) (a0 : Int32) (h : zm_H) : zm_call (d + 1) 127 [.int a0] h = fE_isBeginning d a0 h := by
  show cond (Nat.ble 1 (zm_ml 127)) (fE_isBeginning d a0 h) none = _
  rw [(by decide +kernel : Nat.ble 1 (zm_ml 127) = true)]
  rfl
noncomputable def fE_isStart (d : Nat) (a0 : Int32) (h : zm_H) : zm_R := zm_lim d 128 0 (zm_ent 128 [.int a0]) [] h
theorem fE_isStart_call (d : Nat) (a0 : Int32) (h : zm_H) : zm_call (d + 1) 128 [.int a0] h = fE_isStart d a0 h := by
  show cond (Nat.ble 1 (zm_ml 128)) (fE_isStart d a0 h) none = _
  rw [(by decide +kernel : Nat.ble 1 (zm_ml 128) = true)]
  rfl
noncomputable def fE_isShelf (d : Nat) (a0 : Int32) (h : zm_H) : zm_R := zm_lim d 129 0 (zm_ent 129 [.int a0]) [] h
theorem fE_isShelf_call (d : Nat) (a0 : Int32) (h : zm_H) : zm_call (d + 1) 129 [.int a0] h = fE_isShelf d a0 h := by
  show cond (Nat.ble 1 (zm_ml 129)) (fE_isShelf d a0 h) none = _
  rw [(by decide +kernel : Nat.ble 1 (zm_ml 129) = true)]
  rfl
noncomputable def fE_isKnot (d : Nat) (a0 : Int32) (h : zm_H) : zm_R := zm_lim d 130 0 (zm_ent 130 [.int a0]) [] h
theorem fE_isKnot_call (d : Nat) (a0 : Int32) (h : zm_H) : zm_call (d + 1) 130 [.int a0] h = fE_isKnot d a0 h := by
  show cond (Nat.ble 1 (zm_ml 130)) (fE_isKnot d a0 h) none = _
  rw [(by decide +kernel : Nat.ble 1 (zm_ml 130) = true)]
  rfl
noncomputable def fE_isKind (d : Nat) (a0 : Int32) (h : zm_H) : zm_R := zm_lim d 131 0 (zm_ent 131 [.int a0]) [] h
theorem fE_isKind_call (d : Nat) (a0 : Int32) (h : zm_H) : zm_call (d + 1) 131 [.int a0] h = fE_isKind d a0 h := by
  show cond (Nat.ble 1 (zm_ml 131)) (fE_isKind d a0 h) none = _
  rw [(by decide +kernel : Nat.ble 1 (zm_ml 131) = true)]
  rfl
noncomputable def fE_isTieInKnot (d : Nat) (a0 : Int32) (h : zm_H) : zm_R := zm_lim d 132 0 (zm_ent 132 [.ref (0), .int a0]) [] h
theorem fE_isTieInKnot_call (d : Nat) (a0 : Int32) (h : zm_H) : zm_call (d + 1) 132 [.ref (0), .int a0] h = fE_isTieInKnot d a0 h := by
  show cond (Nat.ble 2 (zm_ml 132)) (fE_isTieInKnot d a0 h) none = _
  rw [(by decide +kernel : Nat.ble 2 (zm_ml 132) = true)]
  rfl
noncomputable def fE_hung (d : Nat) (a0 : Int32) (h : zm_H) : zm_R := zm_lim d 133 0 (zm_ent 133 [.ref (0), .int a0]) [] h
theorem fE_hung_call (d : Nat) (a0 : Int32) (h : zm_H) : zm_call (d + 1) 133 [.ref (0), .int a0] h = fE_hung d a0 h := by
  show cond (Nat.ble 2 (zm_ml 133)) (fE_hung d a0 h) none = _
  rw [(by decide +kernel : Nat.ble 2 (zm_ml 133) = true)]
  rfl
noncomputable def fE_tieCame (d : Nat) (r0 : Nat) (a1 : Int32) (h : zm_H) : zm_R := zm_lim d 134 0 (zm_ent 134 [.ref (0), .ref r0, .int a1]) [] h
theorem fE_tieCame_call (d : Nat) (r0 : Nat) (a1 : Int32) (h : zm_H) : zm_call (d + 1) 134 [.ref (0), .ref r0, .int a1] h = fE_tieCame d r0 a1 h := by
  show cond (Nat.ble 3 (zm_ml 134)) (fE_tieCame d r0 a1 h) none = _
  rw [(by decide +kernel : Nat.ble 3 (zm_ml 134) = true)]
  rfl
noncomputable def fE_minutesOf (d : Nat) (a0 : Int32) (h : zm_H) : zm_R := zm_lim d 135 0 (zm_ent 135 [.ref (0), .int a0, .ref (14)]) [] h
theorem fE_minutesOf_call (d : Nat) (a0 : Int32) (h : zm_H) : zm_call (d + 1) 135 [.ref (0), .int a0, .ref (14)] h = fE_minutesOf d a0 h := by
  show cond (Nat.ble 3 (zm_ml 135)) (fE_minutesOf d a0 h) none = _
  rw [(by decide +kernel : Nat.ble 3 (zm_ml 135) = true)]
  rfl
noncomputable def fE_gather (d : Nat) (a0 : Int32) (a1 : Int32) (h : zm_H) : zm_R := zm_lim d 136 0 (zm_ent 136 [.ref (0), .int a0, .int a1]) [] h
noncomputable def fE_gather_c22 (d : Nat) (x2 : Int32) (x3 : Int32) (h : zm_H) : zm_R := zm_lim d 136 22 [some (.ref (0)), none, some (.int x2), some (.int x3), none] [] h
noncomputable def fE_gather_c57 (d : Nat) (x2 : Int32) (x3 : Int32) (x4 : Int32) (h : zm_H) : zm_R := zm_lim d 136 57 [some (.ref (0)), none, some (.int x2), some (.int x3), some (.int x4)] [] h
theorem fE_gather_call (d : Nat) (a0 : Int32) (a1 : Int32) (h : zm_H) : zm_call (d + 1) 136 [.ref (0), .int a0, .int a1] h = fE_gather d a0 a1 h := by
  show cond (Nat.ble 3 (zm_ml 136)) (fE_gather d a0 a1 h) none = _
  rw [(by decide +kernel : Nat.ble 3 (zm_ml 136) = true)]
  rfl
noncomputable def fE_refusalOfRow (d : Nat) (a0 : Int32) (a1 : Int32) (h : zm_H) : zm_R := zm_lim d 137 0 (zm_ent 137 [.ref (0), .int a0, .int a1]) [] h
theorem fE_refusalOfRow_call (d : Nat) (a0 : Int32) (a1 : Int32) (h : zm_H) : zm_call (d + 1) 137 [.ref (0), .int a0, .int a1] h = fE_refusalOfRow d a0 a1 h := by
  show cond (Nat.ble 3 (zm_ml 137)) (fE_refusalOfRow d a0 a1 h) none = _
  rw [(by decide +kernel : Nat.ble 3 (zm_ml 137) = true)]
  rfl
noncomputable def fE_refusalOfDressing (d : Nat) (a0 : Int32) (a1 : Int32) (a2 : Int32) (h : zm_H) : zm_R := zm_lim d 138 0 (zm_ent 138 [.ref (0), .int a0, .int a1, .int a2]) [] h
theorem fE_refusalOfDressing_call (d : Nat) (a0 : Int32) (a1 : Int32) (a2 : Int32) (h : zm_H) : zm_call (d + 1) 138 [.ref (0), .int a0, .int a1, .int a2] h = fE_refusalOfDressing d a0 a1 a2 h := by
  show cond (Nat.ble 4 (zm_ml 138)) (fE_refusalOfDressing d a0 a1 a2 h) none = _
  rw [(by decide +kernel : Nat.ble 4 (zm_ml 138) = true)]
  rfl
noncomputable def fE_refusalOfTries (d : Nat) (a0 : Int32) (a1 : Int32) (h : zm_H) : zm_R := zm_lim d 139 0 (zm_ent 139 [.ref (0), .int a0, .int a1]) [] h
theorem fE_refusalOfTries_call (d : Nat) (a0 : Int32) (a1 : Int32) (h : zm_H) : zm_call (d + 1) 139 [.ref (0), .int a0, .int a1] h = fE_refusalOfTries d a0 a1 h := by
  show cond (Nat.ble 3 (zm_ml 139)) (fE_refusalOfTries d a0 a1 h) none = _
  rw [(by decide +kernel : Nat.ble 3 (zm_ml 139) = true)]
  rfl
noncomputable def fE_refusalOfPlace (d : Nat) (a0 : Int32) (a1 : Int32) (h : zm_H) : zm_R := zm_lim d 140 0 (zm_ent 140 [.ref (0), .int a0, .int a1]) [] h
theorem fE_refusalOfPlace_call (d : Nat) (a0 : Int32) (a1 : Int32) (h : zm_H) : zm_call (d + 1) 140 [.ref (0), .int a0, .int a1] h = fE_refusalOfPlace d a0 a1 h := by
  show cond (Nat.ble 3 (zm_ml 140)) (fE_refusalOfPlace d a0 a1 h) none = _
  rw [(by decide +kernel : Nat.ble 3 (zm_ml 140) = true)]
  rfl
noncomputable def fM_within (d : Nat) (a0 : Int32) (a1 : Int32) (a2 : Int32) (h : zm_H) : zm_R := zm_lim d 141 0 (zm_ent 141 [.int a0, .int a1, .int a2]) [] h
theorem fM_within_call (d : Nat) (a0 : Int32) (a1 : Int32) (a2 : Int32) (h : zm_H) : zm_call (d + 1) 141 [.int a0, .int a1, .int a2] h = fM_within d a0 a1 a2 h := by
  show cond (Nat.ble 3 (zm_ml 141)) (fM_within d a0 a1 a2 h) none = _
  rw [(by decide +kernel : Nat.ble 3 (zm_ml 141) = true)]
  rfl
noncomputable def fM_isTie (d : Nat) (a0 : Int32) (h : zm_H) : zm_R := zm_lim d 142 0 (zm_ent 142 [.ref (45), .int a0]) [] h
theorem fM_isTie_call (d : Nat) (a0 : Int32) (h : zm_H) : zm_call (d + 1) 142 [.ref (45), .int a0] h = fM_isTie d a0 h := by
  show cond (Nat.ble 2 (zm_ml 142)) (fM_isTie d a0 h) none = _
  rw [(by decide +kernel : Nat.ble 2 (zm_ml 142) = true)]
  rfl
noncomputable def fM_isKnot (d : Nat) (a0 : Int32) (h : zm_H) : zm_R := zm_lim d 143 0 (zm_ent 143 [.int a0]) [] h
theorem fM_isKnot_call (d : Nat) (a0 : Int32) (h : zm_H) : zm_call (d + 1) 143 [.int a0] h = fM_isKnot d a0 h := by
  show cond (Nat.ble 1 (zm_ml 143)) (fM_isKnot d a0 h) none = _
  rw [(by decide +kernel : Nat.ble 1 (zm_ml 143) = true)]
  rfl
noncomputable def fM_isTier (d : Nat) (a0 : Int32) (h : zm_H) : zm_R := zm_lim d 144 0 (zm_ent 144 [.ref (45), .int a0]) [] h
theorem fM_isTier_call (d : Nat) (a0 : Int32) (h : zm_H) : zm_call (d + 1) 144 [.ref (45), .int a0] h = fM_isTier d a0 h := by
  show cond (Nat.ble 2 (zm_ml 144)) (fM_isTier d a0 h) none = _
  rw [(by decide +kernel : Nat.ble 2 (zm_ml 144) = true)]
  rfl
noncomputable def fM_isTied (d : Nat) (a0 : Int32) (h : zm_H) : zm_R := zm_lim d 145 0 (zm_ent 145 [.ref (45), .int a0]) [] h
theorem fM_isTied_call (d : Nat) (a0 : Int32) (h : zm_H) : zm_call (d + 1) 145 [.ref (45), .int a0] h = fM_isTied d a0 h := by
  show cond (Nat.ble 2 (zm_ml 145)) (fM_isTied d a0 h) none = _
  rw [(by decide +kernel : Nat.ble 2 (zm_ml 145) = true)]
  rfl
noncomputable def fM_isPlace (d : Nat) (a0 : Int32) (h : zm_H) : zm_R := zm_lim d 146 0 (zm_ent 146 [.int a0]) [] h
theorem fM_isPlace_call (d : Nat) (a0 : Int32) (h : zm_H) : zm_call (d + 1) 146 [.int a0] h = fM_isPlace d a0 h := by
  show cond (Nat.ble 1 (zm_ml 146)) (fM_isPlace d a0 h) none = _
  rw [(by decide +kernel : Nat.ble 1 (zm_ml 146) = true)]
  rfl
noncomputable def fM_isShare (d : Nat) (a0 : Int32) (h : zm_H) : zm_R := zm_lim d 147 0 (zm_ent 147 [.int a0]) [] h
theorem fM_isShare_call (d : Nat) (a0 : Int32) (h : zm_H) : zm_call (d + 1) 147 [.int a0] h = fM_isShare d a0 h := by
  show cond (Nat.ble 1 (zm_ml 147)) (fM_isShare d a0 h) none = _
  rw [(by decide +kernel : Nat.ble 1 (zm_ml 147) = true)]
  rfl
noncomputable def fM_isTry (d : Nat) (a0 : Int32) (h : zm_H) : zm_R := zm_lim d 148 0 (zm_ent 148 [.int a0]) [] h
theorem fM_isTry_call (d : Nat) (a0 : Int32) (h : zm_H) : zm_call (d + 1) 148 [.int a0] h = fM_isTry d a0 h := by
  show cond (Nat.ble 1 (zm_ml 148)) (fM_isTry d a0 h) none = _
  rw [(by decide +kernel : Nat.ble 1 (zm_ml 148) = true)]
  rfl
noncomputable def fM_isShelf (d : Nat) (a0 : Int32) (h : zm_H) : zm_R := zm_lim d 149 0 (zm_ent 149 [.int a0]) [] h
theorem fM_isShelf_call (d : Nat) (a0 : Int32) (h : zm_H) : zm_call (d + 1) 149 [.int a0] h = fM_isShelf d a0 h := by
  show cond (Nat.ble 1 (zm_ml 149)) (fM_isShelf d a0 h) none = _
  rw [(by decide +kernel : Nat.ble 1 (zm_ml 149) = true)]
  rfl
noncomputable def fM_newTie (d : Nat) (a0 : Int32) (a1 : Int32) (a2 : Int32) (h : zm_H) : zm_R := zm_lim d 150 0 (zm_ent 150 [.ref (45), .int a0, .int a1, .int a2]) [] h
theorem fM_newTie_call (d : Nat) (a0 : Int32) (a1 : Int32) (a2 : Int32) (h : zm_H) : zm_call (d + 1) 150 [.ref (45), .int a0, .int a1, .int a2] h = fM_newTie d a0 a1 a2 h := by
  show cond (Nat.ble 4 (zm_ml 150)) (fM_newTie d a0 a1 a2 h) none = _
  rw [(by decide +kernel : Nat.ble 4 (zm_ml 150) = true)]
  rfl
noncomputable def fM_tie (d : Nat) (a0 : Int32) (a1 : Int32) (h : zm_H) : zm_R := zm_lim d 151 0 (zm_ent 151 [.ref (45), .int a0, .int a1]) [] h
theorem fM_tie_call (d : Nat) (a0 : Int32) (a1 : Int32) (h : zm_H) : zm_call (d + 1) 151 [.ref (45), .int a0, .int a1] h = fM_tie d a0 a1 h := by
  show cond (Nat.ble 3 (zm_ml 151)) (fM_tie d a0 a1 h) none = _
  rw [(by decide +kernel : Nat.ble 3 (zm_ml 151) = true)]
  rfl
noncomputable def fM_ties (d : Nat) (a0 : Int32) (a1 : Int32) (a2 : Int32) (h : zm_H) : zm_R := zm_lim d 152 0 (zm_ent 152 [.ref (45), .int a0, .int a1, .int a2]) [] h
noncomputable def fM_ties_c50 (d : Nat) (x1 : Int32) (x2 : Int32) (x3 : Int32) (x4 : Int32) (x5 : Int32) (h : zm_H) : zm_R := zm_lim d 152 50 [some (.ref (45)), some (.int x1), some (.int x2), some (.int x3), some (.int x4), some (.int x5), none, none, none] [] h
theorem fM_ties_call (d : Nat) (a0 : Int32) (a1 : Int32) (a2 : Int32) (h : zm_H) : zm_call (d + 1) 152 [.ref (45), .int a0, .int a1, .int a2] h = fM_ties d a0 a1 a2 h := by
  show cond (Nat.ble 4 (zm_ml 152)) (fM_ties d a0 a1 a2 h) none = _
  rw [(by decide +kernel : Nat.ble 4 (zm_ml 152) = true)]
  rfl
noncomputable def fM_tier (d : Nat) (a0 : Int32) (a1 : Int32) (h : zm_H) : zm_R := zm_lim d 153 0 (zm_ent 153 [.ref (45), .int a0, .int a1]) [] h
theorem fM_tier_call (d : Nat) (a0 : Int32) (a1 : Int32) (h : zm_H) : zm_call (d + 1) 153 [.ref (45), .int a0, .int a1] h = fM_tier d a0 a1 h := by
  show cond (Nat.ble 3 (zm_ml 153)) (fM_tier d a0 a1 h) none = _
  rw [(by decide +kernel : Nat.ble 3 (zm_ml 153) = true)]
  rfl
noncomputable def fM_isOf (d : Nat) (a0 : Int32) (a1 : Int32) (h : zm_H) : zm_R := zm_lim d 154 0 (zm_ent 154 [.ref (45), .int a0, .int a1]) [] h
theorem fM_isOf_call (d : Nat) (a0 : Int32) (a1 : Int32) (h : zm_H) : zm_call (d + 1) 154 [.ref (45), .int a0, .int a1] h = fM_isOf d a0 a1 h := by
  show cond (Nat.ble 3 (zm_ml 154)) (fM_isOf d a0 a1 h) none = _
  rw [(by decide +kernel : Nat.ble 3 (zm_ml 154) = true)]
  rfl
noncomputable def fM_isFit (d : Nat) (a0 : Int32) (a1 : Int32) (h : zm_H) : zm_R := zm_lim d 155 0 (zm_ent 155 [.int a0, .int a1]) [] h
theorem fM_isFit_call (d : Nat) (a0 : Int32) (a1 : Int32) (h : zm_H) : zm_call (d + 1) 155 [.int a0, .int a1] h = fM_isFit d a0 a1 h := by
  show cond (Nat.ble 2 (zm_ml 155)) (fM_isFit d a0 a1 h) none = _
  rw [(by decide +kernel : Nat.ble 2 (zm_ml 155) = true)]
  rfl
noncomputable def fM_get (d : Nat) (a0 : Int32) (a1 : Int32) (h : zm_H) : zm_R := zm_lim d 156 0 (zm_ent 156 [.ref (45), .int a0, .int a1]) [] h
theorem fM_get_call (d : Nat) (a0 : Int32) (a1 : Int32) (h : zm_H) : zm_call (d + 1) 156 [.ref (45), .int a0, .int a1] h = fM_get d a0 a1 h := by
  show cond (Nat.ble 3 (zm_ml 156)) (fM_get d a0 a1 h) none = _
  rw [(by decide +kernel : Nat.ble 3 (zm_ml 156) = true)]
  rfl
noncomputable def fM_becomes (d : Nat) (a0 : Int32) (a1 : Int32) (a2 : Int32) (h : zm_H) : zm_R := zm_lim d 157 0 (zm_ent 157 [.ref (45), .int a0, .int a1, .int a2]) [] h
theorem fM_becomes_call (d : Nat) (a0 : Int32) (a1 : Int32) (a2 : Int32) (h : zm_H) : zm_call (d + 1) 157 [.ref (45), .int a0, .int a1, .int a2] h = fM_becomes d a0 a1 a2 h := by
  show cond (Nat.ble 4 (zm_ml 157)) (fM_becomes d a0 a1 a2 h) none = _
  rw [(by decide +kernel : Nat.ble 4 (zm_ml 157) = true)]
  rfl
noncomputable def fM_mend (d : Nat) (a0 : Int32) (a1 : Int32) (a2 : Int32) (h : zm_H) : zm_R := zm_lim d 158 0 (zm_ent 158 [.ref (45), .int a0, .int a1, .int a2]) [] h
noncomputable def fM_mend_c55 (d : Nat) (x1 : Int32) (x2 : Int32) (x3 : Int32) (x4 : Int32) (x5 : Int32) (h : zm_H) : zm_R := zm_lim d 158 55 [some (.ref (45)), some (.int x1), some (.int x2), some (.int x3), some (.int x4), some (.int x5)] [] h
theorem fM_mend_call (d : Nat) (a0 : Int32) (a1 : Int32) (a2 : Int32) (h : zm_H) : zm_call (d + 1) 158 [.ref (45), .int a0, .int a1, .int a2] h = fM_mend d a0 a1 a2 h := by
  show cond (Nat.ble 4 (zm_ml 158)) (fM_mend d a0 a1 a2 h) none = _
  rw [(by decide +kernel : Nat.ble 4 (zm_ml 158) = true)]
  rfl
noncomputable def fM_of (d : Nat) (a0 : Int32) (a1 : Int32) (h : zm_H) : zm_R := zm_lim d 159 0 (zm_ent 159 [.ref (45), .int a0, .int a1]) [] h
theorem fM_of_call (d : Nat) (a0 : Int32) (a1 : Int32) (h : zm_H) : zm_call (d + 1) 159 [.ref (45), .int a0, .int a1] h = fM_of d a0 a1 h := by
  show cond (Nat.ble 3 (zm_ml 159)) (fM_of d a0 a1 h) none = _
  rw [(by decide +kernel : Nat.ble 3 (zm_ml 159) = true)]
  rfl
noncomputable def fM_undo (d : Nat) (h : zm_H) : zm_R := zm_lim d 160 0 (zm_ent 160 [.ref (45)]) [] h
theorem fM_undo_call (d : Nat) (h : zm_H) : zm_call (d + 1) 160 [.ref (45)] h = fM_undo d h := by
  show cond (Nat.ble 1 (zm_ml 160)) (fM_undo d h) none = _
  rw [(by decide +kernel : Nat.ble 1 (zm_ml 160) = true)]
  rfl
noncomputable def fM_redo (d : Nat) (h : zm_H) : zm_R := zm_lim d 161 0 (zm_ent 161 [.ref (45)]) [] h
theorem fM_redo_call (d : Nat) (h : zm_H) : zm_call (d + 1) 161 [.ref (45)] h = fM_redo d h := by
  show cond (Nat.ble 1 (zm_ml 161)) (fM_redo d h) none = _
  rw [(by decide +kernel : Nat.ble 1 (zm_ml 161) = true)]
  rfl
noncomputable def fM_feed (d : Nat) (a0 : Int32) (h : zm_H) : zm_R := zm_lim d 162 0 (zm_ent 162 [.ref (45), .int a0]) [] h
theorem fM_feed_call (d : Nat) (a0 : Int32) (h : zm_H) : zm_call (d + 1) 162 [.ref (45), .int a0] h = fM_feed d a0 h := by
  show cond (Nat.ble 2 (zm_ml 162)) (fM_feed d a0 h) none = _
  rw [(by decide +kernel : Nat.ble 2 (zm_ml 162) = true)]
  rfl
noncomputable def fM_sign (d : Nat) (h : zm_H) : zm_R := zm_lim d 163 0 (zm_ent 163 [.ref (45)]) [] h
theorem fM_sign_call (d : Nat) (h : zm_H) : zm_call (d + 1) 163 [.ref (45)] h = fM_sign d h := by
  show cond (Nat.ble 1 (zm_ml 163)) (fM_sign d h) none = _
  rw [(by decide +kernel : Nat.ble 1 (zm_ml 163) = true)]
  rfl
noncomputable def fM_is (d : Nat) (a0 : Int32) (h : zm_H) : zm_R := zm_lim d 164 0 (zm_ent 164 [.ref (45), .int a0]) [] h
theorem fM_is_call (d : Nat) (a0 : Int32) (h : zm_H) : zm_call (d + 1) 164 [.ref (45), .int a0] h = fM_is d a0 h := by
  show cond (Nat.ble 2 (zm_ml 164)) (fM_is d a0 h) none = _
  rw [(by decide +kernel : Nat.ble 2 (zm_ml 164) = true)]
  rfl
noncomputable def fM_codes (d : Nat) (a0 : Int32) (h : zm_H) : zm_R := zm_lim d 165 0 (zm_ent 165 [.ref (45), .int a0]) [] h
theorem fM_codes_call (d : Nat) (a0 : Int32) (h : zm_H) : zm_call (d + 1) 165 [.ref (45), .int a0] h = fM_codes d a0 h := by
  show cond (Nat.ble 2 (zm_ml 165)) (fM_codes d a0 h) none = _
  rw [(by decide +kernel : Nat.ble 2 (zm_ml 165) = true)]
  rfl
noncomputable def fM_isDigit (d : Nat) (h : zm_H) : zm_R := zm_lim d 166 0 (zm_ent 166 [.ref (45)]) [] h
theorem fM_isDigit_call (d : Nat) (h : zm_H) : zm_call (d + 1) 166 [.ref (45)] h = fM_isDigit d h := by
  show cond (Nat.ble 1 (zm_ml 166)) (fM_isDigit d h) none = _
  rw [(by decide +kernel : Nat.ble 1 (zm_ml 166) = true)]
  rfl
noncomputable def fM_nameOf (d : Nat) (a0 : Int32) (h : zm_H) : zm_R := zm_lim d 167 0 (zm_ent 167 [.int a0]) [] h
theorem fM_nameOf_call (d : Nat) (a0 : Int32) (h : zm_H) : zm_call (d + 1) 167 [.int a0] h = fM_nameOf d a0 h := by
  show cond (Nat.ble 1 (zm_ml 167)) (fM_nameOf d a0 h) none = _
  rw [(by decide +kernel : Nat.ble 1 (zm_ml 167) = true)]
  rfl
noncomputable def fM_isO (d : Nat) (h : zm_H) : zm_R := zm_lim d 168 0 (zm_ent 168 [.ref (45)]) [] h
noncomputable def fM_isO_c11 (d : Nat) (x1 : Int32) (x2 : Int32) (h : zm_H) : zm_R := zm_lim d 168 11 [some (.ref (45)), some (.int x1), some (.int x2)] [] h
theorem fM_isO_call (d : Nat) (h : zm_H) : zm_call (d + 1) 168 [.ref (45)] h = fM_isO d h := by
  show cond (Nat.ble 1 (zm_ml 168)) (fM_isO d h) none = _
  rw [(by decide +kernel : Nat.ble 1 (zm_ml 168) = true)]
  rfl
noncomputable def fM_isP (d : Nat) (h : zm_H) : zm_R := zm_lim d 169 0 (zm_ent 169 [.ref (45)]) [] h
noncomputable def fM_isP_c9 (d : Nat) (h : zm_H) : zm_R := zm_lim d 169 9 [some (.ref (45)), none] [] h
theorem fM_isP_call (d : Nat) (h : zm_H) : zm_call (d + 1) 169 [.ref (45)] h = fM_isP d h := by
  show cond (Nat.ble 1 (zm_ml 169)) (fM_isP d h) none = _
  rw [(by decide +kernel : Nat.ble 1 (zm_ml 169) = true)]
  rfl
noncomputable def fM_isS (d : Nat) (h : zm_H) : zm_R := zm_lim d 170 0 (zm_ent 170 [.ref (45)]) [] h
noncomputable def fM_isS_c9 (d : Nat) (h : zm_H) : zm_R := zm_lim d 170 9 [some (.ref (45)), none] [] h
theorem fM_isS_call (d : Nat) (h : zm_H) : zm_call (d + 1) 170 [.ref (45)] h = fM_isS d h := by
  show cond (Nat.ble 1 (zm_ml 170)) (fM_isS d h) none = _
  rw [(by decide +kernel : Nat.ble 1 (zm_ml 170) = true)]
  rfl
noncomputable def fM_isB (d : Nat) (h : zm_H) : zm_R := zm_lim d 171 0 (zm_ent 171 [.ref (45)]) [] h
theorem fM_isB_call (d : Nat) (h : zm_H) : zm_call (d + 1) 171 [.ref (45)] h = fM_isB d h := by
  show cond (Nat.ble 1 (zm_ml 171)) (fM_isB d h) none = _
  rw [(by decide +kernel : Nat.ble 1 (zm_ml 171) = true)]
  rfl
noncomputable def fM_isA (d : Nat) (h : zm_H) : zm_R := zm_lim d 172 0 (zm_ent 172 [.ref (45)]) [] h
noncomputable def fM_isA_c9 (d : Nat) (h : zm_H) : zm_R := zm_lim d 172 9 [some (.ref (45))] [] h
theorem fM_isA_call (d : Nat) (h : zm_H) : zm_call (d + 1) 172 [.ref (45)] h = fM_isA d h := by
  show cond (Nat.ble 1 (zm_ml 172)) (fM_isA d h) none = _
  rw [(by decide +kernel : Nat.ble 1 (zm_ml 172) = true)]
  rfl
noncomputable def fM_isE (d : Nat) (h : zm_H) : zm_R := zm_lim d 173 0 (zm_ent 173 [.ref (45)]) [] h
noncomputable def fM_isE_c9 (d : Nat) (h : zm_H) : zm_R := zm_lim d 173 9 [some (.ref (45))] [] h
theorem fM_isE_call (d : Nat) (h : zm_H) : zm_call (d + 1) 173 [.ref (45)] h = fM_isE d h := by
  show cond (Nat.ble 1 (zm_ml 173)) (fM_isE d h) none = _
  rw [(by decide +kernel : Nat.ble 1 (zm_ml 173) = true)]
  rfl
noncomputable def fM_isLine (d : Nat) (h : zm_H) : zm_R := zm_lim d 174 0 (zm_ent 174 [.ref (45)]) [] h
theorem fM_isLine_call (d : Nat) (h : zm_H) : zm_call (d + 1) 174 [.ref (45)] h = fM_isLine d h := by
  show cond (Nat.ble 1 (zm_ml 174)) (fM_isLine d h) none = _
  rw [(by decide +kernel : Nat.ble 1 (zm_ml 174) = true)]
  rfl
noncomputable def fM_law (d : Nat) (h : zm_H) : zm_R := zm_lim d 175 0 (zm_ent 175 [.ref (45)]) [] h
noncomputable def fM_law_c25 (d : Nat) (x1 : Int32) (h : zm_H) : zm_R := zm_lim d 175 25 [some (.ref (45)), some (.int x1), none, none] [] h
noncomputable def fM_law_c99 (d : Nat) (x3 : Int32) (h : zm_H) : zm_R := zm_lim d 175 99 [some (.ref (45)), none, none, some (.int x3)] [] h
noncomputable def fM_law_c151 (d : Nat) (x3 : Int32) (h : zm_H) : zm_R := zm_lim d 175 151 [some (.ref (45)), none, none, some (.int x3)] [] h
theorem fM_law_call (d : Nat) (h : zm_H) : zm_call (d + 1) 175 [.ref (45)] h = fM_law d h := by
  show cond (Nat.ble 1 (zm_ml 175)) (fM_law d h) none = _
  rw [(by decide +kernel : Nat.ble 1 (zm_ml 175) = true)]
  rfl
noncomputable def fM_both (d : Nat) (a0 : Int32) (a1 : Int32) (a2 : Int32) (h : zm_H) : zm_R := zm_lim d 176 0 (zm_ent 176 [.int a0, .int a1, .int a2]) [] h
theorem fM_both_call (d : Nat) (a0 : Int32) (a1 : Int32) (a2 : Int32) (h : zm_H) : zm_call (d + 1) 176 [.int a0, .int a1, .int a2] h = fM_both d a0 a1 a2 h := by
  show cond (Nat.ble 3 (zm_ml 176)) (fM_both d a0 a1 a2 h) none = _
  rw [(by decide +kernel : Nat.ble 3 (zm_ml 176) = true)]
  rfl
noncomputable def fM_worked (d : Nat) (a0 : Int32) (a1 : Int32) (a2 : Int32) (a3 : Int32) (a4 : Int32) (h : zm_H) : zm_R := zm_lim d 177 0 (zm_ent 177 [.ref (45), .int a0, .int a1, .int a2, .int a3, .int a4]) [] h
noncomputable def fM_worked_c6 (d : Nat) (x2 : Int32) (x3 : Int32) (x4 : Int32) (x5 : Int32) (x6 : Int32) (x7 : Int32) (h : zm_H) : zm_R := zm_lim d 177 6 [some (.ref (45)), none, some (.int x2), some (.int x3), some (.int x4), some (.int x5), some (.int x6), some (.int x7), none] [] h
theorem fM_worked_call (d : Nat) (a0 : Int32) (a1 : Int32) (a2 : Int32) (a3 : Int32) (a4 : Int32) (h : zm_H) : zm_call (d + 1) 177 [.ref (45), .int a0, .int a1, .int a2, .int a3, .int a4] h = fM_worked d a0 a1 a2 a3 a4 h := by
  show cond (Nat.ble 6 (zm_ml 177)) (fM_worked d a0 a1 a2 a3 a4 h) none = _
  rw [(by decide +kernel : Nat.ble 6 (zm_ml 177) = true)]
  rfl
noncomputable def fM_cloth (d : Nat) (a0 : Int32) (a1 : Int32) (a2 : Int32) (h : zm_H) : zm_R := zm_lim d 178 0 (zm_ent 178 [.ref (45), .int a0, .int a1, .int a2]) [] h
noncomputable def fM_cloth_c52 (d : Nat) (x1 : Int32) (x2 : Int32) (x3 : Int32) (x4 : Int32) (h : zm_H) : zm_R := zm_lim d 178 52 [some (.ref (45)), some (.int x1), some (.int x2), some (.int x3), some (.int x4)] [] h
theorem fM_cloth_call (d : Nat) (a0 : Int32) (a1 : Int32) (a2 : Int32) (h : zm_H) : zm_call (d + 1) 178 [.ref (45), .int a0, .int a1, .int a2] h = fM_cloth d a0 a1 a2 h := by
  show cond (Nat.ble 4 (zm_ml 178)) (fM_cloth d a0 a1 a2 h) none = _
  rw [(by decide +kernel : Nat.ble 4 (zm_ml 178) = true)]
  rfl
noncomputable def fM_thin (d : Nat) (a0 : Int32) (a1 : Int32) (h : zm_H) : zm_R := zm_lim d 179 0 (zm_ent 179 [.ref (45), .int a0, .int a1]) [] h
theorem fM_thin_call (d : Nat) (a0 : Int32) (a1 : Int32) (h : zm_H) : zm_call (d + 1) 179 [.ref (45), .int a0, .int a1] h = fM_thin d a0 a1 h := by
  show cond (Nat.ble 3 (zm_ml 179)) (fM_thin d a0 a1 h) none = _
  rw [(by decide +kernel : Nat.ble 3 (zm_ml 179) = true)]
  rfl
noncomputable def fM_isRight (d : Nat) (a0 : Int32) (a1 : Int32) (a2 : Int32) (h : zm_H) : zm_R := zm_lim d 180 0 (zm_ent 180 [.ref (45), .int a0, .int a1, .int a2]) [] h
theorem fM_isRight_call (d : Nat) (a0 : Int32) (a1 : Int32) (a2 : Int32) (h : zm_H) : zm_call (d + 1) 180 [.ref (45), .int a0, .int a1, .int a2] h = fM_isRight d a0 a1 a2 h := by
  show cond (Nat.ble 4 (zm_ml 180)) (fM_isRight d a0 a1 a2 h) none = _
  rw [(by decide +kernel : Nat.ble 4 (zm_ml 180) = true)]
  rfl
noncomputable def fM_hangsRight (d : Nat) (a0 : Int32) (a1 : Int32) (a2 : Int32) (h : zm_H) : zm_R := zm_lim d 181 0 (zm_ent 181 [.ref (45), .int a0, .int a1, .int a2]) [] h
theorem fM_hangsRight_call (d : Nat) (a0 : Int32) (a1 : Int32) (a2 : Int32) (h : zm_H) : zm_call (d + 1) 181 [.ref (45), .int a0, .int a1, .int a2] h = fM_hangsRight d a0 a1 a2 h := by
  show cond (Nat.ble 4 (zm_ml 181)) (fM_hangsRight d a0 a1 a2 h) none = _
  rw [(by decide +kernel : Nat.ble 4 (zm_ml 181) = true)]
  rfl
noncomputable def fM_hangs (d : Nat) (a0 : Int32) (a1 : Int32) (a2 : Int32) (h : zm_H) : zm_R := zm_lim d 182 0 (zm_ent 182 [.ref (45), .int a0, .int a1, .int a2]) [] h
theorem fM_hangs_call (d : Nat) (a0 : Int32) (a1 : Int32) (a2 : Int32) (h : zm_H) : zm_call (d + 1) 182 [.ref (45), .int a0, .int a1, .int a2] h = fM_hangs d a0 a1 a2 h := by
  show cond (Nat.ble 4 (zm_ml 182)) (fM_hangs d a0 a1 a2 h) none = _
  rw [(by decide +kernel : Nat.ble 4 (zm_ml 182) = true)]
  rfl
noncomputable def fM_rights (d : Nat) (a0 : Int32) (a1 : Int32) (a2 : Int32) (h : zm_H) : zm_R := zm_lim d 183 0 (zm_ent 183 [.ref (45), .int a0, .int a1, .int a2]) [] h
noncomputable def fM_rights_c14 (d : Nat) (x1 : Int32) (x2 : Int32) (x3 : Int32) (x4 : Int32) (x5 : Int32) (x6 : Int32) (x7 : Int32) (h : zm_H) : zm_R := zm_lim d 183 14 [some (.ref (45)), some (.int x1), some (.int x2), some (.int x3), some (.int x4), some (.int x5), some (.int x6), some (.int x7)] [] h
theorem fM_rights_call (d : Nat) (a0 : Int32) (a1 : Int32) (a2 : Int32) (h : zm_H) : zm_call (d + 1) 183 [.ref (45), .int a0, .int a1, .int a2] h = fM_rights d a0 a1 a2 h := by
  show cond (Nat.ble 4 (zm_ml 183)) (fM_rights d a0 a1 a2 h) none = _
  rw [(by decide +kernel : Nat.ble 4 (zm_ml 183) = true)]
  rfl
noncomputable def fM_where (d : Nat) (a0 : Int32) (a1 : Int32) (h : zm_H) : zm_R := zm_lim d 184 0 (zm_ent 184 [.ref (45), .int a0, .int a1]) [] h
theorem fM_where_call (d : Nat) (a0 : Int32) (a1 : Int32) (h : zm_H) : zm_call (d + 1) 184 [.ref (45), .int a0, .int a1] h = fM_where d a0 a1 h := by
  show cond (Nat.ble 3 (zm_ml 184)) (fM_where d a0 a1 h) none = _
  rw [(by decide +kernel : Nat.ble 3 (zm_ml 184) = true)]
  rfl
noncomputable def fM_knot (d : Nat) (a0 : Int32) (a1 : Int32) (h : zm_H) : zm_R := zm_lim d 185 0 (zm_ent 185 [.ref (45), .int a0, .int a1]) [] h
noncomputable def fM_knot_c28 (d : Nat) (x1 : Int32) (x2 : Int32) (x3 : Int32) (x4 : Int32) (x5 : Int32) (h : zm_H) : zm_R := zm_lim d 185 28 [some (.ref (45)), some (.int x1), some (.int x2), some (.int x3), some (.int x4), some (.int x5), none, none] [] h
theorem fM_knot_call (d : Nat) (a0 : Int32) (a1 : Int32) (h : zm_H) : zm_call (d + 1) 185 [.ref (45), .int a0, .int a1] h = fM_knot d a0 a1 h := by
  show cond (Nat.ble 3 (zm_ml 185)) (fM_knot d a0 a1 h) none = _
  rw [(by decide +kernel : Nat.ble 3 (zm_ml 185) = true)]
  rfl
noncomputable def fM_next (d : Nat) (a0 : Int32) (a1 : Int32) (a2 : Int32) (h : zm_H) : zm_R := zm_lim d 186 0 (zm_ent 186 [.ref (45), .int a0, .int a1, .int a2]) [] h
theorem fM_next_call (d : Nat) (a0 : Int32) (a1 : Int32) (a2 : Int32) (h : zm_H) : zm_call (d + 1) 186 [.ref (45), .int a0, .int a1, .int a2] h = fM_next d a0 a1 a2 h := by
  show cond (Nat.ble 4 (zm_ml 186)) (fM_next d a0 a1 a2 h) none = _
  rw [(by decide +kernel : Nat.ble 4 (zm_ml 186) = true)]
  rfl
noncomputable def fM_tries (d : Nat) (a0 : Int32) (a1 : Int32) (a2 : Int32) (a3 : Int32) (h : zm_H) : zm_R := zm_lim d 187 0 (zm_ent 187 [.ref (45), .int a0, .int a1, .int a2, .int a3]) [] h
noncomputable def fM_tries_c8 (d : Nat) (x1 : Int32) (x2 : Int32) (x4 : Int32) (x5 : Int32) (h : zm_H) : zm_R := zm_lim d 187 8 [some (.ref (45)), some (.int x1), some (.int x2), none, some (.int x4), some (.int x5), none] [] h
theorem fM_tries_call (d : Nat) (a0 : Int32) (a1 : Int32) (a2 : Int32) (a3 : Int32) (h : zm_H) : zm_call (d + 1) 187 [.ref (45), .int a0, .int a1, .int a2, .int a3] h = fM_tries d a0 a1 a2 a3 h := by
  show cond (Nat.ble 5 (zm_ml 187)) (fM_tries d a0 a1 a2 a3 h) none = _
  rw [(by decide +kernel : Nat.ble 5 (zm_ml 187) = true)]
  rfl
noncomputable def fM_correct (d : Nat) (a0 : Int32) (a1 : Int32) (a2 : Int32) (h : zm_H) : zm_R := zm_lim d 188 0 (zm_ent 188 [.ref (45), .int a0, .int a1, .int a2]) [] h
theorem fM_correct_call (d : Nat) (a0 : Int32) (a1 : Int32) (a2 : Int32) (h : zm_H) : zm_call (d + 1) 188 [.ref (45), .int a0, .int a1, .int a2] h = fM_correct d a0 a1 a2 h := by
  show cond (Nat.ble 4 (zm_ml 188)) (fM_correct d a0 a1 a2 h) none = _
  rw [(by decide +kernel : Nat.ble 4 (zm_ml 188) = true)]
  rfl
noncomputable def fM_share (d : Nat) (a0 : Int32) (a1 : Int32) (h : zm_H) : zm_R := zm_lim d 189 0 (zm_ent 189 [.ref (45), .int a0, .int a1]) [] h
noncomputable def fM_share_c27 (d : Nat) (x1 : Int32) (x2 : Int32) (x3 : Int32) (x4 : Int32) (x5 : Int32) (h : zm_H) : zm_R := zm_lim d 189 27 [some (.ref (45)), some (.int x1), some (.int x2), some (.int x3), some (.int x4), some (.int x5), none] [] h
theorem fM_share_call (d : Nat) (a0 : Int32) (a1 : Int32) (h : zm_H) : zm_call (d + 1) 189 [.ref (45), .int a0, .int a1] h = fM_share d a0 a1 h := by
  show cond (Nat.ble 3 (zm_ml 189)) (fM_share d a0 a1 h) none = _
  rw [(by decide +kernel : Nat.ble 3 (zm_ml 189) = true)]
  rfl
noncomputable def fM_bow (d : Nat) (a0 : Int32) (a1 : Int32) (h : zm_H) : zm_R := zm_lim d 190 0 (zm_ent 190 [.ref (45), .int a0, .int a1]) [] h
noncomputable def fM_bow_c27 (d : Nat) (x1 : Int32) (x2 : Int32) (x3 : Int32) (x4 : Int32) (x5 : Int32) (h : zm_H) : zm_R := zm_lim d 190 27 [some (.ref (45)), some (.int x1), some (.int x2), some (.int x3), some (.int x4), some (.int x5), none] [] h
theorem fM_bow_call (d : Nat) (a0 : Int32) (a1 : Int32) (h : zm_H) : zm_call (d + 1) 190 [.ref (45), .int a0, .int a1] h = fM_bow d a0 a1 h := by
  show cond (Nat.ble 3 (zm_ml 190)) (fM_bow d a0 a1 h) none = _
  rw [(by decide +kernel : Nat.ble 3 (zm_ml 190) = true)]
  rfl
noncomputable def fM_stained (d : Nat) (a0 : Int32) (a1 : Int32) (a2 : Int32) (h : zm_H) : zm_R := zm_lim d 191 0 (zm_ent 191 [.ref (45), .int a0, .int a1, .int a2]) [] h
theorem fM_stained_call (d : Nat) (a0 : Int32) (a1 : Int32) (a2 : Int32) (h : zm_H) : zm_call (d + 1) 191 [.ref (45), .int a0, .int a1, .int a2] h = fM_stained d a0 a1 a2 h := by
  show cond (Nat.ble 4 (zm_ml 191)) (fM_stained d a0 a1 a2 h) none = _
  rw [(by decide +kernel : Nat.ble 4 (zm_ml 191) = true)]
  rfl
noncomputable def fM_stain (d : Nat) (a0 : Int32) (a1 : Int32) (h : zm_H) : zm_R := zm_lim d 192 0 (zm_ent 192 [.ref (45), .int a0, .int a1]) [] h
theorem fM_stain_call (d : Nat) (a0 : Int32) (a1 : Int32) (h : zm_H) : zm_call (d + 1) 192 [.ref (45), .int a0, .int a1] h = fM_stain d a0 a1 h := by
  show cond (Nat.ble 3 (zm_ml 192)) (fM_stain d a0 a1 h) none = _
  rw [(by decide +kernel : Nat.ble 3 (zm_ml 192) = true)]
  rfl
noncomputable def fM_hide (d : Nat) (a0 : Int32) (h : zm_H) : zm_R := zm_lim d 193 0 (zm_ent 193 [.ref (45), .int a0]) [] h
noncomputable def fM_hide_c12 (d : Nat) (x1 : Int32) (x2 : Int32) (h : zm_H) : zm_R := zm_lim d 193 12 [some (.ref (45)), some (.int x1), some (.int x2)] [] h
theorem fM_hide_call (d : Nat) (a0 : Int32) (h : zm_H) : zm_call (d + 1) 193 [.ref (45), .int a0] h = fM_hide d a0 h := by
  show cond (Nat.ble 2 (zm_ml 193)) (fM_hide d a0 h) none = _
  rw [(by decide +kernel : Nat.ble 2 (zm_ml 193) = true)]
  rfl
noncomputable def fM_fit (d : Nat) (a0 : Int32) (a1 : Int32) (h : zm_H) : zm_R := zm_lim d 194 0 (zm_ent 194 [.ref (45), .int a0, .int a1]) [] h
noncomputable def fM_fit_c38 (d : Nat) (x1 : Int32) (x2 : Int32) (x3 : Int32) (x4 : Int32) (x5 : Int32) (h : zm_H) : zm_R := zm_lim d 194 38 [some (.ref (45)), some (.int x1), some (.int x2), some (.int x3), some (.int x4), some (.int x5)] [] h
theorem fM_fit_call (d : Nat) (a0 : Int32) (a1 : Int32) (h : zm_H) : zm_call (d + 1) 194 [.ref (45), .int a0, .int a1] h = fM_fit d a0 a1 h := by
  show cond (Nat.ble 3 (zm_ml 194)) (fM_fit d a0 a1 h) none = _
  rw [(by decide +kernel : Nat.ble 3 (zm_ml 194) = true)]
  rfl
noncomputable def fM_wear (d : Nat) (a0 : Int32) (a1 : Int32) (h : zm_H) : zm_R := zm_lim d 195 0 (zm_ent 195 [.ref (45), .int a0, .int a1]) [] h
noncomputable def fM_wear_c37 (d : Nat) (x1 : Int32) (x2 : Int32) (x3 : Int32) (x4 : Int32) (x5 : Int32) (x6 : Int32) (h : zm_H) : zm_R := zm_lim d 195 37 [some (.ref (45)), some (.int x1), some (.int x2), some (.int x3), some (.int x4), some (.int x5), some (.int x6)] [] h
theorem fM_wear_call (d : Nat) (a0 : Int32) (a1 : Int32) (h : zm_H) : zm_call (d + 1) 195 [.ref (45), .int a0, .int a1] h = fM_wear d a0 a1 h := by
  show cond (Nat.ble 3 (zm_ml 195)) (fM_wear d a0 a1 h) none = _
  rw [(by decide +kernel : Nat.ble 3 (zm_ml 195) = true)]
  rfl
noncomputable def fM_takesFor (d : Nat) (a0 : Int32) (a1 : Int32) (a2 : Int32) (h : zm_H) : zm_R := zm_lim d 196 0 (zm_ent 196 [.ref (45), .int a0, .int a1, .int a2]) [] h
theorem fM_takesFor_call (d : Nat) (a0 : Int32) (a1 : Int32) (a2 : Int32) (h : zm_H) : zm_call (d + 1) 196 [.ref (45), .int a0, .int a1, .int a2] h = fM_takesFor d a0 a1 a2 h := by
  show cond (Nat.ble 4 (zm_ml 196)) (fM_takesFor d a0 a1 a2 h) none = _
  rw [(by decide +kernel : Nat.ble 4 (zm_ml 196) = true)]
  rfl
noncomputable def fM_takes (d : Nat) (a0 : Int32) (a1 : Int32) (h : zm_H) : zm_R := zm_lim d 197 0 (zm_ent 197 [.ref (45), .int a0, .int a1]) [] h
theorem fM_takes_call (d : Nat) (a0 : Int32) (a1 : Int32) (h : zm_H) : zm_call (d + 1) 197 [.ref (45), .int a0, .int a1] h = fM_takes d a0 a1 h := by
  show cond (Nat.ble 3 (zm_ml 197)) (fM_takes d a0 a1 h) none = _
  rw [(by decide +kernel : Nat.ble 3 (zm_ml 197) = true)]
  rfl
noncomputable def fM_noRow (d : Nat) (a0 : Int32) (a1 : Int32) (h : zm_H) : zm_R := zm_lim d 198 0 (zm_ent 198 [.ref (45), .int a0, .int a1]) [] h
theorem fM_noRow_call (d : Nat) (a0 : Int32) (a1 : Int32) (h : zm_H) : zm_call (d + 1) 198 [.ref (45), .int a0, .int a1] h = fM_noRow d a0 a1 h := by
  show cond (Nat.ble 3 (zm_ml 198)) (fM_noRow d a0 a1 h) none = _
  rw [(by decide +kernel : Nat.ble 3 (zm_ml 198) = true)]
  rfl
noncomputable def fM_told (d : Nat) (a0 : Int32) (a1 : Int32) (h : zm_H) : zm_R := zm_lim d 199 0 (zm_ent 199 [.ref (45), .int a0, .int a1]) [] h
theorem fM_told_call (d : Nat) (a0 : Int32) (a1 : Int32) (h : zm_H) : zm_call (d + 1) 199 [.ref (45), .int a0, .int a1] h = fM_told d a0 a1 h := by
  show cond (Nat.ble 3 (zm_ml 199)) (fM_told d a0 a1 h) none = _
  rw [(by decide +kernel : Nat.ble 3 (zm_ml 199) = true)]
  rfl
noncomputable def fM_reads (d : Nat) (a0 : Int32) (h : zm_H) : zm_R := zm_lim d 200 0 (zm_ent 200 [.ref (45), .int a0]) [] h
noncomputable def fM_reads_c7 (d : Nat) (x1 : Int32) (x2 : Int32) (h : zm_H) : zm_R := zm_lim d 200 7 [some (.ref (45)), some (.int x1), some (.int x2), none, none] [] h
noncomputable def fM_reads_c45 (d : Nat) (x1 : Int32) (x2 : Int32) (x3 : Int32) (x4 : Int32) (h : zm_H) : zm_R := zm_lim d 200 45 [some (.ref (45)), some (.int x1), some (.int x2), some (.int x3), some (.int x4)] [] h
theorem fM_reads_call (d : Nat) (a0 : Int32) (h : zm_H) : zm_call (d + 1) 200 [.ref (45), .int a0] h = fM_reads d a0 h := by
  show cond (Nat.ble 2 (zm_ml 200)) (fM_reads d a0 h) none = _
  rw [(by decide +kernel : Nat.ble 2 (zm_ml 200) = true)]
  rfl
noncomputable def fM_dresses (d : Nat) (a0 : Int32) (a1 : Int32) (h : zm_H) : zm_R := zm_lim d 201 0 (zm_ent 201 [.ref (45), .int a0, .int a1]) [] h
noncomputable def fM_dresses_c2 (d : Nat) (x1 : Int32) (x2 : Int32) (x3 : Int32) (h : zm_H) : zm_R := zm_lim d 201 2 [some (.ref (45)), some (.int x1), some (.int x2), some (.int x3), none, none, none] [] h
noncomputable def fM_dresses_c25 (d : Nat) (x1 : Int32) (x2 : Int32) (x3 : Int32) (x4 : Int32) (h : zm_H) : zm_R := zm_lim d 201 25 [some (.ref (45)), some (.int x1), some (.int x2), some (.int x3), some (.int x4), none, none] [] h
noncomputable def fM_dresses_c40 (d : Nat) (x1 : Int32) (x2 : Int32) (x3 : Int32) (x4 : Int32) (x5 : Int32) (x6 : Int32) (h : zm_H) : zm_R := zm_lim d 201 40 [some (.ref (45)), some (.int x1), some (.int x2), some (.int x3), some (.int x4), some (.int x5), some (.int x6)] [] h
theorem fM_dresses_call (d : Nat) (a0 : Int32) (a1 : Int32) (h : zm_H) : zm_call (d + 1) 201 [.ref (45), .int a0, .int a1] h = fM_dresses d a0 a1 h := by
  show cond (Nat.ble 3 (zm_ml 201)) (fM_dresses d a0 a1 h) none = _
  rw [(by decide +kernel : Nat.ble 3 (zm_ml 201) = true)]
  rfl
noncomputable def fM_six (d : Nat) (a0 : Int32) (a1 : Int32) (a2 : Int32) (h : zm_H) : zm_R := zm_lim d 202 0 (zm_ent 202 [.ref (45), .int a0, .int a1, .int a2]) [] h
theorem fM_six_call (d : Nat) (a0 : Int32) (a1 : Int32) (a2 : Int32) (h : zm_H) : zm_call (d + 1) 202 [.ref (45), .int a0, .int a1, .int a2] h = fM_six d a0 a1 a2 h := by
  show cond (Nat.ble 4 (zm_ml 202)) (fM_six d a0 a1 a2 h) none = _
  rw [(by decide +kernel : Nat.ble 4 (zm_ml 202) = true)]
  rfl
noncomputable def fM_order (d : Nat) (a0 : Int32) (a1 : Int32) (a2 : Int32) (h : zm_H) : zm_R := zm_lim d 203 0 (zm_ent 203 [.ref (45), .int a0, .int a1, .int a2]) [] h
noncomputable def fM_order_c74 (d : Nat) (x2 : Int32) (x3 : Int32) (x5 : Int32) (h : zm_H) : zm_R := zm_lim d 203 74 [some (.ref (45)), none, some (.int x2), some (.int x3), none, some (.int x5), none, none, none] [] h
noncomputable def fM_order_c121 (d : Nat) (x2 : Int32) (x3 : Int32) (x5 : Int32) (x7 : Int32) (h : zm_H) : zm_R := zm_lim d 203 121 [some (.ref (45)), none, some (.int x2), some (.int x3), none, some (.int x5), none, some (.int x7), none] [] h
noncomputable def fM_order_c129 (d : Nat) (x2 : Int32) (x3 : Int32) (x5 : Int32) (x8 : Int32) (h : zm_H) : zm_R := zm_lim d 203 129 [some (.ref (45)), none, some (.int x2), some (.int x3), none, some (.int x5), none, none, some (.int x8)] [] h
noncomputable def fM_order_c193 (d : Nat) (x2 : Int32) (x3 : Int32) (x5 : Int32) (x8 : Int32) (h : zm_H) : zm_R := zm_lim d 203 193 [some (.ref (45)), none, some (.int x2), some (.int x3), none, some (.int x5), none, none, some (.int x8)] [] h
theorem fM_order_call (d : Nat) (a0 : Int32) (a1 : Int32) (a2 : Int32) (h : zm_H) : zm_call (d + 1) 203 [.ref (45), .int a0, .int a1, .int a2] h = fM_order d a0 a1 a2 h := by
  show cond (Nat.ble 4 (zm_ml 203)) (fM_order d a0 a1 a2 h) none = _
  rw [(by decide +kernel : Nat.ble 4 (zm_ml 203) = true)]
  rfl
noncomputable def fM_nextOrder (d : Nat) (h : zm_H) : zm_R := zm_lim d 204 0 (zm_ent 204 [.ref (45)]) [] h
noncomputable def fM_nextOrder_c7 (d : Nat) (x1 : Int32) (h : zm_H) : zm_R := zm_lim d 204 7 [some (.ref (45)), some (.int x1), none, none, none] [] h
noncomputable def fM_nextOrder_c47 (d : Nat) (x1 : Int32) (x2 : Int32) (h : zm_H) : zm_R := zm_lim d 204 47 [some (.ref (45)), some (.int x1), some (.int x2), none, none] [] h
noncomputable def fM_nextOrder_c86 (d : Nat) (x3 : Int32) (x4 : Int32) (h : zm_H) : zm_R := zm_lim d 204 86 [some (.ref (45)), none, none, some (.int x3), some (.int x4)] [] h
theorem fM_nextOrder_call (d : Nat) (h : zm_H) : zm_call (d + 1) 204 [.ref (45)] h = fM_nextOrder d h := by
  show cond (Nat.ble 1 (zm_ml 204)) (fM_nextOrder d h) none = _
  rw [(by decide +kernel : Nat.ble 1 (zm_ml 204) = true)]
  rfl
noncomputable def fM_exchange (d : Nat) (a0 : Int32) (a1 : Int32) (h : zm_H) : zm_R := zm_lim d 205 0 (zm_ent 205 [.ref (45), .int a0, .int a1]) [] h
theorem fM_exchange_call (d : Nat) (a0 : Int32) (a1 : Int32) (h : zm_H) : zm_call (d + 1) 205 [.ref (45), .int a0, .int a1] h = fM_exchange d a0 a1 h := by
  show cond (Nat.ble 3 (zm_ml 205)) (fM_exchange d a0 a1 h) none = _
  rw [(by decide +kernel : Nat.ble 3 (zm_ml 205) = true)]
  rfl
noncomputable def fM_taxi (d : Nat) (a0 : Int32) (a1 : Int32) (a2 : Int32) (h : zm_H) : zm_R := zm_lim d 206 0 (zm_ent 206 [.ref (45), .int a0, .int a1, .int a2]) [] h
noncomputable def fM_taxi_c74 (d : Nat) (x3 : Int32) (x5 : Int32) (x6 : Int32) (h : zm_H) : zm_R := zm_lim d 206 74 [some (.ref (45)), none, none, some (.int x3), none, some (.int x5), some (.int x6)] [] h
theorem fM_taxi_call (d : Nat) (a0 : Int32) (a1 : Int32) (a2 : Int32) (h : zm_H) : zm_call (d + 1) 206 [.ref (45), .int a0, .int a1, .int a2] h = fM_taxi d a0 a1 a2 h := by
  show cond (Nat.ble 4 (zm_ml 206)) (fM_taxi d a0 a1 a2 h) none = _
  rw [(by decide +kernel : Nat.ble 4 (zm_ml 206) = true)]
  rfl
noncomputable def fM_oneMore (d : Nat) (a0 : Int32) (a1 : Int32) (a2 : Int32) (h : zm_H) : zm_R := zm_lim d 207 0 (zm_ent 207 [.ref (45), .int a0, .int a1, .int a2]) [] h
theorem fM_oneMore_call (d : Nat) (a0 : Int32) (a1 : Int32) (a2 : Int32) (h : zm_H) : zm_call (d + 1) 207 [.ref (45), .int a0, .int a1, .int a2] h = fM_oneMore d a0 a1 a2 h := by
  show cond (Nat.ble 4 (zm_ml 207)) (fM_oneMore d a0 a1 a2 h) none = _
  rw [(by decide +kernel : Nat.ble 4 (zm_ml 207) = true)]
  rfl
noncomputable def fM_wrong (d : Nat) (a0 : Int32) (a1 : Int32) (a2 : Int32) (a3 : Int32) (a4 : Int32) (h : zm_H) : zm_R := zm_lim d 208 0 (zm_ent 208 [.ref (45), .int a0, .int a1, .int a2, .int a3, .int a4]) [] h
noncomputable def fM_wrong_c10 (d : Nat) (x1 : Int32) (x2 : Int32) (x3 : Int32) (x5 : Int32) (x6 : Int32) (x7 : Int32) (x8 : Int32) (h : zm_H) : zm_R := zm_lim d 208 10 [some (.ref (45)), some (.int x1), some (.int x2), some (.int x3), none, some (.int x5), some (.int x6), some (.int x7), some (.int x8), none] [] h
theorem fM_wrong_call (d : Nat) (a0 : Int32) (a1 : Int32) (a2 : Int32) (a3 : Int32) (a4 : Int32) (h : zm_H) : zm_call (d + 1) 208 [.ref (45), .int a0, .int a1, .int a2, .int a3, .int a4] h = fM_wrong d a0 a1 a2 a3 a4 h := by
  show cond (Nat.ble 6 (zm_ml 208)) (fM_wrong d a0 a1 a2 a3 a4 h) none = _
  rw [(by decide +kernel : Nat.ble 6 (zm_ml 208) = true)]
  rfl
noncomputable def fM_judge (d : Nat) (a0 : Int32) (a1 : Int32) (a2 : Int32) (h : zm_H) : zm_R := zm_lim d 209 0 (zm_ent 209 [.ref (45), .int a0, .int a1, .int a2]) [] h
theorem fM_judge_call (d : Nat) (a0 : Int32) (a1 : Int32) (a2 : Int32) (h : zm_H) : zm_call (d + 1) 209 [.ref (45), .int a0, .int a1, .int a2] h = fM_judge d a0 a1 a2 h := by
  show cond (Nat.ble 4 (zm_ml 209)) (fM_judge d a0 a1 a2 h) none = _
  rw [(by decide +kernel : Nat.ble 4 (zm_ml 209) = true)]
  rfl
noncomputable def fM_which (d : Nat) (a0 : Int32) (a1 : Int32) (a2 : Int32) (h : zm_H) : zm_R := zm_lim d 210 0 (zm_ent 210 [.ref (45), .int a0, .int a1, .int a2]) [] h
noncomputable def fM_which_c46 (d : Nat) (x1 : Int32) (x2 : Int32) (x3 : Int32) (x5 : Int32) (x6 : Int32) (h : zm_H) : zm_R := zm_lim d 210 46 [some (.ref (45)), some (.int x1), some (.int x2), some (.int x3), none, some (.int x5), some (.int x6)] [] h
theorem fM_which_call (d : Nat) (a0 : Int32) (a1 : Int32) (a2 : Int32) (h : zm_H) : zm_call (d + 1) 210 [.ref (45), .int a0, .int a1, .int a2] h = fM_which d a0 a1 a2 h := by
  show cond (Nat.ble 4 (zm_ml 210)) (fM_which d a0 a1 a2 h) none = _
  rw [(by decide +kernel : Nat.ble 4 (zm_ml 210) = true)]
  rfl
noncomputable def fM_began (d : Nat) (a0 : Int32) (a1 : Int32) (a2 : Int32) (h : zm_H) : zm_R := zm_lim d 211 0 (zm_ent 211 [.ref (45), .int a0, .int a1, .int a2]) [] h
noncomputable def fM_began_c43 (d : Nat) (x1 : Int32) (x2 : Int32) (x3 : Int32) (x5 : Int32) (h : zm_H) : zm_R := zm_lim d 211 43 [some (.ref (45)), some (.int x1), some (.int x2), some (.int x3), none, some (.int x5)] [] h
theorem fM_began_call (d : Nat) (a0 : Int32) (a1 : Int32) (a2 : Int32) (h : zm_H) : zm_call (d + 1) 211 [.ref (45), .int a0, .int a1, .int a2] h = fM_began d a0 a1 a2 h := by
  show cond (Nat.ble 4 (zm_ml 211)) (fM_began d a0 a1 a2 h) none = _
  rw [(by decide +kernel : Nat.ble 4 (zm_ml 211) = true)]
  rfl
noncomputable def fM_thickness (d : Nat) (a0 : Int32) (a1 : Int32) (a2 : Int32) (h : zm_H) : zm_R := zm_lim d 212 0 (zm_ent 212 [.ref (45), .int a0, .int a1, .int a2]) [] h
noncomputable def fM_thickness_c63 (d : Nat) (x1 : Int32) (x2 : Int32) (x3 : Int32) (x5 : Int32) (x6 : Int32) (x7 : Int32) (x8 : Int32) (h : zm_H) : zm_R := zm_lim d 212 63 [some (.ref (45)), some (.int x1), some (.int x2), some (.int x3), none, some (.int x5), some (.int x6), some (.int x7), some (.int x8)] [] h
theorem fM_thickness_call (d : Nat) (a0 : Int32) (a1 : Int32) (a2 : Int32) (h : zm_H) : zm_call (d + 1) 212 [.ref (45), .int a0, .int a1, .int a2] h = fM_thickness d a0 a1 a2 h := by
  show cond (Nat.ble 4 (zm_ml 212)) (fM_thickness d a0 a1 a2 h) none = _
  rw [(by decide +kernel : Nat.ble 4 (zm_ml 212) = true)]
  rfl
noncomputable def fM_drawn (d : Nat) (a0 : Int32) (a1 : Int32) (a2 : Int32) (a3 : Int32) (h : zm_H) : zm_R := zm_lim d 213 0 (zm_ent 213 [.ref (45), .int a0, .int a1, .int a2, .int a3]) [] h
noncomputable def fM_drawn_c57 (d : Nat) (x1 : Int32) (x2 : Int32) (x4 : Int32) (x5 : Int32) (x6 : Int32) (x7 : Int32) (x8 : Int32) (h : zm_H) : zm_R := zm_lim d 213 57 [some (.ref (45)), some (.int x1), some (.int x2), none, some (.int x4), some (.int x5), some (.int x6), some (.int x7), some (.int x8), none, none, none, none] [] h
noncomputable def fM_drawn_c79 (d : Nat) (x1 : Int32) (x2 : Int32) (x4 : Int32) (x5 : Int32) (x6 : Int32) (x7 : Int32) (x8 : Int32) (x9 : Int32) (x10 : Int32) (x11 : Int32) (h : zm_H) : zm_R := zm_lim d 213 79 [some (.ref (45)), some (.int x1), some (.int x2), none, some (.int x4), some (.int x5), some (.int x6), some (.int x7), some (.int x8), some (.int x9), some (.int x10), some (.int x11), none] [] h
theorem fM_drawn_call (d : Nat) (a0 : Int32) (a1 : Int32) (a2 : Int32) (a3 : Int32) (h : zm_H) : zm_call (d + 1) 213 [.ref (45), .int a0, .int a1, .int a2, .int a3] h = fM_drawn d a0 a1 a2 a3 h := by
  show cond (Nat.ble 5 (zm_ml 213)) (fM_drawn d a0 a1 a2 a3 h) none = _
  rw [(by decide +kernel : Nat.ble 5 (zm_ml 213) = true)]
  rfl
noncomputable def fM_tieOn (d : Nat) (a0 : Int32) (a1 : Int32) (h : zm_H) : zm_R := zm_lim d 214 0 (zm_ent 214 [.ref (45), .int a0, .int a1]) [] h
theorem fM_tieOn_call (d : Nat) (a0 : Int32) (a1 : Int32) (h : zm_H) : zm_call (d + 1) 214 [.ref (45), .int a0, .int a1] h = fM_tieOn d a0 a1 h := by
  show cond (Nat.ble 3 (zm_ml 214)) (fM_tieOn d a0 a1 h) none = _
  rw [(by decide +kernel : Nat.ble 3 (zm_ml 214) = true)]
  rfl
noncomputable def fM_untie (d : Nat) (a0 : Int32) (h : zm_H) : zm_R := zm_lim d 215 0 (zm_ent 215 [.ref (45), .int a0]) [] h
theorem fM_untie_call (d : Nat) (a0 : Int32) (h : zm_H) : zm_call (d + 1) 215 [.ref (45), .int a0] h = fM_untie d a0 h := by
  show cond (Nat.ble 2 (zm_ml 215)) (fM_untie d a0 h) none = _
  rw [(by decide +kernel : Nat.ble 2 (zm_ml 215) = true)]
  rfl
noncomputable def fM_led (d : Nat) (a0 : Int32) (h : zm_H) : zm_R := zm_lim d 216 0 (zm_ent 216 [.ref (45), .int a0]) [] h
theorem fM_led_call (d : Nat) (a0 : Int32) (h : zm_H) : zm_call (d + 1) 216 [.ref (45), .int a0] h = fM_led d a0 h := by
  show cond (Nat.ble 2 (zm_ml 216)) (fM_led d a0 h) none = _
  rw [(by decide +kernel : Nat.ble 2 (zm_ml 216) = true)]
  rfl
noncomputable def fM_image (d : Nat) (h : zm_H) : zm_R := zm_lim d 217 0 (zm_ent 217 [.ref (45)]) [] h
noncomputable def fM_image_c15 (d : Nat) (x1 : Int32) (h : zm_H) : zm_R := zm_lim d 217 15 [some (.ref (45)), some (.int x1)] [] h
noncomputable def fM_image_c53 (d : Nat) (x1 : Int32) (h : zm_H) : zm_R := zm_lim d 217 53 [some (.ref (45)), some (.int x1)] [] h
theorem fM_image_call (d : Nat) (h : zm_H) : zm_call (d + 1) 217 [.ref (45)] h = fM_image d h := by
  show cond (Nat.ble 1 (zm_ml 217)) (fM_image d h) none = _
  rw [(by decide +kernel : Nat.ble 1 (zm_ml 217) = true)]
  rfl
noncomputable def fM_back (d : Nat) (h : zm_H) : zm_R := zm_lim d 218 0 (zm_ent 218 [.ref (45)]) [] h
noncomputable def fM_back_c12 (d : Nat) (x1 : Int32) (h : zm_H) : zm_R := zm_lim d 218 12 [some (.ref (45)), some (.int x1)] [] h
noncomputable def fM_back_c74 (d : Nat) (x1 : Int32) (h : zm_H) : zm_R := zm_lim d 218 74 [some (.ref (45)), some (.int x1)] [] h
theorem fM_back_call (d : Nat) (h : zm_H) : zm_call (d + 1) 218 [.ref (45)] h = fM_back d h := by
  show cond (Nat.ble 1 (zm_ml 218)) (fM_back d h) none = _
  rw [(by decide +kernel : Nat.ble 1 (zm_ml 218) = true)]
  rfl
noncomputable def fM_above (d : Nat) (a0 : Int32) (h : zm_H) : zm_R := zm_lim d 219 0 (zm_ent 219 [.int a0]) [] h
theorem fM_above_call (d : Nat) (a0 : Int32) (h : zm_H) : zm_call (d + 1) 219 [.int a0] h = fM_above d a0 h := by
  show cond (Nat.ble 1 (zm_ml 219)) (fM_above d a0 h) none = _
  rw [(by decide +kernel : Nat.ble 1 (zm_ml 219) = true)]
  rfl
noncomputable def fM_ran (d : Nat) (a0 : Int32) (h : zm_H) : zm_R := zm_lim d 220 0 (zm_ent 220 [.ref (45), .int a0]) [] h
theorem fM_ran_call (d : Nat) (a0 : Int32) (h : zm_H) : zm_call (d + 1) 220 [.ref (45), .int a0] h = fM_ran d a0 h := by
  show cond (Nat.ble 2 (zm_ml 220)) (fM_ran d a0 h) none = _
  rw [(by decide +kernel : Nat.ble 2 (zm_ml 220) = true)]
  rfl
noncomputable def fM_lies (d : Nat) (a0 : Int32) (a1 : Int32) (a2 : Int32) (h : zm_H) : zm_R := zm_lim d 221 0 (zm_ent 221 [.ref (45), .int a0, .int a1, .int a2]) [] h
theorem fM_lies_call (d : Nat) (a0 : Int32) (a1 : Int32) (a2 : Int32) (h : zm_H) : zm_call (d + 1) 221 [.ref (45), .int a0, .int a1, .int a2] h = fM_lies d a0 a1 a2 h := by
  show cond (Nat.ble 4 (zm_ml 221)) (fM_lies d a0 a1 a2 h) none = _
  rw [(by decide +kernel : Nat.ble 4 (zm_ml 221) = true)]
  rfl
noncomputable def fM_tookBy (d : Nat) (a0 : Int32) (a1 : Int32) (a2 : Int32) (h : zm_H) : zm_R := zm_lim d 222 0 (zm_ent 222 [.ref (45), .int a0, .int a1, .int a2]) [] h
theorem fM_tookBy_call (d : Nat) (a0 : Int32) (a1 : Int32) (a2 : Int32) (h : zm_H) : zm_call (d + 1) 222 [.ref (45), .int a0, .int a1, .int a2] h = fM_tookBy d a0 a1 a2 h := by
  show cond (Nat.ble 4 (zm_ml 222)) (fM_tookBy d a0 a1 a2 h) none = _
  rw [(by decide +kernel : Nat.ble 4 (zm_ml 222) = true)]
  rfl
noncomputable def fM_slipped (d : Nat) (a0 : Int32) (a1 : Int32) (a2 : Int32) (h : zm_H) : zm_R := zm_lim d 223 0 (zm_ent 223 [.ref (45), .int a0, .int a1, .int a2]) [] h
theorem fM_slipped_call (d : Nat) (a0 : Int32) (a1 : Int32) (a2 : Int32) (h : zm_H) : zm_call (d + 1) 223 [.ref (45), .int a0, .int a1, .int a2] h = fM_slipped d a0 a1 a2 h := by
  show cond (Nat.ble 4 (zm_ml 223)) (fM_slipped d a0 a1 a2 h) none = _
  rw [(by decide +kernel : Nat.ble 4 (zm_ml 223) = true)]
  rfl
noncomputable def fM_tells (d : Nat) (a0 : Int32) (a1 : Int32) (a2 : Int32) (h : zm_H) : zm_R := zm_lim d 224 0 (zm_ent 224 [.ref (45), .int a0, .int a1, .int a2]) [] h
theorem fM_tells_call (d : Nat) (a0 : Int32) (a1 : Int32) (a2 : Int32) (h : zm_H) : zm_call (d + 1) 224 [.ref (45), .int a0, .int a1, .int a2] h = fM_tells d a0 a1 a2 h := by
  show cond (Nat.ble 4 (zm_ml 224)) (fM_tells d a0 a1 a2 h) none = _
  rw [(by decide +kernel : Nat.ble 4 (zm_ml 224) = true)]
  rfl
noncomputable def fM_body (d : Nat) (a0 : Int32) (h : zm_H) : zm_R := zm_lim d 225 0 (zm_ent 225 [.ref (45), .int a0]) [] h
theorem fM_body_call (d : Nat) (a0 : Int32) (h : zm_H) : zm_call (d + 1) 225 [.ref (45), .int a0] h = fM_body d a0 h := by
  show cond (Nat.ble 2 (zm_ml 225)) (fM_body d a0 h) none = _
  rw [(by decide +kernel : Nat.ble 2 (zm_ml 225) = true)]
  rfl
noncomputable def fM_act (d : Nat) (a0 : Int32) (a1 : Int32) (a2 : Int32) (h : zm_H) : zm_R := zm_lim d 226 0 (zm_ent 226 [.ref (45), .int a0, .int a1, .int a2]) [] h
theorem fM_act_call (d : Nat) (a0 : Int32) (a1 : Int32) (a2 : Int32) (h : zm_H) : zm_call (d + 1) 226 [.ref (45), .int a0, .int a1, .int a2] h = fM_act d a0 a1 a2 h := by
  show cond (Nat.ble 4 (zm_ml 226)) (fM_act d a0 a1 a2 h) none = _
  rw [(by decide +kernel : Nat.ble 4 (zm_ml 226) = true)]
  rfl
noncomputable def fM_trace (d : Nat) (a0 : Int32) (h : zm_H) : zm_R := zm_lim d 227 0 (zm_ent 227 [.ref (45), .int a0]) [] h
theorem fM_trace_call (d : Nat) (a0 : Int32) (h : zm_H) : zm_call (d + 1) 227 [.ref (45), .int a0] h = fM_trace d a0 h := by
  show cond (Nat.ble 2 (zm_ml 227)) (fM_trace d a0 h) none = _
  rw [(by decide +kernel : Nat.ble 2 (zm_ml 227) = true)]
  rfl
noncomputable def fM_keep (d : Nat) (a0 : Int32) (a1 : Int32) (h : zm_H) : zm_R := zm_lim d 228 0 (zm_ent 228 [.ref (45), .int a0, .int a1]) [] h
theorem fM_keep_call (d : Nat) (a0 : Int32) (a1 : Int32) (h : zm_H) : zm_call (d + 1) 228 [.ref (45), .int a0, .int a1] h = fM_keep d a0 a1 h := by
  show cond (Nat.ble 3 (zm_ml 228)) (fM_keep d a0 a1 h) none = _
  rw [(by decide +kernel : Nat.ble 3 (zm_ml 228) = true)]
  rfl
noncomputable def fM_row (d : Nat) (a0 : Int32) (a1 : Int32) (a2 : Int32) (h : zm_H) : zm_R := zm_lim d 229 0 (zm_ent 229 [.ref (45), .int a0, .int a1, .int a2]) [] h
noncomputable def fM_row_c48 (d : Nat) (x1 : Int32) (x4 : Int32) (h : zm_H) : zm_R := zm_lim d 229 48 [some (.ref (45)), some (.int x1), none, none, some (.int x4)] [] h
theorem fM_row_call (d : Nat) (a0 : Int32) (a1 : Int32) (a2 : Int32) (h : zm_H) : zm_call (d + 1) 229 [.ref (45), .int a0, .int a1, .int a2] h = fM_row d a0 a1 a2 h := by
  show cond (Nat.ble 4 (zm_ml 229)) (fM_row d a0 a1 a2 h) none = _
  rw [(by decide +kernel : Nat.ble 4 (zm_ml 229) = true)]
  rfl
noncomputable def fM_isRow (d : Nat) (a0 : Int32) (h : zm_H) : zm_R := zm_lim d 230 0 (zm_ent 230 [.ref (45), .int a0]) [] h
theorem fM_isRow_call (d : Nat) (a0 : Int32) (h : zm_H) : zm_call (d + 1) 230 [.ref (45), .int a0] h = fM_isRow d a0 h := by
  show cond (Nat.ble 2 (zm_ml 230)) (fM_isRow d a0 h) none = _
  rw [(by decide +kernel : Nat.ble 2 (zm_ml 230) = true)]
  rfl
noncomputable def fM_kept (d : Nat) (a0 : Int32) (a1 : Int64) (h : zm_H) : zm_R := zm_lim d 231 0 (zm_ent 231 [.int a0, .long a1]) [] h
theorem fM_kept_call (d : Nat) (a0 : Int32) (a1 : Int64) (h : zm_H) : zm_call (d + 1) 231 [.int a0, .long a1] h = fM_kept d a0 a1 h := by
  show cond (Nat.ble 3 (zm_ml 231)) (fM_kept d a0 a1 h) none = _
  rw [(by decide +kernel : Nat.ble 3 (zm_ml 231) = true)]
  rfl
noncomputable def fM_put (d : Nat) (a0 : Int32) (a1 : Int32) (a2 : Int64) (h : zm_H) : zm_R := zm_lim d 232 0 (zm_ent 232 [.ref (45), .int a0, .int a1, .long a2]) [] h
theorem fM_put_call (d : Nat) (a0 : Int32) (a1 : Int32) (a2 : Int64) (h : zm_H) : zm_call (d + 1) 232 [.ref (45), .int a0, .int a1, .long a2] h = fM_put d a0 a1 a2 h := by
  show cond (Nat.ble 5 (zm_ml 232)) (fM_put d a0 a1 a2 h) none = _
  rw [(by decide +kernel : Nat.ble 5 (zm_ml 232) = true)]
  rfl
noncomputable def fM_element (d : Nat) (a0 : Int32) (a1 : Int32) (h : zm_H) : zm_R := zm_lim d 233 0 (zm_ent 233 [.ref (45), .int a0, .int a1]) [] h
theorem fM_element_call (d : Nat) (a0 : Int32) (a1 : Int32) (h : zm_H) : zm_call (d + 1) 233 [.ref (45), .int a0, .int a1] h = fM_element d a0 a1 h := by
  show cond (Nat.ble 3 (zm_ml 233)) (fM_element d a0 a1 h) none = _
  rw [(by decide +kernel : Nat.ble 3 (zm_ml 233) = true)]
  rfl
noncomputable def fM_shift (d : Nat) (a0 : Int32) (a1 : Int32) (a2 : Int32) (a3 : Int32) (a4 : Int32) (h : zm_H) : zm_R := zm_lim d 234 0 (zm_ent 234 [.ref (45), .int a0, .int a1, .int a2, .int a3, .int a4]) [] h
noncomputable def fM_shift_c142 (d : Nat) (x1 : Int32) (x2 : Int32) (x3 : Int32) (x4 : Int32) (x5 : Int32) (x6 : Int32) (h : zm_H) : zm_R := zm_lim d 234 142 [some (.ref (45)), some (.int x1), some (.int x2), some (.int x3), some (.int x4), some (.int x5), some (.int x6)] [] h
noncomputable def fM_shift_c188 (d : Nat) (x1 : Int32) (x2 : Int32) (x3 : Int32) (x4 : Int32) (x5 : Int32) (x6 : Int32) (h : zm_H) : zm_R := zm_lim d 234 188 [some (.ref (45)), some (.int x1), some (.int x2), some (.int x3), some (.int x4), some (.int x5), some (.int x6)] [] h
theorem fM_shift_call (d : Nat) (a0 : Int32) (a1 : Int32) (a2 : Int32) (a3 : Int32) (a4 : Int32) (h : zm_H) : zm_call (d + 1) 234 [.ref (45), .int a0, .int a1, .int a2, .int a3, .int a4] h = fM_shift d a0 a1 a2 a3 a4 h := by
  show cond (Nat.ble 6 (zm_ml 234)) (fM_shift d a0 a1 a2 a3 a4 h) none = _
  rw [(by decide +kernel : Nat.ble 6 (zm_ml 234) = true)]
  rfl
noncomputable def fM_taken (d : Nat) (a0 : Int32) (a1 : Int32) (h : zm_H) : zm_R := zm_lim d 235 0 (zm_ent 235 [.ref (45), .int a0, .int a1]) [] h
noncomputable def fM_taken_c61 (d : Nat) (x2 : Int32) (x3 : Int32) (x4 : Int32) (h : zm_H) : zm_R := zm_lim d 235 61 [none, none, some (.int x2), some (.int x3), some (.int x4)] [] h
theorem fM_taken_call (d : Nat) (a0 : Int32) (a1 : Int32) (h : zm_H) : zm_call (d + 1) 235 [.ref (45), .int a0, .int a1] h = fM_taken d a0 a1 h := by
  show cond (Nat.ble 3 (zm_ml 235)) (fM_taken d a0 a1 h) none = _
  rw [(by decide +kernel : Nat.ble 3 (zm_ml 235) = true)]
  rfl
noncomputable def fM_count (d : Nat) (a0 : Int32) (h : zm_H) : zm_R := zm_lim d 236 0 (zm_ent 236 [.ref (45), .int a0]) [] h
theorem fM_count_call (d : Nat) (a0 : Int32) (h : zm_H) : zm_call (d + 1) 236 [.ref (45), .int a0] h = fM_count d a0 h := by
  show cond (Nat.ble 2 (zm_ml 236)) (fM_count d a0 h) none = _
  rw [(by decide +kernel : Nat.ble 2 (zm_ml 236) = true)]
  rfl
noncomputable def fJa_fillJ (d : Nat) (r0 : Nat) (a1 : Int64) (h : zm_H) : zm_R := zm_lim d 237 0 (zm_ent 237 [.ref r0, .long a1]) [] h
noncomputable def fJa_fillJ_c6 (d : Nat) (x0 : Nat) (x1 : Int64) (x3 : Int32) (x4 : Int32) (h : zm_H) : zm_R := zm_lim d 237 6 [some (.ref x0), some (.long x1), none, some (.int x3), some (.int x4)] [] h
theorem fJa_fillJ_call (d : Nat) (r0 : Nat) (a1 : Int64) (h : zm_H) : zm_call (d + 1) 237 [.ref r0, .long a1] h = fJa_fillJ d r0 a1 h := by
  show cond (Nat.ble 3 (zm_ml 237)) (fJa_fillJ d r0 a1 h) none = _
  rw [(by decide +kernel : Nat.ble 3 (zm_ml 237) = true)]
  rfl
noncomputable def fJa_fillI (d : Nat) (r0 : Nat) (a1 : Int32) (h : zm_H) : zm_R := zm_lim d 238 0 (zm_ent 238 [.ref r0, .int a1]) [] h
noncomputable def fJa_fillI_c5 (d : Nat) (x0 : Nat) (x1 : Int32) (x2 : Int32) (x3 : Int32) (h : zm_H) : zm_R := zm_lim d 238 5 [some (.ref x0), some (.int x1), some (.int x2), some (.int x3)] [] h
theorem fJa_fillI_call (d : Nat) (r0 : Nat) (a1 : Int32) (h : zm_H) : zm_call (d + 1) 238 [.ref r0, .int a1] h = fJa_fillI d r0 a1 h := by
  show cond (Nat.ble 2 (zm_ml 238)) (fJa_fillI d r0 a1 h) none = _
  rw [(by decide +kernel : Nat.ble 2 (zm_ml 238) = true)]
  rfl
noncomputable def fL_law_c18 (d : Nat) (x3 : Int32) (h : zm_H) : zm_R := zm_lim d 239 18 [some (.ref (2000)), some (.ref (0)), some (.ref (45)), some (.int x3)] [] h
noncomputable def fL_law_c224 (d : Nat) (x3 : Int32) (h : zm_H) : zm_R := zm_lim d 239 224 [some (.ref (2000)), some (.ref (0)), some (.ref (45)), some (.int x3)] [] h
noncomputable def fL_law_c257 (d : Nat) (x3 : Int32) (h : zm_H) : zm_R := zm_lim d 239 257 [some (.ref (2000)), some (.ref (0)), some (.ref (45)), some (.int x3)] [] h
noncomputable def fL_law_c300 (d : Nat) (x3 : Int32) (h : zm_H) : zm_R := zm_lim d 239 300 [some (.ref (2000)), some (.ref (0)), some (.ref (45)), some (.int x3)] [] h
noncomputable def fL_law_c333 (d : Nat) (x3 : Int32) (h : zm_H) : zm_R := zm_lim d 239 333 [some (.ref (2000)), some (.ref (0)), some (.ref (45)), some (.int x3)] [] h
noncomputable def fL_law_c376 (d : Nat) (x3 : Int32) (h : zm_H) : zm_R := zm_lim d 239 376 [some (.ref (2000)), some (.ref (0)), some (.ref (45)), some (.int x3)] [] h
noncomputable def fL_law_c409 (d : Nat) (x3 : Int32) (h : zm_H) : zm_R := zm_lim d 239 409 [some (.ref (2000)), some (.ref (0)), some (.ref (45)), some (.int x3)] [] h
noncomputable def fL_law_c432 (d : Nat) (x3 : Int32) (h : zm_H) : zm_R := zm_lim d 239 432 [some (.ref (2000)), some (.ref (0)), some (.ref (45)), some (.int x3)] [] h
noncomputable def fL_law_c445 (d : Nat) (x3 : Int32) (h : zm_H) : zm_R := zm_lim d 239 445 [some (.ref (2000)), some (.ref (0)), some (.ref (45)), some (.int x3)] [] h
noncomputable def fL_law_c488 (d : Nat) (x3 : Int32) (h : zm_H) : zm_R := zm_lim d 239 488 [some (.ref (2000)), some (.ref (0)), some (.ref (45)), some (.int x3)] [] h
noncomputable def fL_law_c521 (d : Nat) (x3 : Int32) (h : zm_H) : zm_R := zm_lim d 239 521 [some (.ref (2000)), some (.ref (0)), some (.ref (45)), some (.int x3)] [] h
noncomputable def fL_law_c554 (d : Nat) (x3 : Int32) (h : zm_H) : zm_R := zm_lim d 239 554 [some (.ref (2000)), some (.ref (0)), some (.ref (45)), some (.int x3)] [] h
noncomputable def fL_law_c597 (d : Nat) (x3 : Int32) (h : zm_H) : zm_R := zm_lim d 239 597 [some (.ref (2000)), some (.ref (0)), some (.ref (45)), some (.int x3)] [] h
noncomputable def fL_law_c630 (d : Nat) (x3 : Int32) (h : zm_H) : zm_R := zm_lim d 239 630 [some (.ref (2000)), some (.ref (0)), some (.ref (45)), some (.int x3)] [] h
noncomputable def fL_law_c663 (d : Nat) (x3 : Int32) (h : zm_H) : zm_R := zm_lim d 239 663 [some (.ref (2000)), some (.ref (0)), some (.ref (45)), some (.int x3)] [] h
noncomputable def fL_law_c696 (d : Nat) (x3 : Int32) (h : zm_H) : zm_R := zm_lim d 239 696 [some (.ref (2000)), some (.ref (0)), some (.ref (45)), some (.int x3)] [] h
noncomputable def fL_law_c719 (d : Nat) (x3 : Int32) (h : zm_H) : zm_R := zm_lim d 239 719 [some (.ref (2000)), some (.ref (0)), some (.ref (45)), some (.int x3)] [] h
noncomputable def fL_law_c752 (d : Nat) (x3 : Int32) (h : zm_H) : zm_R := zm_lim d 239 752 [some (.ref (2000)), some (.ref (0)), some (.ref (45)), some (.int x3)] [] h
noncomputable def fL_law_c785 (d : Nat) (x3 : Int32) (h : zm_H) : zm_R := zm_lim d 239 785 [some (.ref (2000)), some (.ref (0)), some (.ref (45)), some (.int x3)] [] h
noncomputable def fL_law_c818 (d : Nat) (x3 : Int32) (h : zm_H) : zm_R := zm_lim d 239 818 [some (.ref (2000)), some (.ref (0)), some (.ref (45)), some (.int x3)] [] h
noncomputable def fL_law_c861 (d : Nat) (x3 : Int32) (h : zm_H) : zm_R := zm_lim d 239 861 [some (.ref (2000)), some (.ref (0)), some (.ref (45)), some (.int x3)] [] h
noncomputable def fL_law_c904 (d : Nat) (x3 : Int32) (h : zm_H) : zm_R := zm_lim d 239 904 [some (.ref (2000)), some (.ref (0)), some (.ref (45)), some (.int x3)] [] h
noncomputable def fL_law_c947 (d : Nat) (x3 : Int32) (h : zm_H) : zm_R := zm_lim d 239 947 [some (.ref (2000)), some (.ref (0)), some (.ref (45)), some (.int x3)] [] h
noncomputable def fL_law_c990 (d : Nat) (x3 : Int32) (h : zm_H) : zm_R := zm_lim d 239 990 [some (.ref (2000)), some (.ref (0)), some (.ref (45)), some (.int x3)] [] h
noncomputable def fL_law_c1033 (d : Nat) (x3 : Int32) (h : zm_H) : zm_R := zm_lim d 239 1033 [some (.ref (2000)), some (.ref (0)), some (.ref (45)), some (.int x3)] [] h
noncomputable def fL_law_c1076 (d : Nat) (x3 : Int32) (h : zm_H) : zm_R := zm_lim d 239 1076 [some (.ref (2000)), some (.ref (0)), some (.ref (45)), some (.int x3)] [] h
noncomputable def fL_law_c1119 (d : Nat) (x3 : Int32) (h : zm_H) : zm_R := zm_lim d 239 1119 [some (.ref (2000)), some (.ref (0)), some (.ref (45)), some (.int x3)] [] h
noncomputable def fL_law_c1162 (d : Nat) (x3 : Int32) (h : zm_H) : zm_R := zm_lim d 239 1162 [some (.ref (2000)), some (.ref (0)), some (.ref (45)), some (.int x3)] [] h
noncomputable def fL_law_c1215 (d : Nat) (x3 : Int32) (h : zm_H) : zm_R := zm_lim d 239 1215 [some (.ref (2000)), some (.ref (0)), some (.ref (45)), some (.int x3)] [] h
noncomputable def fL_law_c1248 (d : Nat) (x3 : Int32) (h : zm_H) : zm_R := zm_lim d 239 1248 [some (.ref (2000)), some (.ref (0)), some (.ref (45)), some (.int x3)] [] h
noncomputable def fL_law_c1271 (d : Nat) (x3 : Int32) (h : zm_H) : zm_R := zm_lim d 239 1271 [some (.ref (2000)), some (.ref (0)), some (.ref (45)), some (.int x3)] [] h
noncomputable def fL_law_c1294 (d : Nat) (x3 : Int32) (h : zm_H) : zm_R := zm_lim d 239 1294 [some (.ref (2000)), some (.ref (0)), some (.ref (45)), some (.int x3)] [] h
noncomputable def fL_law_c1307 (d : Nat) (x3 : Int32) (h : zm_H) : zm_R := zm_lim d 239 1307 [some (.ref (2000)), some (.ref (0)), some (.ref (45)), some (.int x3)] [] h
noncomputable def fL_law_c1320 (d : Nat) (x3 : Int32) (h : zm_H) : zm_R := zm_lim d 239 1320 [some (.ref (2000)), some (.ref (0)), some (.ref (45)), some (.int x3)] [] h
noncomputable def fL_law_c1333 (d : Nat) (x3 : Int32) (h : zm_H) : zm_R := zm_lim d 239 1333 [some (.ref (2000)), some (.ref (0)), some (.ref (45)), some (.int x3)] [] h
noncomputable def fL_law_c1346 (d : Nat) (x3 : Int32) (h : zm_H) : zm_R := zm_lim d 239 1346 [some (.ref (2000)), some (.ref (0)), some (.ref (45)), some (.int x3)] [] h
noncomputable def fL_law_c1369 (d : Nat) (x3 : Int32) (h : zm_H) : zm_R := zm_lim d 239 1369 [some (.ref (2000)), some (.ref (0)), some (.ref (45)), some (.int x3)] [] h
noncomputable def fL_law_c1412 (d : Nat) (x3 : Int32) (h : zm_H) : zm_R := zm_lim d 239 1412 [some (.ref (2000)), some (.ref (0)), some (.ref (45)), some (.int x3)] [] h
noncomputable def fL_law_c1435 (d : Nat) (x3 : Int32) (h : zm_H) : zm_R := zm_lim d 239 1435 [some (.ref (2000)), some (.ref (0)), some (.ref (45)), some (.int x3)] [] h
noncomputable def fL_law_c1468 (d : Nat) (x3 : Int32) (h : zm_H) : zm_R := zm_lim d 239 1468 [some (.ref (2000)), some (.ref (0)), some (.ref (45)), some (.int x3)] [] h
noncomputable def fL_law_c1511 (d : Nat) (x3 : Int32) (h : zm_H) : zm_R := zm_lim d 239 1511 [some (.ref (2000)), some (.ref (0)), some (.ref (45)), some (.int x3)] [] h
noncomputable def fL_law_c1584 (d : Nat) (x3 : Int32) (h : zm_H) : zm_R := zm_lim d 239 1584 [some (.ref (2000)), some (.ref (0)), some (.ref (45)), some (.int x3)] [] h
noncomputable def fL_law_c1618 (d : Nat) (x3 : Int32) (h : zm_H) : zm_R := zm_lim d 239 1618 [some (.ref (2000)), some (.ref (0)), some (.ref (45)), some (.int x3)] [] h
noncomputable def fL_law_c1681 (d : Nat) (x3 : Int32) (h : zm_H) : zm_R := zm_lim d 239 1681 [some (.ref (2000)), some (.ref (0)), some (.ref (45)), some (.int x3)] [] h
noncomputable def fL_law_c1714 (d : Nat) (x3 : Int32) (h : zm_H) : zm_R := zm_lim d 239 1714 [some (.ref (2000)), some (.ref (0)), some (.ref (45)), some (.int x3)] [] h
noncomputable def fL_law_c1737 (d : Nat) (x3 : Int32) (h : zm_H) : zm_R := zm_lim d 239 1737 [some (.ref (2000)), some (.ref (0)), some (.ref (45)), some (.int x3)] [] h
