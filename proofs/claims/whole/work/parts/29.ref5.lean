/-! the reference's public methods: solves -/
set_option maxHeartbeats 4000000 in
set_option maxRecDepth 100000 in
theorem c_X5_take_b0 (l : Launch) (D : va_G) (cA : Nat → ClassId) (ar : Nat → Nat) (M : Nat → Nat → Int32) (p1 p2 : Int32) (hb : ¬ (nI 0 ≤ p1 ∧ p1 ≤ M 17 0 - nI 1)) : Cr l D cA yX5_take cX5_take 3 (some .int) 2 ([.ref (ar 100), .int p1, .int p2] : List Value) (wR cA ar M) (fun r : Option Value => r = some (.int (-2))) := by
  refine x_met (by decide +kernel) rfl (Nat.le_of_ble_eq_true rfl) ?_
  intro xp xe xs xm xbl xme xco F hnm
  refine x_lv [(0, .ref (ar 100)), (1, .int p1), (2, .int p2)] [0, 1, 2] rfl ?_
  refine x_aload_n F 0 dX5_take_0 rfl ?_
  refine x_iload_n F 1 dX5_take_1 rfl ?_
  refine x_callVr F [] [0, 1, 2, 3, 4, 5, 6, 7, 8, 9, 10, 11, 12, 13, 14, 15, 16, 17, 18, 19, 20, 21, 22, 23, 24, 25] (c_X5_isSolve l D cA ar M p1) mwX5_isSolve wmX5_149 rfl (q0 := 0) rfl rfl rfl (Nat.le_of_ble_eq_true rfl) ⟨by decide, by decide⟩ ⟨by show _ ≤ 0; omega, by show _ ≤ 0; omega⟩ rfl (by decide) dX5_take_2 (fun r1 hp2 => ?_)
  subst hp2
  refine x_if_eq F 20 dX5_take_5 (by decide) (fun h5 => ?_) (fun h5 => ?_)
  · refine x_bipush F (-2) dX5_take_20 (by decide +kernel) ?_
    refine x_goto F 31 dX5_take_22 (by decide) ?_
    exact x_iret F () (rfl) (rfl) (by omega) (by omega) dX5_take_31
  · exact absurd (bz_n0.mp h5) hb

set_option maxHeartbeats 4000000 in
set_option maxRecDepth 100000 in
theorem c_X5_step_b0 (l : Launch) (D : va_G) (cA : Nat → ClassId) (ar : Nat → Nat) (M : Nat → Nat → Int32) (p1 p2 : Int32) (hb : ¬ (nI 0 ≤ p1 ∧ p1 ≤ M 17 0 - nI 1)) : Cr l D cA yX5_step cX5_step 7 (some .int) 2 ([.ref (ar 100), .int p1, .int p2] : List Value) (wR cA ar M) (fun r : Option Value => r = some (.int (-2))) := by
  refine x_met (by decide +kernel) rfl (Nat.le_of_ble_eq_true rfl) ?_
  intro xp xe xs xm xbl xme xco F hnm
  refine x_lv [(0, .ref (ar 100)), (1, .int p1), (2, .int p2)] [0, 1, 2] rfl ?_
  refine x_aload_n F 0 dX5_step_0 rfl ?_
  refine x_iload_n F 1 dX5_step_1 rfl ?_
  refine x_callVr F [] [0, 1, 2, 3, 4, 5, 6, 7, 8, 9, 10, 11, 12, 13, 14, 15, 16, 17, 18, 19, 20, 21, 22, 23, 24, 25] (c_X5_isSolve l D cA ar M p1) mwX5_isSolve wmX5_149 rfl (q0 := 0) rfl rfl rfl (Nat.le_of_ble_eq_true rfl) ⟨by decide, by decide⟩ ⟨by show _ ≤ 0; omega, by show _ ≤ 0; omega⟩ rfl (by decide) dX5_step_2 (fun r1 hp2 => ?_)
  subst hp2
  refine x_if_eq F 19 dX5_step_5 (by decide) (fun h5 => ?_) (fun h5 => ?_)
  · refine x_bipush F (-2) dX5_step_19 (by decide +kernel) ?_
    exact x_iret F () (rfl) (rfl) (by omega) (by omega) dX5_step_21
  · exact absurd (bz_n0.mp h5) hb

set_option maxHeartbeats 4000000 in
set_option maxRecDepth 100000 in
theorem c_X5_mark_b0 (l : Launch) (D : va_G) (cA : Nat → ClassId) (ar : Nat → Nat) (M : Nat → Nat → Int32) (p1 p2 : Int32) (hb : ¬ (nI 0 ≤ p1 ∧ p1 ≤ M 17 0 - nI 1)) : Cr l D cA yX5_mark cX5_mark 5 (some .int) 2 ([.ref (ar 100), .int p1, .int p2] : List Value) (wR cA ar M) (fun r : Option Value => r = some (.int (-2))) := by
  refine x_met (by decide +kernel) rfl (Nat.le_of_ble_eq_true rfl) ?_
  intro xp xe xs xm xbl xme xco F hnm
  refine x_lv [(0, .ref (ar 100)), (1, .int p1), (2, .int p2)] [0, 1, 2] rfl ?_
  refine x_aload_n F 0 dX5_mark_0 rfl ?_
  refine x_iload_n F 1 dX5_mark_1 rfl ?_
  refine x_callVr F [] [0, 1, 2, 3, 4, 5, 6, 7, 8, 9, 10, 11, 12, 13, 14, 15, 16, 17, 18, 19, 20, 21, 22, 23, 24, 25] (c_X5_isSolve l D cA ar M p1) mwX5_isSolve wmX5_149 rfl (q0 := 0) rfl rfl rfl (Nat.le_of_ble_eq_true rfl) ⟨by decide, by decide⟩ ⟨by show _ ≤ 0; omega, by show _ ≤ 0; omega⟩ rfl (by decide) dX5_mark_2 (fun r1 hp2 => ?_)
  subst hp2
  refine x_if_eq F 17 dX5_mark_5 (by decide) (fun h5 => ?_) (fun h5 => ?_)
  · refine x_bipush F (-2) dX5_mark_17 (by decide +kernel) ?_
    exact x_iret F () (rfl) (rfl) (by omega) (by omega) dX5_mark_19
  · exact absurd (bz_n0.mp h5) hb

set_option maxHeartbeats 4000000 in
set_option maxRecDepth 100000 in
theorem c_X5_back_b0 (l : Launch) (D : va_G) (cA : Nat → ClassId) (ar : Nat → Nat) (M : Nat → Nat → Int32) (p1 p2 : Int32) (hb : ¬ (nI 0 ≤ p1 ∧ p1 ≤ M 17 0 - nI 1)) : Cr l D cA yX5_back cX5_back 6 (some .int) 2 ([.ref (ar 100), .int p1, .int p2] : List Value) (wR cA ar M) (fun r : Option Value => r = some (.int (-2))) := by
  refine x_met (by decide +kernel) rfl (Nat.le_of_ble_eq_true rfl) ?_
  intro xp xe xs xm xbl xme xco F hnm
  refine x_lv [(0, .ref (ar 100)), (1, .int p1), (2, .int p2)] [0, 1, 2] rfl ?_
  refine x_aload_n F 0 dX5_back_0 rfl ?_
  refine x_iload_n F 1 dX5_back_1 rfl ?_
  refine x_callVr F [] [0, 1, 2, 3, 4, 5, 6, 7, 8, 9, 10, 11, 12, 13, 14, 15, 16, 17, 18, 19, 20, 21, 22, 23, 24, 25] (c_X5_isSolve l D cA ar M p1) mwX5_isSolve wmX5_149 rfl (q0 := 0) rfl rfl rfl (Nat.le_of_ble_eq_true rfl) ⟨by decide, by decide⟩ ⟨by show _ ≤ 0; omega, by show _ ≤ 0; omega⟩ rfl (by decide) dX5_back_2 (fun r1 hp2 => ?_)
  subst hp2
  refine x_if_eq F 17 dX5_back_5 (by decide) (fun h5 => ?_) (fun h5 => ?_)
  · refine x_bipush F (-2) dX5_back_17 (by decide +kernel) ?_
    exact x_iret F () (rfl) (rfl) (by omega) (by omega) dX5_back_19
  · exact absurd (bz_n0.mp h5) hb

set_option maxHeartbeats 4000000 in
set_option maxRecDepth 100000 in
theorem c_X5_room_b0 (l : Launch) (D : va_G) (cA : Nat → ClassId) (ar : Nat → Nat) (M : Nat → Nat → Int32) (p1 p2 p3 : Int32) (hb : ¬ (nI 0 ≤ p1 ∧ p1 ≤ M 17 0 - nI 1)) : Cr l D cA yX5_room cX5_room 4 (some .int) 2 ([.ref (ar 100), .int p1, .int p2, .int p3] : List Value) (wR cA ar M) (fun r : Option Value => r = some (.int (-2))) := by
  refine x_met (by decide +kernel) rfl (Nat.le_of_ble_eq_true rfl) ?_
  intro xp xe xs xm xbl xme xco F hnm
  refine x_lv [(0, .ref (ar 100)), (1, .int p1), (2, .int p2), (3, .int p3)] [0, 1, 2, 3] rfl ?_
  refine x_aload_n F 0 dX5_room_0 rfl ?_
  refine x_iload_n F 1 dX5_room_1 rfl ?_
  refine x_callVr F [] [0, 1, 2, 3, 4, 5, 6, 7, 8, 9, 10, 11, 12, 13, 14, 15, 16, 17, 18, 19, 20, 21, 22, 23, 24, 25] (c_X5_isSolve l D cA ar M p1) mwX5_isSolve wmX5_149 rfl (q0 := 0) rfl rfl rfl (Nat.le_of_ble_eq_true rfl) ⟨by decide, by decide⟩ ⟨by show _ ≤ 0; omega, by show _ ≤ 0; omega⟩ rfl (by decide) dX5_room_2 (fun r1 hp2 => ?_)
  subst hp2
  refine x_if_eq F 18 dX5_room_5 (by decide) (fun h5 => ?_) (fun h5 => ?_)
  · refine x_bipush F (-2) dX5_room_18 (by decide +kernel) ?_
    exact x_iret F () (rfl) (rfl) (by omega) (by omega) dX5_room_20
  · exact absurd (bz_n0.mp h5) hb

set_option maxHeartbeats 4000000 in
set_option maxRecDepth 100000 in
theorem c_X5_scoreBy_b0 (l : Launch) (D : va_G) (cA : Nat → ClassId) (ar : Nat → Nat) (M : Nat → Nat → Int32) (p1 p2 p3 p4 : Int32) (hb : ¬ (nI 0 ≤ p1 ∧ p1 ≤ M 17 0 - nI 1)) : Cr l D cA yX5_scoreBy cX5_scoreBy 5 (some .int) 2 ([.ref (ar 100), .int p1, .int p2, .int p3, .int p4] : List Value) (wR cA ar M) (fun r : Option Value => r = some (.int (-2))) := by
  refine x_met (by decide +kernel) rfl (Nat.le_of_ble_eq_true rfl) ?_
  intro xp xe xs xm xbl xme xco F hnm
  refine x_lv [(0, .ref (ar 100)), (1, .int p1), (2, .int p2), (3, .int p3), (4, .int p4)] [0, 1, 2, 3, 4] rfl ?_
  refine x_aload_n F 0 dX5_scoreBy_0 rfl ?_
  refine x_iload_n F 1 dX5_scoreBy_1 rfl ?_
  refine x_callVr F [] [0, 1, 2, 3, 4, 5, 6, 7, 8, 9, 10, 11, 12, 13, 14, 15, 16, 17, 18, 19, 20, 21, 22, 23, 24, 25] (c_X5_isSolve l D cA ar M p1) mwX5_isSolve wmX5_149 rfl (q0 := 0) rfl rfl rfl (Nat.le_of_ble_eq_true rfl) ⟨by decide, by decide⟩ ⟨by show _ ≤ 0; omega, by show _ ≤ 0; omega⟩ rfl (by decide) dX5_scoreBy_2 (fun r1 hp2 => ?_)
  subst hp2
  refine x_if_eq F 21 dX5_scoreBy_5 (by decide) (fun h5 => ?_) (fun h5 => ?_)
  · refine x_bipush F (-2) dX5_scoreBy_21 (by decide +kernel) ?_
    exact x_iret F () (rfl) (rfl) (by omega) (by omega) dX5_scoreBy_23
  · exact absurd (bz_n0.mp h5) hb

set_option maxHeartbeats 4000000 in
set_option maxRecDepth 100000 in
theorem c_X5_same_b0 (l : Launch) (D : va_G) (cA : Nat → ClassId) (ar : Nat → Nat) (M : Nat → Nat → Int32) (p1 p2 : Int32) (hb : ¬ (nI 0 ≤ p1 ∧ p1 ≤ M 17 0 - nI 1)) : Cr l D cA yX5_same cX5_same 5 (some .int) 2 ([.ref (ar 100), .int p1, .int p2] : List Value) (wR cA ar M) (fun r : Option Value => r = some (.int (-2))) := by
  refine x_met (by decide +kernel) rfl (Nat.le_of_ble_eq_true rfl) ?_
  intro xp xe xs xm xbl xme xco F hnm
  refine x_lv [(0, .ref (ar 100)), (1, .int p1), (2, .int p2)] [0, 1, 2] rfl ?_
  refine x_aload_n F 0 dX5_same_0 rfl ?_
  refine x_iload_n F 1 dX5_same_1 rfl ?_
  refine x_callVr F [] [0, 1, 2, 3, 4, 5, 6, 7, 8, 9, 10, 11, 12, 13, 14, 15, 16, 17, 18, 19, 20, 21, 22, 23, 24, 25] (c_X5_isSolve l D cA ar M p1) mwX5_isSolve wmX5_149 rfl (q0 := 0) rfl rfl rfl (Nat.le_of_ble_eq_true rfl) ⟨by decide, by decide⟩ ⟨by show _ ≤ 0; omega, by show _ ≤ 0; omega⟩ rfl (by decide) dX5_same_2 (fun r1 hp2 => ?_)
  subst hp2
  refine x_if_eq F 16 dX5_same_5 (by decide) (fun h5 => ?_) (fun h5 => ?_)
  · refine x_bipush F (-2) dX5_same_16 (by decide +kernel) ?_
    exact x_iret F () (rfl) (rfl) (by omega) (by omega) dX5_same_18
  · exact absurd (bz_n0.mp h5) hb

set_option maxHeartbeats 4000000 in
set_option maxRecDepth 100000 in
theorem c_X5_score_b0 (l : Launch) (D : va_G) (cA : Nat → ClassId) (ar : Nat → Nat) (M : Nat → Nat → Int32) (p1 p2 p3 : Int32) (hb : ¬ (nI 0 ≤ p1 ∧ p1 ≤ M 17 0 - nI 1)) : Cr l D cA yX5_score cX5_score 4 (some .int) 2 ([.ref (ar 100), .int p1, .int p2, .int p3] : List Value) (wR cA ar M) (fun r : Option Value => r = some (.int (-2))) := by
  refine x_met (by decide +kernel) rfl (Nat.le_of_ble_eq_true rfl) ?_
  intro xp xe xs xm xbl xme xco F hnm
  refine x_lv [(0, .ref (ar 100)), (1, .int p1), (2, .int p2), (3, .int p3)] [0, 1, 2, 3] rfl ?_
  refine x_aload_n F 0 dX5_score_0 rfl ?_
  refine x_iload_n F 1 dX5_score_1 rfl ?_
  refine x_callVr F [] [0, 1, 2, 3, 4, 5, 6, 7, 8, 9, 10, 11, 12, 13, 14, 15, 16, 17, 18, 19, 20, 21, 22, 23, 24, 25] (c_X5_isSolve l D cA ar M p1) mwX5_isSolve wmX5_149 rfl (q0 := 0) rfl rfl rfl (Nat.le_of_ble_eq_true rfl) ⟨by decide, by decide⟩ ⟨by show _ ≤ 0; omega, by show _ ≤ 0; omega⟩ rfl (by decide) dX5_score_2 (fun r1 hp2 => ?_)
  subst hp2
  refine x_if_ne F 11 dX5_score_5 (by decide) (fun h5 => ?_) (fun h5 => ?_)
  · exact absurd (bz_n0.mp h5) hb
  · refine x_bipush F (-2) dX5_score_8 (by decide +kernel) ?_
    exact x_iret F () (rfl) (rfl) (by omega) (by omega) dX5_score_10

set_option maxHeartbeats 4000000 in
set_option maxRecDepth 100000 in
theorem c_X5_told_b0 (l : Launch) (D : va_G) (cA : Nat → ClassId) (ar : Nat → Nat) (M : Nat → Nat → Int32) (p1 p2 : Int32) (hb : ¬ (nI 0 ≤ p1 ∧ p1 ≤ M 17 0 - nI 1)) : Cr l D cA yX5_told cX5_told 4 (some .int) 2 ([.ref (ar 100), .int p1, .int p2] : List Value) (wR cA ar M) (fun r : Option Value => r = some (.int (-2147483648))) := by
  refine x_met (by decide +kernel) rfl (Nat.le_of_ble_eq_true rfl) ?_
  intro xp xe xs xm xbl xme xco F hnm
  refine x_lv [(0, .ref (ar 100)), (1, .int p1), (2, .int p2)] [0, 1, 2] rfl ?_
  refine x_aload_n F 0 dX5_told_0 rfl ?_
  refine x_iload_n F 1 dX5_told_1 rfl ?_
  refine x_callVr F [] [0, 1, 2, 3, 4, 5, 6, 7, 8, 9, 10, 11, 12, 13, 14, 15, 16, 17, 18, 19, 20, 21, 22, 23, 24, 25] (c_X5_isSolve l D cA ar M p1) mwX5_isSolve wmX5_149 rfl (q0 := 0) rfl rfl rfl (Nat.le_of_ble_eq_true rfl) ⟨by decide, by decide⟩ ⟨by show _ ≤ 0; omega, by show _ ≤ 0; omega⟩ rfl (by decide) dX5_told_2 (fun r1 hp2 => ?_)
  subst hp2
  refine x_if_eq F 18 dX5_told_5 (by decide) (fun h5 => ?_) (fun h5 => ?_)
  · refine x_ldc F (-2147483648) wvX5_170 dX5_told_18 ?_
    exact x_iret F () (rfl) (rfl) (by omega) (by omega) dX5_told_20
  · exact absurd (bz_n0.mp h5) hb

set_option maxHeartbeats 4000000 in
set_option maxRecDepth 100000 in
theorem c_X5_take_b1 (l : Launch) (D : va_G) (cA : Nat → ClassId) (ar : Nat → Nat) (M : Nat → Nat → Int32) (ns s_ : Nat) (p2 : Int32) (hns : M 17 0 = nI ns) (hn3 : ns ≤ 3) (hs : s_ < ns) (hb : ¬ (nI 0 ≤ p2 ∧ p2 ≤ M 0 0)) : Cr l D cA yX5_take cX5_take 3 (some .int) 2 ([.ref (ar 100), .int (nI s_), .int p2] : List Value) (wR cA ar M) (fun r : Option Value => r = some (.int (-2))) := by
  refine x_met (by decide +kernel) rfl (Nat.le_of_ble_eq_true rfl) ?_
  intro xp xe xs xm xbl xme xco F hnm
  refine x_lv [(0, .ref (ar 100)), (1, .int (nI s_)), (2, .int p2)] [0, 1, 2] rfl ?_
  have hS : nI 0 ≤ nI s_ ∧ nI s_ ≤ M 17 0 - nI 1 := by rw [hns, pk_sub (by omega)]; exact wn_in (by omega) (by omega)
  refine x_aload_n F 0 dX5_take_0 rfl ?_
  refine x_iload_n F 1 dX5_take_1 rfl ?_
  refine x_callVr F [] [0, 1, 2, 3, 4, 5, 6, 7, 8, 9, 10, 11, 12, 13, 14, 15, 16, 17, 18, 19, 20, 21, 22, 23, 24, 25] (c_X5_isSolve l D cA ar M (nI s_)) mwX5_isSolve wmX5_149 rfl (q0 := 0) rfl rfl rfl (Nat.le_of_ble_eq_true rfl) ⟨by decide, by decide⟩ ⟨by show _ ≤ 0; omega, by show _ ≤ 0; omega⟩ rfl (by decide) dX5_take_2 (fun r1 hp2 => ?_)
  subst hp2
  refine x_if_eq F 20 dX5_take_5 (by decide) (fun h5 => ?_) (fun h5 => ?_)
  · exact absurd hS (bz_0.mp h5)
  · refine x_iload_n F 2 dX5_take_8 rfl ?_
    refine x_iconst F (nI 0) dX5_take_9 (by decide +kernel) ?_
    refine x_aload_n F 0 dX5_take_10 rfl ?_
    refine x_get F inUX5 0 0 rfl rfl (by decide) wfX5_97 rfl dX5_take_11 ?_
    refine x_callSr F [] [] (c_X5_in l D cA p2 (nI 0) (M 0 0)) mwX5_in wmX5_101 rfl rfl (Nat.le_of_ble_eq_true rfl) ⟨by decide, by decide⟩ ⟨by show _ ≤ 0; omega, by show _ ≤ 0; omega⟩ rfl (by decide) dX5_take_14 (fun r3 hp4 => ?_)
    subst hp4
    refine x_if_ne F 25 dX5_take_17 (by decide) (fun h17 => ?_) (fun h17 => ?_)
    · exact absurd (bz_n0.mp h17) hb
    · refine x_bipush F (-2) dX5_take_20 (by decide +kernel) ?_
      refine x_goto F 31 dX5_take_22 (by decide) ?_
      exact x_iret F () (rfl) (rfl) (by omega) (by omega) dX5_take_31

set_option maxHeartbeats 4000000 in
set_option maxRecDepth 100000 in
theorem c_X5_step_b1 (l : Launch) (D : va_G) (cA : Nat → ClassId) (ar : Nat → Nat) (M : Nat → Nat → Int32) (ns s_ : Nat) (p2 : Int32) (hns : M 17 0 = nI ns) (hn3 : ns ≤ 3) (hs : s_ < ns) (hb : ¬ (nI 0 ≤ p2 ∧ p2 ≤ nI 200)) : Cr l D cA yX5_step cX5_step 7 (some .int) 2 ([.ref (ar 100), .int (nI s_), .int p2] : List Value) (wR cA ar M) (fun r : Option Value => r = some (.int (-2))) := by
  refine x_met (by decide +kernel) rfl (Nat.le_of_ble_eq_true rfl) ?_
  intro xp xe xs xm xbl xme xco F hnm
  refine x_lv [(0, .ref (ar 100)), (1, .int (nI s_)), (2, .int p2)] [0, 1, 2] rfl ?_
  have hS : nI 0 ≤ nI s_ ∧ nI s_ ≤ M 17 0 - nI 1 := by rw [hns, pk_sub (by omega)]; exact wn_in (by omega) (by omega)
  refine x_aload_n F 0 dX5_step_0 rfl ?_
  refine x_iload_n F 1 dX5_step_1 rfl ?_
  refine x_callVr F [] [0, 1, 2, 3, 4, 5, 6, 7, 8, 9, 10, 11, 12, 13, 14, 15, 16, 17, 18, 19, 20, 21, 22, 23, 24, 25] (c_X5_isSolve l D cA ar M (nI s_)) mwX5_isSolve wmX5_149 rfl (q0 := 0) rfl rfl rfl (Nat.le_of_ble_eq_true rfl) ⟨by decide, by decide⟩ ⟨by show _ ≤ 0; omega, by show _ ≤ 0; omega⟩ rfl (by decide) dX5_step_2 (fun r1 hp2 => ?_)
  subst hp2
  refine x_if_eq F 19 dX5_step_5 (by decide) (fun h5 => ?_) (fun h5 => ?_)
  · exact absurd hS (bz_0.mp h5)
  · refine x_iload_n F 2 dX5_step_8 rfl ?_
    refine x_iconst F (nI 0) dX5_step_9 (by decide +kernel) ?_
    refine x_sipush F (nI 200) dX5_step_10 (by decide +kernel) ?_
    refine x_callSr F [] [] (c_X5_in l D cA p2 (nI 0) (nI 200)) mwX5_in wmX5_101 rfl rfl (Nat.le_of_ble_eq_true rfl) ⟨by decide, by decide⟩ ⟨by show _ ≤ 0; omega, by show _ ≤ 0; omega⟩ rfl (by decide) dX5_step_13 (fun r3 hp4 => ?_)
    subst hp4
    refine x_if_ne F 22 dX5_step_16 (by decide) (fun h16 => ?_) (fun h16 => ?_)
    · exact absurd (bz_n0.mp h16) hb
    · refine x_bipush F (-2) dX5_step_19 (by decide +kernel) ?_
      exact x_iret F () (rfl) (rfl) (by omega) (by omega) dX5_step_21

set_option maxHeartbeats 4000000 in
set_option maxRecDepth 100000 in
theorem c_X5_mark_b1 (l : Launch) (D : va_G) (cA : Nat → ClassId) (ar : Nat → Nat) (M : Nat → Nat → Int32) (ns s_ : Nat) (p2 : Int32) (hns : M 17 0 = nI ns) (hn3 : ns ≤ 3) (hs : s_ < ns) (hb : ¬ (nI 0 ≤ p2 ∧ p2 ≤ nI 1)) : Cr l D cA yX5_mark cX5_mark 5 (some .int) 2 ([.ref (ar 100), .int (nI s_), .int p2] : List Value) (wR cA ar M) (fun r : Option Value => r = some (.int (-2))) := by
  refine x_met (by decide +kernel) rfl (Nat.le_of_ble_eq_true rfl) ?_
  intro xp xe xs xm xbl xme xco F hnm
  refine x_lv [(0, .ref (ar 100)), (1, .int (nI s_)), (2, .int p2)] [0, 1, 2] rfl ?_
  have hS : nI 0 ≤ nI s_ ∧ nI s_ ≤ M 17 0 - nI 1 := by rw [hns, pk_sub (by omega)]; exact wn_in (by omega) (by omega)
  refine x_aload_n F 0 dX5_mark_0 rfl ?_
  refine x_iload_n F 1 dX5_mark_1 rfl ?_
  refine x_callVr F [] [0, 1, 2, 3, 4, 5, 6, 7, 8, 9, 10, 11, 12, 13, 14, 15, 16, 17, 18, 19, 20, 21, 22, 23, 24, 25] (c_X5_isSolve l D cA ar M (nI s_)) mwX5_isSolve wmX5_149 rfl (q0 := 0) rfl rfl rfl (Nat.le_of_ble_eq_true rfl) ⟨by decide, by decide⟩ ⟨by show _ ≤ 0; omega, by show _ ≤ 0; omega⟩ rfl (by decide) dX5_mark_2 (fun r1 hp2 => ?_)
  subst hp2
  refine x_if_eq F 17 dX5_mark_5 (by decide) (fun h5 => ?_) (fun h5 => ?_)
  · exact absurd hS (bz_0.mp h5)
  · refine x_iload_n F 2 dX5_mark_8 rfl ?_
    refine x_iconst F (nI 0) dX5_mark_9 (by decide +kernel) ?_
    refine x_iconst F (nI 1) dX5_mark_10 (by decide +kernel) ?_
    refine x_callSr F [] [] (c_X5_in l D cA p2 (nI 0) (nI 1)) mwX5_in wmX5_101 rfl rfl (Nat.le_of_ble_eq_true rfl) ⟨by decide, by decide⟩ ⟨by show _ ≤ 0; omega, by show _ ≤ 0; omega⟩ rfl (by decide) dX5_mark_11 (fun r3 hp4 => ?_)
    subst hp4
    refine x_if_ne F 20 dX5_mark_14 (by decide) (fun h14 => ?_) (fun h14 => ?_)
    · exact absurd (bz_n0.mp h14) hb
    · refine x_bipush F (-2) dX5_mark_17 (by decide +kernel) ?_
      exact x_iret F () (rfl) (rfl) (by omega) (by omega) dX5_mark_19

set_option maxHeartbeats 4000000 in
set_option maxRecDepth 100000 in
theorem c_X5_back_b1 (l : Launch) (D : va_G) (cA : Nat → ClassId) (ar : Nat → Nat) (M : Nat → Nat → Int32) (ns s_ : Nat) (p2 : Int32) (hns : M 17 0 = nI ns) (hn3 : ns ≤ 3) (hs : s_ < ns) (hb : ¬ (nI 0 ≤ p2 ∧ p2 ≤ nI 1)) : Cr l D cA yX5_back cX5_back 6 (some .int) 2 ([.ref (ar 100), .int (nI s_), .int p2] : List Value) (wR cA ar M) (fun r : Option Value => r = some (.int (-2))) := by
  refine x_met (by decide +kernel) rfl (Nat.le_of_ble_eq_true rfl) ?_
  intro xp xe xs xm xbl xme xco F hnm
  refine x_lv [(0, .ref (ar 100)), (1, .int (nI s_)), (2, .int p2)] [0, 1, 2] rfl ?_
  have hS : nI 0 ≤ nI s_ ∧ nI s_ ≤ M 17 0 - nI 1 := by rw [hns, pk_sub (by omega)]; exact wn_in (by omega) (by omega)
  refine x_aload_n F 0 dX5_back_0 rfl ?_
  refine x_iload_n F 1 dX5_back_1 rfl ?_
  refine x_callVr F [] [0, 1, 2, 3, 4, 5, 6, 7, 8, 9, 10, 11, 12, 13, 14, 15, 16, 17, 18, 19, 20, 21, 22, 23, 24, 25] (c_X5_isSolve l D cA ar M (nI s_)) mwX5_isSolve wmX5_149 rfl (q0 := 0) rfl rfl rfl (Nat.le_of_ble_eq_true rfl) ⟨by decide, by decide⟩ ⟨by show _ ≤ 0; omega, by show _ ≤ 0; omega⟩ rfl (by decide) dX5_back_2 (fun r1 hp2 => ?_)
  subst hp2
  refine x_if_eq F 17 dX5_back_5 (by decide) (fun h5 => ?_) (fun h5 => ?_)
  · exact absurd hS (bz_0.mp h5)
  · refine x_iload_n F 2 dX5_back_8 rfl ?_
    refine x_iconst F (nI 0) dX5_back_9 (by decide +kernel) ?_
    refine x_iconst F (nI 1) dX5_back_10 (by decide +kernel) ?_
    refine x_callSr F [] [] (c_X5_in l D cA p2 (nI 0) (nI 1)) mwX5_in wmX5_101 rfl rfl (Nat.le_of_ble_eq_true rfl) ⟨by decide, by decide⟩ ⟨by show _ ≤ 0; omega, by show _ ≤ 0; omega⟩ rfl (by decide) dX5_back_11 (fun r3 hp4 => ?_)
    subst hp4
    refine x_if_ne F 20 dX5_back_14 (by decide) (fun h14 => ?_) (fun h14 => ?_)
    · exact absurd (bz_n0.mp h14) hb
    · refine x_bipush F (-2) dX5_back_17 (by decide +kernel) ?_
      exact x_iret F () (rfl) (rfl) (by omega) (by omega) dX5_back_19

set_option maxHeartbeats 4000000 in
set_option maxRecDepth 100000 in
theorem c_X5_room_b1 (l : Launch) (D : va_G) (cA : Nat → ClassId) (ar : Nat → Nat) (M : Nat → Nat → Int32) (ns s_ : Nat) (p2 p3 : Int32) (hns : M 17 0 = nI ns) (hn3 : ns ≤ 3) (hs : s_ < ns) (hb : ¬ (nI 0 ≤ p3 ∧ p3 ≤ nI 15)) : Cr l D cA yX5_room cX5_room 4 (some .int) 2 ([.ref (ar 100), .int (nI s_), .int p2, .int p3] : List Value) (wR cA ar M) (fun r : Option Value => r = some (.int (-2))) := by
  refine x_met (by decide +kernel) rfl (Nat.le_of_ble_eq_true rfl) ?_
  intro xp xe xs xm xbl xme xco F hnm
  refine x_lv [(0, .ref (ar 100)), (1, .int (nI s_)), (2, .int p2), (3, .int p3)] [0, 1, 2, 3] rfl ?_
  have hS : nI 0 ≤ nI s_ ∧ nI s_ ≤ M 17 0 - nI 1 := by rw [hns, pk_sub (by omega)]; exact wn_in (by omega) (by omega)
  refine x_aload_n F 0 dX5_room_0 rfl ?_
  refine x_iload_n F 1 dX5_room_1 rfl ?_
  refine x_callVr F [] [0, 1, 2, 3, 4, 5, 6, 7, 8, 9, 10, 11, 12, 13, 14, 15, 16, 17, 18, 19, 20, 21, 22, 23, 24, 25] (c_X5_isSolve l D cA ar M (nI s_)) mwX5_isSolve wmX5_149 rfl (q0 := 0) rfl rfl rfl (Nat.le_of_ble_eq_true rfl) ⟨by decide, by decide⟩ ⟨by show _ ≤ 0; omega, by show _ ≤ 0; omega⟩ rfl (by decide) dX5_room_2 (fun r1 hp2 => ?_)
  subst hp2
  refine x_if_eq F 18 dX5_room_5 (by decide) (fun h5 => ?_) (fun h5 => ?_)
  · exact absurd hS (bz_0.mp h5)
  · refine x_iload_n F 3 dX5_room_8 rfl ?_
    refine x_iconst F (nI 0) dX5_room_9 (by decide +kernel) ?_
    refine x_bipush F (nI 15) dX5_room_10 (by decide +kernel) ?_
    refine x_callSr F [] [] (c_X5_in l D cA p3 (nI 0) (nI 15)) mwX5_in wmX5_101 rfl rfl (Nat.le_of_ble_eq_true rfl) ⟨by decide, by decide⟩ ⟨by show _ ≤ 0; omega, by show _ ≤ 0; omega⟩ rfl (by decide) dX5_room_12 (fun r3 hp4 => ?_)
    subst hp4
    refine x_if_ne F 21 dX5_room_15 (by decide) (fun h15 => ?_) (fun h15 => ?_)
    · exact absurd (bz_n0.mp h15) hb
    · refine x_bipush F (-2) dX5_room_18 (by decide +kernel) ?_
      exact x_iret F () (rfl) (rfl) (by omega) (by omega) dX5_room_20

set_option maxHeartbeats 4000000 in
set_option maxRecDepth 100000 in
theorem c_X5_scoreBy_b1 (l : Launch) (D : va_G) (cA : Nat → ClassId) (ar : Nat → Nat) (M : Nat → Nat → Int32) (ns s_ : Nat) (p2 p3 p4 : Int32) (hns : M 17 0 = nI ns) (hn3 : ns ≤ 3) (hs : s_ < ns) (hb : ¬ (nI 0 ≤ p4 ∧ p4 ≤ M 0 0)) : Cr l D cA yX5_scoreBy cX5_scoreBy 5 (some .int) 2 ([.ref (ar 100), .int (nI s_), .int p2, .int p3, .int p4] : List Value) (wR cA ar M) (fun r : Option Value => r = some (.int (-2))) := by
  refine x_met (by decide +kernel) rfl (Nat.le_of_ble_eq_true rfl) ?_
  intro xp xe xs xm xbl xme xco F hnm
  refine x_lv [(0, .ref (ar 100)), (1, .int (nI s_)), (2, .int p2), (3, .int p3), (4, .int p4)] [0, 1, 2, 3, 4] rfl ?_
  have hS : nI 0 ≤ nI s_ ∧ nI s_ ≤ M 17 0 - nI 1 := by rw [hns, pk_sub (by omega)]; exact wn_in (by omega) (by omega)
  refine x_aload_n F 0 dX5_scoreBy_0 rfl ?_
  refine x_iload_n F 1 dX5_scoreBy_1 rfl ?_
  refine x_callVr F [] [0, 1, 2, 3, 4, 5, 6, 7, 8, 9, 10, 11, 12, 13, 14, 15, 16, 17, 18, 19, 20, 21, 22, 23, 24, 25] (c_X5_isSolve l D cA ar M (nI s_)) mwX5_isSolve wmX5_149 rfl (q0 := 0) rfl rfl rfl (Nat.le_of_ble_eq_true rfl) ⟨by decide, by decide⟩ ⟨by show _ ≤ 0; omega, by show _ ≤ 0; omega⟩ rfl (by decide) dX5_scoreBy_2 (fun r1 hp2 => ?_)
  subst hp2
  refine x_if_eq F 21 dX5_scoreBy_5 (by decide) (fun h5 => ?_) (fun h5 => ?_)
  · exact absurd hS (bz_0.mp h5)
  · refine x_iload F 4 dX5_scoreBy_8 rfl ?_
    refine x_iconst F (nI 0) dX5_scoreBy_10 (by decide +kernel) ?_
    refine x_aload_n F 0 dX5_scoreBy_11 rfl ?_
    refine x_get F inUX5 0 0 rfl rfl (by decide) wfX5_97 rfl dX5_scoreBy_12 ?_
    refine x_callSr F [] [] (c_X5_in l D cA p4 (nI 0) (M 0 0)) mwX5_in wmX5_101 rfl rfl (Nat.le_of_ble_eq_true rfl) ⟨by decide, by decide⟩ ⟨by show _ ≤ 0; omega, by show _ ≤ 0; omega⟩ rfl (by decide) dX5_scoreBy_15 (fun r3 hp4 => ?_)
    subst hp4
    refine x_if_ne F 24 dX5_scoreBy_18 (by decide) (fun h18 => ?_) (fun h18 => ?_)
    · exact absurd (bz_n0.mp h18) hb
    · refine x_bipush F (-2) dX5_scoreBy_21 (by decide +kernel) ?_
      exact x_iret F () (rfl) (rfl) (by omega) (by omega) dX5_scoreBy_23

set_option maxHeartbeats 4000000 in
set_option maxRecDepth 100000 in
theorem c_X5_told_b1 (l : Launch) (D : va_G) (cA : Nat → ClassId) (ar : Nat → Nat) (M : Nat → Nat → Int32) (ns s_ : Nat) (p2 : Int32) (hns : M 17 0 = nI ns) (hn3 : ns ≤ 3) (hs : s_ < ns) (hb : ¬ (nI 0 ≤ p2 ∧ p2 ≤ nI 6)) : Cr l D cA yX5_told cX5_told 4 (some .int) 2 ([.ref (ar 100), .int (nI s_), .int p2] : List Value) (wR cA ar M) (fun r : Option Value => r = some (.int (-2147483648))) := by
  refine x_met (by decide +kernel) rfl (Nat.le_of_ble_eq_true rfl) ?_
  intro xp xe xs xm xbl xme xco F hnm
  refine x_lv [(0, .ref (ar 100)), (1, .int (nI s_)), (2, .int p2)] [0, 1, 2] rfl ?_
  have hS : nI 0 ≤ nI s_ ∧ nI s_ ≤ M 17 0 - nI 1 := by rw [hns, pk_sub (by omega)]; exact wn_in (by omega) (by omega)
  refine x_aload_n F 0 dX5_told_0 rfl ?_
  refine x_iload_n F 1 dX5_told_1 rfl ?_
  refine x_callVr F [] [0, 1, 2, 3, 4, 5, 6, 7, 8, 9, 10, 11, 12, 13, 14, 15, 16, 17, 18, 19, 20, 21, 22, 23, 24, 25] (c_X5_isSolve l D cA ar M (nI s_)) mwX5_isSolve wmX5_149 rfl (q0 := 0) rfl rfl rfl (Nat.le_of_ble_eq_true rfl) ⟨by decide, by decide⟩ ⟨by show _ ≤ 0; omega, by show _ ≤ 0; omega⟩ rfl (by decide) dX5_told_2 (fun r1 hp2 => ?_)
  subst hp2
  refine x_if_eq F 18 dX5_told_5 (by decide) (fun h5 => ?_) (fun h5 => ?_)
  · exact absurd hS (bz_0.mp h5)
  · refine x_iload_n F 2 dX5_told_8 rfl ?_
    refine x_iconst F (nI 0) dX5_told_9 (by decide +kernel) ?_
    refine x_bipush F (nI 6) dX5_told_10 (by decide +kernel) ?_
    refine x_callSr F [] [] (c_X5_in l D cA p2 (nI 0) (nI 6)) mwX5_in wmX5_101 rfl rfl (Nat.le_of_ble_eq_true rfl) ⟨by decide, by decide⟩ ⟨by show _ ≤ 0; omega, by show _ ≤ 0; omega⟩ rfl (by decide) dX5_told_12 (fun r3 hp4 => ?_)
    subst hp4
    refine x_if_ne F 21 dX5_told_15 (by decide) (fun h15 => ?_) (fun h15 => ?_)
    · exact absurd (bz_n0.mp h15) hb
    · refine x_ldc F (-2147483648) wvX5_170 dX5_told_18 ?_
      exact x_iret F () (rfl) (rfl) (by omega) (by omega) dX5_told_20

set_option maxHeartbeats 4000000 in
set_option maxRecDepth 100000 in
theorem c_X5_same_b1 (l : Launch) (D : va_G) (cA : Nat → ClassId) (ar : Nat → Nat) (M : Nat → Nat → Int32) (ns s_ : Nat) (p2 : Int32) (hns : M 17 0 = nI ns) (hn3 : ns ≤ 3) (hs : s_ < ns) (hb : ¬ (nI 0 ≤ p2 ∧ p2 ≤ M 17 0 - nI 1)) : Cr l D cA yX5_same cX5_same 5 (some .int) 2 ([.ref (ar 100), .int (nI s_), .int p2] : List Value) (wR cA ar M) (fun r : Option Value => r = some (.int (-2))) := by
  refine x_met (by decide +kernel) rfl (Nat.le_of_ble_eq_true rfl) ?_
  intro xp xe xs xm xbl xme xco F hnm
  refine x_lv [(0, .ref (ar 100)), (1, .int (nI s_)), (2, .int p2)] [0, 1, 2] rfl ?_
  have hS : nI 0 ≤ nI s_ ∧ nI s_ ≤ M 17 0 - nI 1 := by rw [hns, pk_sub (by omega)]; exact wn_in (by omega) (by omega)
  refine x_aload_n F 0 dX5_same_0 rfl ?_
  refine x_iload_n F 1 dX5_same_1 rfl ?_
  refine x_callVr F [] [0, 1, 2, 3, 4, 5, 6, 7, 8, 9, 10, 11, 12, 13, 14, 15, 16, 17, 18, 19, 20, 21, 22, 23, 24, 25] (c_X5_isSolve l D cA ar M (nI s_)) mwX5_isSolve wmX5_149 rfl (q0 := 0) rfl rfl rfl (Nat.le_of_ble_eq_true rfl) ⟨by decide, by decide⟩ ⟨by show _ ≤ 0; omega, by show _ ≤ 0; omega⟩ rfl (by decide) dX5_same_2 (fun r1 hp2 => ?_)
  subst hp2
  refine x_if_eq F 16 dX5_same_5 (by decide) (fun h5 => ?_) (fun h5 => ?_)
  · exact absurd hS (bz_0.mp h5)
  · refine x_aload_n F 0 dX5_same_8 rfl ?_
    refine x_iload_n F 2 dX5_same_9 rfl ?_
    refine x_callVr F [] [0, 1, 2, 3, 4, 5, 6, 7, 8, 9, 10, 11, 12, 13, 14, 15, 16, 17, 18, 19, 20, 21, 22, 23, 24, 25] (c_X5_isSolve l D cA ar M p2) mwX5_isSolve wmX5_149 rfl (q0 := 0) rfl rfl rfl (Nat.le_of_ble_eq_true rfl) ⟨by decide, by decide⟩ ⟨by show _ ≤ 0; omega, by show _ ≤ 0; omega⟩ rfl (by decide) dX5_same_10 (fun r3 hp4 => ?_)
    subst hp4
    refine x_if_ne F 19 dX5_same_13 (by decide) (fun h13 => ?_) (fun h13 => ?_)
    · exact absurd (bz_n0.mp h13) hb
    · refine x_bipush F (-2) dX5_same_16 (by decide +kernel) ?_
      exact x_iret F () (rfl) (rfl) (by omega) (by omega) dX5_same_18

set_option maxHeartbeats 4000000 in
set_option maxRecDepth 100000 in
theorem c_X5_take_ok (l : Launch) (D : va_G) (cA : Nat → ClassId) (ar : Nat → Nat) (M : Nat → Nat → Int32) (ns s_ n k cnt L : Nat) (hns : M 17 0 = nI ns) (hn3 : ns ≤ 3) (hs : s_ < ns) (hc : M 0 0 = nI cnt) (hcn : cnt ≤ 120) (hk : M 18 s_ = nI k) (hkc : k ≤ cnt) (hwf : ∀ i, i < cnt → wfE (logR M) i) (hl : M 21 s_ = nI L) (hL : L ≤ 8) (hnc : n ≤ cnt) : Cg l D cA yX5_take cX5_take 3 (some .int) 4 0 0 ([.ref (ar 100), .int (nI s_), .int (nI n)] : List Value) (wR cA ar M) (fun (r : Option Value) (u : Nat → Nat → Int32) => r = some (.int (nI (n - k))) ∧ u = if n ≤ k then M else catR M s_ k n L) (fun u : Nat → Nat → Int32 => wR cA ar u) := by
  refine x_met (by decide +kernel) rfl (Nat.le_of_ble_eq_true rfl) ?_
  intro xp xe xs xm xbl xme xco F hnm
  refine x_lv [(0, .ref (ar 100)), (1, .int (nI s_)), (2, .int (nI n))] [0, 1, 2] rfl ?_
  have hS : nI 0 ≤ nI s_ ∧ nI s_ ≤ M 17 0 - nI 1 := by rw [hns, pk_sub (by omega)]; exact wn_in (by omega) (by omega)
  refine x_aload_n F 0 dX5_take_0 rfl ?_
  refine x_iload_n F 1 dX5_take_1 rfl ?_
  refine x_callVr F [] [0, 1, 2, 3, 4, 5, 6, 7, 8, 9, 10, 11, 12, 13, 14, 15, 16, 17, 18, 19, 20, 21, 22, 23, 24, 25] (c_X5_isSolve l D cA ar M (nI s_)) mwX5_isSolve wmX5_149 rfl (q0 := 0) rfl rfl rfl (Nat.le_of_ble_eq_true rfl) ⟨by decide, by decide⟩ ⟨by show _ ≤ 0; omega, by show _ ≤ 0; omega⟩ rfl (by decide) dX5_take_2 (fun r1 hp2 => ?_)
  subst hp2
  refine x_if_eq F 20 dX5_take_5 (by decide) (fun h5 => ?_) (fun h5 => ?_)
  · exact absurd hS (bz_0.mp h5)
  · refine x_iload_n F 2 dX5_take_8 rfl ?_
    refine x_iconst F (nI 0) dX5_take_9 (by decide +kernel) ?_
    refine x_aload_n F 0 dX5_take_10 rfl ?_
    refine x_get F inUX5 0 0 rfl rfl (by decide) wfX5_97 rfl dX5_take_11 ?_
    refine x_top (nI cnt) (hc) ?_
    refine x_callSr F [] [] (c_X5_in l D cA (nI n) (nI 0) (nI cnt)) mwX5_in wmX5_101 rfl rfl (Nat.le_of_ble_eq_true rfl) ⟨by decide, by decide⟩ ⟨by show _ ≤ 0; omega, by show _ ≤ 0; omega⟩ rfl (by decide) dX5_take_14 (fun r3 hp4 => ?_)
    subst hp4
    refine x_if_ne F 25 dX5_take_17 (by decide) (fun h17 => ?_) (fun h17 => ?_)
    · refine x_aload_n F 0 dX5_take_25 rfl ?_
      refine x_iload_n F 1 dX5_take_26 rfl ?_
      refine x_iload_n F 2 dX5_take_27 rfl ?_
      refine x_callV F [] ([]) [0, 1, 2, 3, 4, 5, 6, 7, 8, 9, 10, 11, 12, 13, 14, 15, 16, 17, 18, 19, 20, 21, 22, 23, 24, 25] [] (c_X5_catchUp l D cA ar M s_ n k cnt L (by omega) hk hkc (by omega) hcn hwf hl hL) mwX5_catchUp wmX5_152 rfl (q0 := 0) rfl rfl rfl (Nat.le_of_ble_eq_true rfl) ⟨by decide, by decide⟩ ⟨by show _ ≤ 0; omega, by show _ ≤ 0; omega⟩ rfl rfl (by decide) (by decide) (by decide) dX5_take_28 (fun r5 u6 hp7 => ?_)
      obtain ⟨rfl, eu⟩ := hp7
      exact x_iret F u6 (⟨rfl, eu⟩) (rfl) (by omega) (by omega) dX5_take_31
    · exact absurd (wn_in (n := cnt) hnc (by omega)) (bz_0.mp h17)

set_option maxHeartbeats 4000000 in
set_option maxRecDepth 100000 in
theorem c_X5_step_ok (l : Launch) (D : va_G) (cA : Nat → ClassId) (ar : Nat → Nat) (M : Nat → Nat → Int32) (ns s_ n k t cnt L : Nat) (hns : M 17 0 = nI ns) (hn3 : ns ≤ 3) (hs : s_ < ns) (hc : M 0 0 = nI cnt) (hcn : cnt ≤ 120) (hk : M 18 s_ = nI k) (hkc : k ≤ cnt) (hwf : ∀ i, i < cnt → wfE (logR M) i) (hl : M 21 s_ = nI L) (hL : L ≤ 8) (hn : n ≤ 200) (ht : M 19 s_ = nI t) (ht2 : t < 2 ^ 29) (hL0 : 0 < L) : Cg l D cA yX5_step cX5_step 7 (some .int) 4 0 0 ([.ref (ar 100), .int (nI s_), .int (nI n)] : List Value) (wR cA ar M) (fun (r : Option Value) (u : Nat → Nat → Int32) => r = some (.int ((ssR s_ t L n (cuA M s_ k cnt L)) 24 s_ - (cuA M s_ k cnt L) 24 s_)) ∧ u = (ssR s_ t L n (cuA M s_ k cnt L))) (fun u : Nat → Nat → Int32 => wR cA ar u) := by
  refine x_met (by decide +kernel) rfl (Nat.le_of_ble_eq_true rfl) ?_
  intro xp xe xs xm xbl xme xco F hnm
  refine x_lv [(0, .ref (ar 100)), (1, .int (nI s_)), (2, .int (nI n))] [0, 1, 2] rfl ?_
  have hS : nI 0 ≤ nI s_ ∧ nI s_ ≤ M 17 0 - nI 1 := by rw [hns, pk_sub (by omega)]; exact wn_in (by omega) (by omega)
  refine x_aload_n F 0 dX5_step_0 rfl ?_
  refine x_iload_n F 1 dX5_step_1 rfl ?_
  refine x_callVr F [] [0, 1, 2, 3, 4, 5, 6, 7, 8, 9, 10, 11, 12, 13, 14, 15, 16, 17, 18, 19, 20, 21, 22, 23, 24, 25] (c_X5_isSolve l D cA ar M (nI s_)) mwX5_isSolve wmX5_149 rfl (q0 := 0) rfl rfl rfl (Nat.le_of_ble_eq_true rfl) ⟨by decide, by decide⟩ ⟨by show _ ≤ 0; omega, by show _ ≤ 0; omega⟩ rfl (by decide) dX5_step_2 (fun r1 hp2 => ?_)
  subst hp2
  refine x_if_eq F 19 dX5_step_5 (by decide) (fun h5 => ?_) (fun h5 => ?_)
  · exact absurd hS (bz_0.mp h5)
  · refine x_iload_n F 2 dX5_step_8 rfl ?_
    refine x_iconst F (nI 0) dX5_step_9 (by decide +kernel) ?_
    refine x_sipush F (nI 200) dX5_step_10 (by decide +kernel) ?_
    refine x_callSr F [] [] (c_X5_in l D cA (nI n) (nI 0) (nI 200)) mwX5_in wmX5_101 rfl rfl (Nat.le_of_ble_eq_true rfl) ⟨by decide, by decide⟩ ⟨by show _ ≤ 0; omega, by show _ ≤ 0; omega⟩ rfl (by decide) dX5_step_13 (fun r3 hp4 => ?_)
    subst hp4
    refine x_if_ne F 22 dX5_step_16 (by decide) (fun h16 => ?_) (fun h16 => ?_)
    · refine x_aload_n F 0 dX5_step_22 rfl ?_
      refine x_iload_n F 1 dX5_step_23 rfl ?_
      refine x_aload_n F 0 dX5_step_24 rfl ?_
      refine x_get F inUX5 0 0 rfl rfl (by decide) wfX5_97 rfl dX5_step_25 ?_
      refine x_top (nI cnt) (hc) ?_
      refine x_callV F [] ([]) [0, 1, 2, 3, 4, 5, 6, 7, 8, 9, 10, 11, 12, 13, 14, 15, 16, 17, 18, 19, 20, 21, 22, 23, 24, 25] [] (c_X5_catchUp l D cA ar M s_ cnt k cnt L (by omega) hk hkc (by omega) hcn hwf hl hL) mwX5_catchUp wmX5_152 rfl (q0 := 0) rfl rfl rfl (Nat.le_of_ble_eq_true rfl) ⟨by decide, by decide⟩ ⟨by show _ ≤ 0; omega, by show _ ≤ 0; omega⟩ rfl rfl (by decide) (by decide) (by decide) dX5_step_28 (fun r5 u6 hp7 => ?_)
      obtain ⟨rfl, eu⟩ := hp7
      have eu : u6 = (cuA M s_ k cnt L) := eu
      subst eu
      refine x_istore_n F [(3, .int (nI (cnt - k))), (0, .ref (ar 100)), (1, .int (nI s_)), (2, .int (nI n))] dX5_step_31 (by decide) rfl ?_
      refine x_aload_n F 1 dX5_step_32 rfl ?_
      refine x_get F inUX5 0 24 rfl rfl (by decide) wfX5_68 rfl dX5_step_33 ?_
      refine x_iload_n F 2 dX5_step_36 rfl ?_
      refine x_iald F 20 (k := s_) rfl (by omega) (by decide) dX5_step_37 ?_
      refine x_istore F [(4, .int ((cuA M s_ k cnt L) 24 s_)), (3, .int (nI (cnt - k))), (0, .ref (ar 100)), (1, .int (nI s_)), (2, .int (nI n))] dX5_step_38 (by decide) rfl ?_
      refine x_iconst F (nI 0) dX5_step_40 (by decide +kernel) ?_
      refine x_istore F [(5, .int (nI 0)), (4, .int ((cuA M s_ k cnt L) 24 s_)), (3, .int (nI (cnt - k))), (0, .ref (ar 100)), (1, .int (nI s_)), (2, .int (nI n))] dX5_step_41 (by decide) rfl ?_
      refine x_lv [(0, .ref (ar 100)), (1, .int (nI s_)), (2, .int (nI n)), (4, .int ((cuA M s_ k cnt L) 24 s_)), (5, .int (nI 0))] [3, 4, 5, 1, 0] rfl ?_
      have loop43 : ∀ (nn43 : Nat) (x : Nat) (A : Nat → Nat → Int32), (x ≤ n) → (A = ssR s_ t L x (cuA M s_ k cnt L)) → (n - x < nn43) → Wx xp l xe (rmL 4 0 0) xs xm ([.ref (ar 100), .int (nI s_), .int (nI n)] : List Value).toArray xbl xme xco 0 0 (xQ xbl D (wR cA ar M) xs ([.ref (ar 100), .int (nI s_), .int (nI n)] : List Value).toArray 0 0 (fun (r : Option Value) (u : Nat → Nat → Int32) => r = some (.int ((ssR s_ t L n (cuA M s_ k cnt L)) 24 s_ - (cuA M s_ k cnt L) 24 s_)) ∧ u = (ssR s_ t L n (cuA M s_ k cnt L))) (fun u : Nat → Nat → Int32 => wR cA ar u)) 7 D (va_A (wR cA ar M) xs.heap.size) 43 [(0, .ref (ar 100)), (1, .int (nI s_)), (2, .int (nI n)), (4, .int ((cuA M s_ k cnt L) 24 s_)), (5, .int (nI x))] [] (wR cA ar A) := by
        intro nn43
        induction nn43 with
        | zero =>
          intro x A hx eA hm43
          exact absurd hm43 (Nat.not_lt_zero _)
        | succ nn43 ih43 =>
          intro x A hx eA hm43
          refine x_iload F 4 dX5_step_43 rfl ?_
          have h19 : A 19 s_ = nI (t + x) := by rw [eA]; exact ssR_19 _ _ _ _ _ (by rw [cuA_o _ _ _ _ _ _ (Or.inr (by decide)) (by decide) (by decide) (by decide) (by decide) (by decide) (by decide) (by decide)]; exact ht)
          have h21 : A 21 s_ = nI L := by rw [eA, ssR_o _ _ _ _ _ _ (by decide) (by decide) (by decide) (by decide) (by decide) (by decide) (by decide) (by decide) (by decide), cuA_o _ _ _ _ _ _ (Or.inr (by decide)) (by decide) (by decide) (by decide) (by decide) (by decide) (by decide) (by decide)]; exact hl
          have hml := Nat.mod_lt (t + x) hL0
          refine x_iload_n F 2 dX5_step_45 rfl ?_
          refine x_icmp_ge F 143 dX5_step_46 (by decide) (fun h46 => ?_) (fun h46 => ?_)
          · have h46n : n ≤ x := (nI_leI (by omega) (by omega)).mp h46
            obtain rfl : n = x := by omega
            refine x_aload_n F 0 dX5_step_143 rfl ?_
            refine x_get F inUX5 0 24 rfl rfl (by decide) wfX5_68 rfl dX5_step_144 ?_
            refine x_iload_n F 1 dX5_step_147 rfl ?_
            refine x_iald F 20 (k := s_) rfl (by omega) (by decide) dX5_step_148 ?_
            refine x_iload F 3 dX5_step_149 rfl ?_
            refine x_isub F ((A 24 s_) - ((cuA M s_ k cnt L) 24 s_)) dX5_step_151 rfl ?_
            exact x_iret F A (⟨by rw [eA], eA⟩) (rfl) (by omega) (by omega) dX5_step_152
          · have h46n : ¬ n ≤ x := fun z => h46 ((nI_leI (by omega) (by omega)).mpr z)
            refine x_aload_n F 0 dX5_step_49 rfl ?_
            refine x_get F inUX5 0 20 rfl rfl (by decide) wfX5_56 rfl dX5_step_50 ?_
            refine x_iload_n F 1 dX5_step_53 rfl ?_
            refine x_aload_n F 0 dX5_step_54 rfl ?_
            refine x_get F inUX5 0 20 rfl rfl (by decide) wfX5_56 rfl dX5_step_55 ?_
            refine x_iload_n F 1 dX5_step_58 rfl ?_
            refine x_iald F 16 (k := s_) rfl (by omega) (by decide) dX5_step_59 ?_
            refine x_ldc F (1103515245) wvX5_163 dX5_step_60 ?_
            refine x_top (nI 1103515245) (by decide +kernel) ?_
            refine x_imul F ((A 20 s_) * (nI 1103515245)) dX5_step_62 rfl ?_
            refine x_sipush F (nI 12345) dX5_step_63 (by decide +kernel) ?_
            refine x_iadd F (((A 20 s_) * (nI 1103515245)) + (nI 12345)) dX5_step_66 rfl ?_
            refine x_iast F 16 (k := s_) (wR cA ar (st2 A 20 s_ (((A 20 s_) * (nI 1103515245)) + (nI 12345)))) rfl (by omega) (by decide) rfl dX5_step_67 ?_
            refine x_aload_n F 0 dX5_step_68 rfl ?_
            refine x_iload_n F 1 dX5_step_69 rfl ?_
            refine x_callV F [] ([]) [0, 1, 2, 3, 4, 5, 6, 7, 8, 9, 10, 11, 12, 13, 14, 15, 16, 17, 18, 19, 20, 21, 22, 23, 24, 25] [] (c_X5_attempt l D cA ar (st2 A 20 s_ (((A 20 s_) * (nI 1103515245)) + (nI 12345))) s_ (t + x) L (by omega) h19 (by omega) h21 hL0 hL) mwX5_attempt wmX5_164 rfl (q0 := 0) rfl rfl rfl (Nat.le_of_ble_eq_true rfl) ⟨by decide, by decide⟩ ⟨by show _ ≤ 0; omega, by show _ ≤ 0; omega⟩ rfl rfl (by decide) (by decide) (by decide) dX5_step_70 (fun r8 u9 hp10 => ?_)
            obtain ⟨rfl, rfl⟩ := hp10
            obtain ⟨B1, eB1⟩ : ∃ z, z = atR (st2 A 20 s_ (((A 20 s_) * (nI 1103515245)) + (nI 12345))) s_ (8 * s_ + (t + x) % L) := ⟨_, rfl⟩
            rw [← eB1]
            have b19 : B1 19 s_ = nI (t + x) := by rw [eB1, atR_o _ _ _ _ (by decide) (by decide) (by decide) (by decide)]; exact h19
            have b21 : B1 21 s_ = nI L := by rw [eB1, atR_o _ _ _ _ (by decide) (by decide) (by decide) (by decide)]; exact h21
            refine x_aload_n F 0 dX5_step_73 rfl ?_
            refine x_iload_n F 1 dX5_step_74 rfl ?_
            refine x_iload_n F 1 dX5_step_75 rfl ?_
            refine x_iload_n F 1 dX5_step_76 rfl ?_
            refine x_callV F [] ([]) [0, 1, 2, 3, 4, 5, 6, 7, 8, 9, 10, 11, 12, 13, 14, 15, 16, 17, 18, 19, 20, 21, 22, 23, 24, 25] [] (c_X5_judge l D cA ar B1 (s_) (s_) (s_) (by omega) (by omega) (by omega)) mwX5_judge wmX5_135 rfl (q0 := 0) rfl rfl rfl (Nat.le_of_ble_eq_true rfl) ⟨by decide, by decide⟩ ⟨by show _ ≤ 0; omega, by show _ ≤ 0; omega⟩ rfl rfl (by decide) (by decide) (by decide) dX5_step_77 (fun r11 u12 hp13 => ?_)
            obtain ⟨rfl, rfl⟩ := hp13
            refine x_bipush F (nI 8) dX5_step_80 (by decide +kernel) ?_
            refine x_iload_n F 1 dX5_step_82 rfl ?_
            refine x_imul F (nI (8 * s_)) dX5_step_83 (pk_mul _ _) ?_
            refine x_aload_n F 0 dX5_step_84 rfl ?_
            refine x_get F inUX5 0 19 rfl rfl (by decide) wfX5_53 rfl dX5_step_85 ?_
            refine x_iload_n F 1 dX5_step_88 rfl ?_
            refine x_iald F 15 (k := s_) rfl (by omega) (by decide) dX5_step_89 ?_
            refine x_top (nI (t + x)) (b19) ?_
            refine x_aload_n F 0 dX5_step_90 rfl ?_
            refine x_get F inUX5 0 21 rfl rfl (by decide) wfX5_59 rfl dX5_step_91 ?_
            refine x_iload_n F 1 dX5_step_94 rfl ?_
            refine x_iald F 17 (k := s_) rfl (by omega) (by decide) dX5_step_95 ?_
            refine x_top (nI L) (b21) ?_
            refine x_irem F ((nI (t + x)) - (nI (t + x)) / (nI L) * (nI L)) dX5_step_96 (nI_ne0 hL0 (by omega)) rfl ?_
            refine x_top (nI ((t + x) % L)) (pk_rem (by omega) hL0 (by omega)) ?_
            refine x_iadd F (nI ((8 * s_) + ((t + x) % L))) dX5_step_97 (nI_add _ _) ?_
            refine x_istore F [(6, .int (nI ((8 * s_) + ((t + x) % L)))), (0, .ref (ar 100)), (1, .int (nI s_)), (2, .int (nI n)), (4, .int ((cuA M s_ k cnt L) 24 s_)), (5, .int (nI x))] dX5_step_98 (by decide) rfl ?_
            refine x_aload_n F 1 dX5_step_100 rfl ?_
            refine x_get F inUX5 0 22 rfl rfl (by decide) wfX5_62 rfl dX5_step_101 ?_
            refine x_iload F 0 dX5_step_104 rfl ?_
            refine x_aload_n F 1 dX5_step_106 rfl ?_
            refine x_get F inUX5 0 15 rfl rfl (by decide) wfX5_119 rfl dX5_step_107 ?_
            refine x_top (hdR B1 s_ s_ s_ 16) (rfl) ?_
            refine x_iast F 18 (k := (8 * s_) + ((t + x) % L)) (wR cA ar (st2 (jdg B1 (s_) (s_) (s_)) 22 ((8 * s_) + ((t + x) % L)) (hdR B1 s_ s_ s_ 16))) rfl (by omega) (by decide) rfl dX5_step_110 ?_
            refine x_aload_n F 1 dX5_step_111 rfl ?_
            refine x_get F inUX5 0 23 rfl rfl (by decide) wfX5_65 rfl dX5_step_112 ?_
            refine x_iload F 0 dX5_step_115 rfl ?_
            refine x_aload_n F 1 dX5_step_117 rfl ?_
            refine x_get F inUX5 0 16 rfl rfl (by decide) wfX5_122 rfl dX5_step_118 ?_
            refine x_top (sfR B1 s_ s_ s_ 16) (rfl) ?_
            refine x_iast F 19 (k := (8 * s_) + ((t + x) % L)) (wR cA ar (st2 (st2 (jdg B1 (s_) (s_) (s_)) 22 ((8 * s_) + ((t + x) % L)) (hdR B1 s_ s_ s_ 16)) 23 ((8 * s_) + ((t + x) % L)) (sfR B1 s_ s_ s_ 16))) rfl (by omega) (by decide) rfl dX5_step_121 ?_
            refine x_ws (wR cA ar (latR B1 s_ (8 * s_ + (t + x) % L))) rfl ?_
            obtain ⟨C1, eC1⟩ : ∃ z, z = latR B1 s_ (8 * s_ + (t + x) % L) := ⟨_, rfl⟩
            rw [← eC1]
            have c19 : C1 19 s_ = nI (t + x) := by rw [eC1]; exact b19
            refine x_aload_n F 1 dX5_step_122 rfl ?_
            refine x_iload_n F 2 dX5_step_123 rfl ?_
            refine x_callV F [] ([]) [0, 1, 2, 3, 4, 5, 6, 7, 8, 9, 10, 11, 12, 13, 14, 15, 16, 17, 18, 19, 20, 21, 22, 23, 24, 25] [] (c_X5_keepBest l D cA ar C1 s_ (by omega)) mwX5_keepBest wmX5_146 rfl (q0 := 0) rfl rfl rfl (Nat.le_of_ble_eq_true rfl) ⟨by decide, by decide⟩ ⟨by show _ ≤ 0; omega, by show _ ≤ 0; omega⟩ rfl rfl (by decide) (by decide) (by decide) dX5_step_124 (fun r14 u15 hp16 => ?_)
            obtain ⟨rfl, rfl⟩ := hp16
            refine x_aload_n F 1 dX5_step_127 rfl ?_
            refine x_get F inUX5 0 19 rfl rfl (by decide) wfX5_53 rfl dX5_step_128 ?_
            refine x_iload_n F 2 dX5_step_131 rfl ?_
            refine x_dup2 F dX5_step_132 rfl rfl ?_
            refine x_iald F 15 (k := s_) rfl (by omega) (by decide) dX5_step_133 ?_
            refine x_top (nI (t + x)) (by rw [kbR_o _ _ _ (by decide) (by decide) (by decide) (by decide)]; exact c19) ?_
            refine x_iconst F (nI 1) dX5_step_134 (by decide +kernel) ?_
            refine x_iadd F (nI ((t + x) + 1)) dX5_step_135 (nI_add _ _) ?_
            refine x_iast F 15 (k := s_) (wR cA ar (st2 (kbR C1 s_) 19 s_ (nI ((t + x) + 1)))) rfl (by omega) (by decide) rfl dX5_step_136 ?_
            rw [eC1, eB1]
            refine x_ws (wR cA ar (siR A s_ (t + x) L)) rfl ?_
            refine x_iinc F (nI (x + 1)) 5 [(5, .int (nI (x + 1))), (6, .int (nI ((8 * s_) + ((t + x) % L)))), (0, .ref (ar 100)), (1, .int (nI s_)), (2, .int (nI n)), (4, .int ((cuA M s_ k cnt L) 24 s_))] dX5_step_137 rfl ((nI_add x 1)) (by decide) rfl ?_
            refine x_goto F 43 dX5_step_140 (by decide) ?_
            have es2 : (siR A s_ (t + x) L) = siR A s_ (t + x) L := rfl
            refine x_lv [(0, .ref (ar 100)), (1, .int (nI s_)), (2, .int (nI n)), (4, .int ((cuA M s_ k cnt L) 24 s_)), (5, .int (nI (x + 1)))] [2, 3, 4, 5, 0] rfl ?_
            exact ih43 (x + 1) (siR A s_ (t + x) L) (by omega) (by rw [es2, eA]; rfl) (by omega)
      exact loop43 _ 0 (cuA M s_ k cnt L) (Nat.zero_le _) rfl (Nat.lt_succ_self _)
    · exact absurd (wn_in (n := 200) hn (by decide)) (bz_0.mp h16)

set_option maxHeartbeats 4000000 in
set_option maxRecDepth 100000 in
theorem c_X5_mark_ok (l : Launch) (D : va_G) (cA : Nat → ClassId) (ar : Nat → Nat) (M : Nat → Nat → Int32) (ns s_ k : Nat) (hns : M 17 0 = nI ns) (hn3 : ns ≤ 3) (hs : s_ < ns) (hk2 : k < 2) : Cg l D cA yX5_mark cX5_mark 5 (some .int) 2 0 0 ([.ref (ar 100), .int (nI s_), .int (nI k)] : List Value) (wR cA ar M) (fun (r : Option Value) (u : Nat → Nat → Int32) => r = some (.int (M 18 s_)) ∧ u = markR M s_ (2 * s_ + k)) (fun u : Nat → Nat → Int32 => wR cA ar u) := by
  refine x_met (by decide +kernel) rfl (Nat.le_of_ble_eq_true rfl) ?_
  intro xp xe xs xm xbl xme xco F hnm
  refine x_lv [(0, .ref (ar 100)), (1, .int (nI s_)), (2, .int (nI k))] [0, 1, 2] rfl ?_
  have hS : nI 0 ≤ nI s_ ∧ nI s_ ≤ M 17 0 - nI 1 := by rw [hns, pk_sub (by omega)]; exact wn_in (by omega) (by omega)
  refine x_aload_n F 0 dX5_mark_0 rfl ?_
  refine x_iload_n F 1 dX5_mark_1 rfl ?_
  refine x_callVr F [] [0, 1, 2, 3, 4, 5, 6, 7, 8, 9, 10, 11, 12, 13, 14, 15, 16, 17, 18, 19, 20, 21, 22, 23, 24, 25] (c_X5_isSolve l D cA ar M (nI s_)) mwX5_isSolve wmX5_149 rfl (q0 := 0) rfl rfl rfl (Nat.le_of_ble_eq_true rfl) ⟨by decide, by decide⟩ ⟨by show _ ≤ 0; omega, by show _ ≤ 0; omega⟩ rfl (by decide) dX5_mark_2 (fun r1 hp2 => ?_)
  subst hp2
  refine x_if_eq F 17 dX5_mark_5 (by decide) (fun h5 => ?_) (fun h5 => ?_)
  · exact absurd hS (bz_0.mp h5)
  · refine x_iload_n F 2 dX5_mark_8 rfl ?_
    refine x_iconst F (nI 0) dX5_mark_9 (by decide +kernel) ?_
    refine x_iconst F (nI 1) dX5_mark_10 (by decide +kernel) ?_
    refine x_callSr F [] [] (c_X5_in l D cA (nI k) (nI 0) (nI 1)) mwX5_in wmX5_101 rfl rfl (Nat.le_of_ble_eq_true rfl) ⟨by decide, by decide⟩ ⟨by show _ ≤ 0; omega, by show _ ≤ 0; omega⟩ rfl (by decide) dX5_mark_11 (fun r3 hp4 => ?_)
    subst hp4
    refine x_if_ne F 20 dX5_mark_14 (by decide) (fun h14 => ?_) (fun h14 => ?_)
    · refine x_iconst F (nI 2) dX5_mark_20 (by decide +kernel) ?_
      refine x_iload_n F 1 dX5_mark_21 rfl ?_
      refine x_imul F (nI (2 * s_)) dX5_mark_22 (pk_mul _ _) ?_
      refine x_iload_n F 2 dX5_mark_23 rfl ?_
      refine x_iadd F (nI ((2 * s_) + k)) dX5_mark_24 (nI_add _ _) ?_
      refine x_istore_n F [(3, .int (nI ((2 * s_) + k))), (0, .ref (ar 100)), (1, .int (nI s_)), (2, .int (nI k))] dX5_mark_25 (by decide) rfl ?_
      refine x_aload_n F 1 dX5_mark_26 rfl ?_
      refine x_get F inUX5 0 26 rfl rfl (by decide) wfX5_74 rfl dX5_mark_27 ?_
      refine x_iload_n F 0 dX5_mark_30 rfl ?_
      refine x_iconst F (nI 1) dX5_mark_31 (by decide +kernel) ?_
      refine x_zast F 22 (k := (2 * s_) + k) (wR cA ar (st2 M 26 ((2 * s_) + k) (nI 1))) rfl (by omega) (by decide) (by decide +kernel) rfl dX5_mark_32 ?_
      refine x_aload_n F 1 dX5_mark_33 rfl ?_
      refine x_get F inUX5 0 27 rfl rfl (by decide) wfX5_77 rfl dX5_mark_34 ?_
      refine x_iload_n F 0 dX5_mark_37 rfl ?_
      refine x_aload_n F 1 dX5_mark_38 rfl ?_
      refine x_get F inUX5 0 18 rfl rfl (by decide) wfX5_50 rfl dX5_mark_39 ?_
      refine x_iload_n F 2 dX5_mark_42 rfl ?_
      refine x_iald F 14 (k := s_) rfl (by omega) (by decide) dX5_mark_43 ?_
      refine x_top (M 18 s_) (rfl) ?_
      refine x_iast F 23 (k := (2 * s_) + k) (wR cA ar (st2 (st2 M 26 ((2 * s_) + k) (nI 1)) 27 ((2 * s_) + k) (M 18 s_))) rfl (by omega) (by decide) rfl dX5_mark_44 ?_
      refine x_aload_n F 1 dX5_mark_45 rfl ?_
      refine x_iload_n F 2 dX5_mark_46 rfl ?_
      refine x_bipush F (nI 7) dX5_mark_47 (by decide +kernel) ?_
      refine x_iconst F (nI 2) dX5_mark_49 (by decide +kernel) ?_
      refine x_iload_n F 0 dX5_mark_50 rfl ?_
      refine x_imul F (nI (2 * ((2 * s_) + k))) dX5_mark_51 (pk_mul _ _) ?_
      refine x_iadd F (nI (7 + (2 * ((2 * s_) + k)))) dX5_mark_52 (nI_add _ _) ?_
      refine x_callV F [] ([]) [0, 1, 2, 3, 4, 5, 6, 7, 8, 9, 10, 11, 12, 13, 14, 15, 16, 17, 18, 19, 20, 21, 22, 23, 24, 25] [] (c_X5_copyPlan l D cA ar (st2 (st2 M 26 ((2 * s_) + k) (nI 1)) 27 ((2 * s_) + k) (M 18 s_)) (s_) (7 + (2 * ((2 * s_) + k))) (by omega) (by omega)) mwX5_copyPlan wmX5_143 rfl (q0 := 0) rfl rfl rfl (Nat.le_of_ble_eq_true rfl) ⟨by decide, by decide⟩ ⟨by show _ ≤ 0; omega, by show _ ≤ 0; omega⟩ rfl rfl (by decide) (by decide) (by decide) dX5_mark_53 (fun r5 u6 hp7 => ?_)
      obtain ⟨rfl, rfl⟩ := hp7
      refine x_aload_n F 1 dX5_mark_56 rfl ?_
      refine x_iconst F (nI 3) dX5_mark_57 (by decide +kernel) ?_
      refine x_iload_n F 2 dX5_mark_58 rfl ?_
      refine x_iadd F (nI (3 + s_)) dX5_mark_59 (nI_add _ _) ?_
      refine x_bipush F (nI 8) dX5_mark_60 (by decide +kernel) ?_
      refine x_iconst F (nI 2) dX5_mark_62 (by decide +kernel) ?_
      refine x_iload_n F 0 dX5_mark_63 rfl ?_
      refine x_imul F (nI (2 * ((2 * s_) + k))) dX5_mark_64 (pk_mul _ _) ?_
      refine x_iadd F (nI (8 + (2 * ((2 * s_) + k)))) dX5_mark_65 (nI_add _ _) ?_
      refine x_callV F [] ([]) [0, 1, 2, 3, 4, 5, 6, 7, 8, 9, 10, 11, 12, 13, 14, 15, 16, 17, 18, 19, 20, 21, 22, 23, 24, 25] [] (c_X5_copyPlan l D cA ar (cpR (st2 (st2 M 26 ((2 * s_) + k) (nI 1)) 27 ((2 * s_) + k) (M 18 s_)) (s_) (7 + (2 * ((2 * s_) + k))) 16) (3 + s_) (8 + (2 * ((2 * s_) + k))) (by omega) (by omega)) mwX5_copyPlan wmX5_143 rfl (q0 := 0) rfl rfl rfl (Nat.le_of_ble_eq_true rfl) ⟨by decide, by decide⟩ ⟨by show _ ≤ 0; omega, by show _ ≤ 0; omega⟩ rfl rfl (by decide) (by decide) (by decide) dX5_mark_66 (fun r8 u9 hp10 => ?_)
      obtain ⟨rfl, rfl⟩ := hp10
      refine x_iconst F (nI 0) dX5_mark_69 (by decide +kernel) ?_
      refine x_istore F [(4, .int (nI 0)), (3, .int (nI ((2 * s_) + k))), (0, .ref (ar 100)), (1, .int (nI s_)), (2, .int (nI k))] dX5_mark_70 (by decide) rfl ?_
      obtain ⟨N, eN⟩ : ∃ z, z = (cpR (cpR (st2 (st2 M 26 (2 * s_ + k) (nI 1)) 27 (2 * s_ + k) (M 18 s_)) s_ (7 + 2 * (2 * s_ + k)) 16) (3 + s_) (8 + 2 * (2 * s_ + k)) 16) := ⟨_, rfl⟩
      rw [← eN]
      refine x_ws (wR cA ar (mkL N s_ (2 * s_ + k) 0)) (by rw [mkL_0]; rfl) ?_
      refine x_lv [(0, .ref (ar 100)), (1, .int (nI s_)), (2, .int (nI k)), (3, .int (nI ((2 * s_) + k))), (4, .int (nI 0))] [2, 3, 4, 1, 0] rfl ?_
      have loop72 : ∀ (nn72 : Nat) (x : Nat), (x ≤ 8) → (8 - x < nn72) → Wx xp l xe (rmL 2 0 0) xs xm ([.ref (ar 100), .int (nI s_), .int (nI k)] : List Value).toArray xbl xme xco 0 0 (xQ xbl D (wR cA ar M) xs ([.ref (ar 100), .int (nI s_), .int (nI k)] : List Value).toArray 0 0 (fun (r : Option Value) (u : Nat → Nat → Int32) => r = some (.int (M 18 s_)) ∧ u = markR M s_ (2 * s_ + k)) (fun u : Nat → Nat → Int32 => wR cA ar u)) 5 D (va_A (wR cA ar M) xs.heap.size) 72 [(0, .ref (ar 100)), (1, .int (nI s_)), (2, .int (nI k)), (3, .int (nI ((2 * s_) + k))), (4, .int (nI x))] [] (wR cA ar (mkL N s_ (2 * s_ + k) x)) := by
        intro nn72
        induction nn72 with
        | zero =>
          intro x hx hm72
          exact absurd hm72 (Nat.not_lt_zero _)
        | succ nn72 ih72 =>
          intro x hx hm72
          refine x_iload F 4 dX5_mark_72 rfl ?_
          refine x_bipush F (nI 8) dX5_mark_74 (by decide +kernel) ?_
          refine x_icmp_ge F 133 dX5_mark_76 (by decide) (fun h76 => ?_) (fun h76 => ?_)
          · have h76n : 8 ≤ x := (nI_leI (by decide) (by omega)).mp h76
            obtain rfl : 8 = x := by omega
            refine x_aload_n F 0 dX5_mark_133 rfl ?_
            refine x_get F inUX5 0 18 rfl rfl (by decide) wfX5_50 rfl dX5_mark_134 ?_
            refine x_iload_n F 1 dX5_mark_137 rfl ?_
            refine x_iald F 14 (k := s_) rfl (by omega) (by decide) dX5_mark_138 ?_
            refine x_top (M 18 s_) (by rw [mkL_o _ _ _ _ _ (by decide) (by decide), eN, cpR_o _ _ _ _ _ (by decide), cpR_o _ _ _ _ _ (by decide)]; rfl) ?_
            exact x_iret F (mkL N s_ (2 * s_ + k) 8) (⟨rfl, by rw [eN]; rfl⟩) (rfl) (by omega) (by omega) dX5_mark_139
          · have h76n : ¬ 8 ≤ x := fun z => h76 ((nI_leI (by decide) (by omega)).mpr z)
            refine x_aload_n F 0 dX5_mark_79 rfl ?_
            refine x_get F inUX5 0 28 rfl rfl (by decide) wfX5_80 rfl dX5_mark_80 ?_
            refine x_bipush F (nI 8) dX5_mark_83 (by decide +kernel) ?_
            refine x_iload_n F 3 dX5_mark_85 rfl ?_
            refine x_imul F (nI (8 * ((2 * s_) + k))) dX5_mark_86 (pk_mul _ _) ?_
            refine x_iload F 4 dX5_mark_87 rfl ?_
            refine x_iadd F (nI ((8 * ((2 * s_) + k)) + x)) dX5_mark_89 (nI_add _ _) ?_
            refine x_aload_n F 0 dX5_mark_90 rfl ?_
            refine x_get F inUX5 0 22 rfl rfl (by decide) wfX5_62 rfl dX5_mark_91 ?_
            refine x_bipush F (nI 8) dX5_mark_94 (by decide +kernel) ?_
            refine x_iload_n F 1 dX5_mark_96 rfl ?_
            refine x_imul F (nI (8 * s_)) dX5_mark_97 (pk_mul _ _) ?_
            refine x_iload F 4 dX5_mark_98 rfl ?_
            refine x_iadd F (nI ((8 * s_) + x)) dX5_mark_100 (nI_add _ _) ?_
            refine x_iald F 18 (k := (8 * s_) + x) rfl (by omega) (by decide) dX5_mark_101 ?_
            refine x_top (N 22 (8 * s_ + x)) (by rw [mkL_o _ _ _ _ _ (by decide) (by decide)]) ?_
            refine x_iast F 24 (k := (8 * ((2 * s_) + k)) + x) (wR cA ar (st2 (mkL N s_ (2 * s_ + k) x) 28 ((8 * ((2 * s_) + k)) + x) (N 22 (8 * s_ + x)))) rfl (by omega) (by decide) rfl dX5_mark_102 ?_
            refine x_aload_n F 0 dX5_mark_103 rfl ?_
            refine x_get F inUX5 0 29 rfl rfl (by decide) wfX5_83 rfl dX5_mark_104 ?_
            refine x_bipush F (nI 8) dX5_mark_107 (by decide +kernel) ?_
            refine x_iload_n F 3 dX5_mark_109 rfl ?_
            refine x_imul F (nI (8 * ((2 * s_) + k))) dX5_mark_110 (pk_mul _ _) ?_
            refine x_iload F 4 dX5_mark_111 rfl ?_
            refine x_iadd F (nI ((8 * ((2 * s_) + k)) + x)) dX5_mark_113 (nI_add _ _) ?_
            refine x_aload_n F 0 dX5_mark_114 rfl ?_
            refine x_get F inUX5 0 23 rfl rfl (by decide) wfX5_65 rfl dX5_mark_115 ?_
            refine x_bipush F (nI 8) dX5_mark_118 (by decide +kernel) ?_
            refine x_iload_n F 1 dX5_mark_120 rfl ?_
            refine x_imul F (nI (8 * s_)) dX5_mark_121 (pk_mul _ _) ?_
            refine x_iload F 4 dX5_mark_122 rfl ?_
            refine x_iadd F (nI ((8 * s_) + x)) dX5_mark_124 (nI_add _ _) ?_
            refine x_iald F 19 (k := (8 * s_) + x) rfl (by omega) (by decide) dX5_mark_125 ?_
            refine x_top (N 23 (8 * s_ + x)) (by rw [st2_at, if_neg (by omega), mkL_o _ _ _ _ _ (by decide) (by decide)]) ?_
            refine x_iast F 25 (k := (8 * ((2 * s_) + k)) + x) (wR cA ar (st2 (st2 (mkL N s_ (2 * s_ + k) x) 28 ((8 * ((2 * s_) + k)) + x) (N 22 (8 * s_ + x))) 29 ((8 * ((2 * s_) + k)) + x) (N 23 (8 * s_ + x)))) rfl (by omega) (by decide) rfl dX5_mark_126 ?_
            refine x_iinc F (nI (x + 1)) 4 [(4, .int (nI (x + 1))), (0, .ref (ar 100)), (1, .int (nI s_)), (2, .int (nI k)), (3, .int (nI ((2 * s_) + k)))] dX5_mark_127 rfl ((nI_add x 1)) (by decide) rfl ?_
            refine x_goto F 72 dX5_mark_130 (by decide) ?_
            rw [mkL_s]
            refine x_lv [(0, .ref (ar 100)), (1, .int (nI s_)), (2, .int (nI k)), (3, .int (nI ((2 * s_) + k))), (4, .int (nI (x + 1)))] [1, 2, 3, 4, 0] rfl ?_
            exact ih72 (x + 1) (by omega) (by omega)
      exact loop72 _ 0 (Nat.zero_le _) (Nat.lt_succ_self _)
    · exact absurd (wn_in (n := 1) (by omega) (by decide)) (bz_0.mp h14)

set_option maxHeartbeats 4000000 in
set_option maxRecDepth 100000 in
theorem c_X5_back_st (l : Launch) (D : va_G) (cA : Nat → ClassId) (ar : Nat → Nat) (M : Nat → Nat → Int32) (ns s_ k : Nat) (hns : M 17 0 = nI ns) (hn3 : ns ≤ 3) (hs : s_ < ns) (hk2 : k < 2) (h0 : M 26 (2 * s_ + k) = 0) : Cr l D cA yX5_back cX5_back 6 (some .int) 2 ([.ref (ar 100), .int (nI s_), .int (nI k)] : List Value) (wR cA ar M) (fun r : Option Value => r = some (.int (-3))) := by
  refine x_met (by decide +kernel) rfl (Nat.le_of_ble_eq_true rfl) ?_
  intro xp xe xs xm xbl xme xco F hnm
  refine x_lv [(0, .ref (ar 100)), (1, .int (nI s_)), (2, .int (nI k))] [0, 1, 2] rfl ?_
  have hS : nI 0 ≤ nI s_ ∧ nI s_ ≤ M 17 0 - nI 1 := by rw [hns, pk_sub (by omega)]; exact wn_in (by omega) (by omega)
  refine x_aload_n F 0 dX5_back_0 rfl ?_
  refine x_iload_n F 1 dX5_back_1 rfl ?_
  refine x_callVr F [] [0, 1, 2, 3, 4, 5, 6, 7, 8, 9, 10, 11, 12, 13, 14, 15, 16, 17, 18, 19, 20, 21, 22, 23, 24, 25] (c_X5_isSolve l D cA ar M (nI s_)) mwX5_isSolve wmX5_149 rfl (q0 := 0) rfl rfl rfl (Nat.le_of_ble_eq_true rfl) ⟨by decide, by decide⟩ ⟨by show _ ≤ 0; omega, by show _ ≤ 0; omega⟩ rfl (by decide) dX5_back_2 (fun r1 hp2 => ?_)
  subst hp2
  refine x_if_eq F 17 dX5_back_5 (by decide) (fun h5 => ?_) (fun h5 => ?_)
  · exact absurd hS (bz_0.mp h5)
  · refine x_iload_n F 2 dX5_back_8 rfl ?_
    refine x_iconst F (nI 0) dX5_back_9 (by decide +kernel) ?_
    refine x_iconst F (nI 1) dX5_back_10 (by decide +kernel) ?_
    refine x_callSr F [] [] (c_X5_in l D cA (nI k) (nI 0) (nI 1)) mwX5_in wmX5_101 rfl rfl (Nat.le_of_ble_eq_true rfl) ⟨by decide, by decide⟩ ⟨by show _ ≤ 0; omega, by show _ ≤ 0; omega⟩ rfl (by decide) dX5_back_11 (fun r3 hp4 => ?_)
    subst hp4
    refine x_if_ne F 20 dX5_back_14 (by decide) (fun h14 => ?_) (fun h14 => ?_)
    · refine x_iconst F (nI 2) dX5_back_20 (by decide +kernel) ?_
      refine x_iload_n F 1 dX5_back_21 rfl ?_
      refine x_imul F (nI (2 * s_)) dX5_back_22 (pk_mul _ _) ?_
      refine x_iload_n F 2 dX5_back_23 rfl ?_
      refine x_iadd F (nI ((2 * s_) + k)) dX5_back_24 (nI_add _ _) ?_
      refine x_istore_n F [(3, .int (nI ((2 * s_) + k))), (0, .ref (ar 100)), (1, .int (nI s_)), (2, .int (nI k))] dX5_back_25 (by decide) rfl ?_
      refine x_aload_n F 1 dX5_back_26 rfl ?_
      refine x_get F inUX5 0 26 rfl rfl (by decide) wfX5_74 rfl dX5_back_27 ?_
      refine x_iload_n F 0 dX5_back_30 rfl ?_
      refine x_zald F 22 (k := (2 * s_) + k) rfl (by omega) (by decide) dX5_back_31 ?_
      refine x_if_ne F 38 dX5_back_32 (by decide) (fun h32 => ?_) (fun h32 => ?_)
      · exact absurd h0 h32
      · refine x_bipush F (-3) dX5_back_35 (by decide +kernel) ?_
        exact x_iret F () (rfl) (rfl) (by omega) (by omega) dX5_back_37
    · exact absurd (wn_in (n := 1) (by omega) (by decide)) (bz_0.mp h14)

set_option maxHeartbeats 4000000 in
set_option maxRecDepth 100000 in
theorem c_X5_back_ok (l : Launch) (D : va_G) (cA : Nat → ClassId) (ar : Nat → Nat) (M : Nat → Nat → Int32) (ns s_ k n q cnt L : Nat) (hns : M 17 0 = nI ns) (hn3 : ns ≤ 3) (hs : s_ < ns) (hk2 : k < 2) (h0 : ¬ M 26 (2 * s_ + k) = 0) (hc : M 0 0 = nI cnt) (hcn : cnt ≤ 120) (hq : M 18 s_ = nI q) (hqc : q ≤ cnt) (hm : M 27 (2 * s_ + k) = nI n) (hnc : n ≤ cnt) (hwf : ∀ i, i < cnt → wfE (logR M) i) (hl : M 21 s_ = nI L) (hL : L ≤ 8) : Cg l D cA yX5_back cX5_back 6 (some .int) 4 0 0 ([.ref (ar 100), .int (nI s_), .int (nI k)] : List Value) (wR cA ar M) (fun (r : Option Value) (u : Nat → Nat → Int32) => r = some (.int (nI n)) ∧ u = if q ≤ n then backR M s_ (2 * s_ + k) n else catR (backR M s_ (2 * s_ + k) n) s_ n q L) (fun u : Nat → Nat → Int32 => wR cA ar u) := by
  refine x_met (by decide +kernel) rfl (Nat.le_of_ble_eq_true rfl) ?_
  intro xp xe xs xm xbl xme xco F hnm
  refine x_lv [(0, .ref (ar 100)), (1, .int (nI s_)), (2, .int (nI k))] [0, 1, 2] rfl ?_
  have hS : nI 0 ≤ nI s_ ∧ nI s_ ≤ M 17 0 - nI 1 := by rw [hns, pk_sub (by omega)]; exact wn_in (by omega) (by omega)
  refine x_aload_n F 0 dX5_back_0 rfl ?_
  refine x_iload_n F 1 dX5_back_1 rfl ?_
  refine x_callVr F [] [0, 1, 2, 3, 4, 5, 6, 7, 8, 9, 10, 11, 12, 13, 14, 15, 16, 17, 18, 19, 20, 21, 22, 23, 24, 25] (c_X5_isSolve l D cA ar M (nI s_)) mwX5_isSolve wmX5_149 rfl (q0 := 0) rfl rfl rfl (Nat.le_of_ble_eq_true rfl) ⟨by decide, by decide⟩ ⟨by show _ ≤ 0; omega, by show _ ≤ 0; omega⟩ rfl (by decide) dX5_back_2 (fun r1 hp2 => ?_)
  subst hp2
  refine x_if_eq F 17 dX5_back_5 (by decide) (fun h5 => ?_) (fun h5 => ?_)
  · exact absurd hS (bz_0.mp h5)
  · refine x_iload_n F 2 dX5_back_8 rfl ?_
    refine x_iconst F (nI 0) dX5_back_9 (by decide +kernel) ?_
    refine x_iconst F (nI 1) dX5_back_10 (by decide +kernel) ?_
    refine x_callSr F [] [] (c_X5_in l D cA (nI k) (nI 0) (nI 1)) mwX5_in wmX5_101 rfl rfl (Nat.le_of_ble_eq_true rfl) ⟨by decide, by decide⟩ ⟨by show _ ≤ 0; omega, by show _ ≤ 0; omega⟩ rfl (by decide) dX5_back_11 (fun r3 hp4 => ?_)
    subst hp4
    refine x_if_ne F 20 dX5_back_14 (by decide) (fun h14 => ?_) (fun h14 => ?_)
    · refine x_iconst F (nI 2) dX5_back_20 (by decide +kernel) ?_
      refine x_iload_n F 1 dX5_back_21 rfl ?_
      refine x_imul F (nI (2 * s_)) dX5_back_22 (pk_mul _ _) ?_
      refine x_iload_n F 2 dX5_back_23 rfl ?_
      refine x_iadd F (nI ((2 * s_) + k)) dX5_back_24 (nI_add _ _) ?_
      refine x_istore_n F [(3, .int (nI ((2 * s_) + k))), (0, .ref (ar 100)), (1, .int (nI s_)), (2, .int (nI k))] dX5_back_25 (by decide) rfl ?_
      refine x_aload_n F 1 dX5_back_26 rfl ?_
      refine x_get F inUX5 0 26 rfl rfl (by decide) wfX5_74 rfl dX5_back_27 ?_
      refine x_iload_n F 0 dX5_back_30 rfl ?_
      refine x_zald F 22 (k := (2 * s_) + k) rfl (by omega) (by decide) dX5_back_31 ?_
      refine x_if_ne F 38 dX5_back_32 (by decide) (fun h32 => ?_) (fun h32 => ?_)
      · refine x_aload_n F 1 dX5_back_38 rfl ?_
        refine x_get F inUX5 0 18 rfl rfl (by decide) wfX5_50 rfl dX5_back_39 ?_
        refine x_iload_n F 2 dX5_back_42 rfl ?_
        refine x_iald F 14 (k := s_) rfl (by omega) (by decide) dX5_back_43 ?_
        refine x_top (nI q) (hq) ?_
        refine x_istore F [(4, .int (nI q)), (3, .int (nI ((2 * s_) + k))), (0, .ref (ar 100)), (1, .int (nI s_)), (2, .int (nI k))] dX5_back_44 (by decide) rfl ?_
        refine x_aload_n F 2 dX5_back_46 rfl ?_
        refine x_get F inUX5 0 18 rfl rfl (by decide) wfX5_50 rfl dX5_back_47 ?_
        refine x_iload_n F 3 dX5_back_50 rfl ?_
        refine x_aload_n F 2 dX5_back_51 rfl ?_
        refine x_get F inUX5 0 27 rfl rfl (by decide) wfX5_77 rfl dX5_back_52 ?_
        refine x_iload_n F 1 dX5_back_55 rfl ?_
        refine x_iald F 23 (k := (2 * s_) + k) rfl (by omega) (by decide) dX5_back_56 ?_
        refine x_top (nI n) (hm) ?_
        refine x_iast F 14 (k := s_) (wR cA ar (st2 M 18 s_ (nI n))) rfl (by omega) (by decide) rfl dX5_back_57 ?_
        refine x_aload_n F 2 dX5_back_58 rfl ?_
        refine x_iload_n F 3 dX5_back_59 rfl ?_
        refine x_aload_n F 2 dX5_back_60 rfl ?_
        refine x_get F inUX5 0 18 rfl rfl (by decide) wfX5_50 rfl dX5_back_61 ?_
        refine x_iload_n F 3 dX5_back_64 rfl ?_
        refine x_iald F 14 (k := s_) rfl (by omega) (by decide) dX5_back_65 ?_
        refine x_top (nI n) (by simp [st2, va_up, upd]) ?_
        refine x_callV F [] ([]) [0, 1, 2, 3, 4, 5, 6, 7, 8, 9, 10, 11, 12, 13, 14, 15, 16, 17, 18, 19, 20, 21, 22, 23, 24, 25] [] (c_X5_makeFacts l D cA ar (st2 M 18 s_ (nI n)) s_ n (by omega) (by omega) (fun i hi => wfE_log (fun x hx => by show st2 M 18 s_ (nI n) x = M x; simp [st2, va_up, show x ≠ 18 by omega]) (hwf i (by omega)))) mwX5_makeFacts wmX5_167 rfl (q0 := 0) rfl rfl rfl (Nat.le_of_ble_eq_true rfl) ⟨by decide, by decide⟩ ⟨by show _ ≤ 0; omega, by show _ ≤ 0; omega⟩ rfl rfl (by decide) (by decide) (by decide) dX5_back_66 (fun r5 u6 hp7 => ?_)
        obtain ⟨rfl, rfl⟩ := hp7
        refine x_aload_n F 2 dX5_back_69 rfl ?_
        refine x_bipush F (nI 7) dX5_back_70 (by decide +kernel) ?_
        refine x_iconst F (nI 2) dX5_back_72 (by decide +kernel) ?_
        refine x_iload_n F 1 dX5_back_73 rfl ?_
        refine x_imul F (nI (2 * ((2 * s_) + k))) dX5_back_74 (pk_mul _ _) ?_
        refine x_iadd F (nI (7 + (2 * ((2 * s_) + k)))) dX5_back_75 (nI_add _ _) ?_
        refine x_iload_n F 3 dX5_back_76 rfl ?_
        refine x_callV F [] ([]) [0, 1, 2, 3, 4, 5, 6, 7, 8, 9, 10, 11, 12, 13, 14, 15, 16, 17, 18, 19, 20, 21, 22, 23, 24, 25] [] (c_X5_copyPlan l D cA ar (mkR (st2 M 18 s_ (nI n)) s_ n) (7 + (2 * ((2 * s_) + k))) (s_) (by omega) (by omega)) mwX5_copyPlan wmX5_143 rfl (q0 := 0) rfl rfl rfl (Nat.le_of_ble_eq_true rfl) ⟨by decide, by decide⟩ ⟨by show _ ≤ 0; omega, by show _ ≤ 0; omega⟩ rfl rfl (by decide) (by decide) (by decide) dX5_back_77 (fun r8 u9 hp10 => ?_)
        obtain ⟨rfl, rfl⟩ := hp10
        refine x_aload_n F 2 dX5_back_80 rfl ?_
        refine x_bipush F (nI 8) dX5_back_81 (by decide +kernel) ?_
        refine x_iconst F (nI 2) dX5_back_83 (by decide +kernel) ?_
        refine x_iload_n F 1 dX5_back_84 rfl ?_
        refine x_imul F (nI (2 * ((2 * s_) + k))) dX5_back_85 (pk_mul _ _) ?_
        refine x_iadd F (nI (8 + (2 * ((2 * s_) + k)))) dX5_back_86 (nI_add _ _) ?_
        refine x_iconst F (nI 3) dX5_back_87 (by decide +kernel) ?_
        refine x_iload_n F 3 dX5_back_88 rfl ?_
        refine x_iadd F (nI (3 + s_)) dX5_back_89 (nI_add _ _) ?_
        refine x_callV F [] ([]) [0, 1, 2, 3, 4, 5, 6, 7, 8, 9, 10, 11, 12, 13, 14, 15, 16, 17, 18, 19, 20, 21, 22, 23, 24, 25] [] (c_X5_copyPlan l D cA ar (cpR (mkR (st2 M 18 s_ (nI n)) s_ n) (7 + (2 * ((2 * s_) + k))) (s_) 16) (8 + (2 * ((2 * s_) + k))) (3 + s_) (by omega) (by omega)) mwX5_copyPlan wmX5_143 rfl (q0 := 0) rfl rfl rfl (Nat.le_of_ble_eq_true rfl) ⟨by decide, by decide⟩ ⟨by show _ ≤ 0; omega, by show _ ≤ 0; omega⟩ rfl rfl (by decide) (by decide) (by decide) dX5_back_90 (fun r11 u12 hp13 => ?_)
        obtain ⟨rfl, rfl⟩ := hp13
        refine x_iconst F (nI 0) dX5_back_93 (by decide +kernel) ?_
        refine x_istore F [(5, .int (nI 0)), (4, .int (nI q)), (3, .int (nI ((2 * s_) + k))), (0, .ref (ar 100)), (1, .int (nI s_)), (2, .int (nI k))] dX5_back_94 (by decide) rfl ?_
        obtain ⟨N, eN⟩ : ∃ z, z = (cpR (cpR (mkR (st2 M 18 s_ (nI n)) s_ n) (7 + 2 * (2 * s_ + k)) s_ 16) (8 + 2 * (2 * s_ + k)) (3 + s_) 16) := ⟨_, rfl⟩
        rw [← eN]
        have hNo : ∀ i, (i < 6 ∨ 12 < i) → i ≠ 14 → i ≠ 18 → N i = M i := fun i h h14 h18 => by rw [eN, cpR_o _ _ _ _ _ h14, cpR_o _ _ _ _ _ h14, mkR_o _ _ _ _ h]; simp [st2, va_up, h18]
        have hN18 : N 18 s_ = nI n := by rw [eN, cpR_o _ _ _ _ _ (by decide), cpR_o _ _ _ _ _ (by decide), mkR_o _ _ _ _ (Or.inr (by decide))]; simp [st2, va_up, upd]
        refine x_ws (wR cA ar (bkL N s_ (2 * s_ + k) 0)) (by rw [bkL_0]; rfl) ?_
        refine x_lv [(0, .ref (ar 100)), (1, .int (nI s_)), (2, .int (nI k)), (3, .int (nI ((2 * s_) + k))), (4, .int (nI q)), (5, .int (nI 0))] [3, 4, 5, 2, 1, 0] rfl ?_
        have loop96 : ∀ (nn96 : Nat) (x : Nat), (x ≤ 8) → (8 - x < nn96) → Wx xp l xe (rmL 4 0 0) xs xm ([.ref (ar 100), .int (nI s_), .int (nI k)] : List Value).toArray xbl xme xco 0 0 (xQ xbl D (wR cA ar M) xs ([.ref (ar 100), .int (nI s_), .int (nI k)] : List Value).toArray 0 0 (fun (r : Option Value) (u : Nat → Nat → Int32) => r = some (.int (nI n)) ∧ u = if q ≤ n then backR M s_ (2 * s_ + k) n else catR (backR M s_ (2 * s_ + k) n) s_ n q L) (fun u : Nat → Nat → Int32 => wR cA ar u)) 6 D (va_A (wR cA ar M) xs.heap.size) 96 [(0, .ref (ar 100)), (1, .int (nI s_)), (2, .int (nI k)), (3, .int (nI ((2 * s_) + k))), (4, .int (nI q)), (5, .int (nI x))] [] (wR cA ar (bkL N s_ (2 * s_ + k) x)) := by
          intro nn96
          induction nn96 with
          | zero =>
            intro x hx hm96
            exact absurd hm96 (Nat.not_lt_zero _)
          | succ nn96 ih96 =>
            intro x hx hm96
            refine x_iload F 5 dX5_back_96 rfl ?_
            refine x_bipush F (nI 8) dX5_back_98 (by decide +kernel) ?_
            refine x_icmp_ge F 157 dX5_back_100 (by decide) (fun h100 => ?_) (fun h100 => ?_)
            · have h100n : 8 ≤ x := (nI_leI (by decide) (by omega)).mp h100
              obtain rfl : 8 = x := by omega
              refine x_aload_n F 0 dX5_back_157 rfl ?_
              refine x_iload_n F 1 dX5_back_158 rfl ?_
              refine x_iload F 4 dX5_back_159 rfl ?_
              have eP : (bkL N s_ (2 * s_ + k) 8) = backR M s_ (2 * s_ + k) n := by rw [eN]; rfl
              have hPo : ∀ i, (i < 6 ∨ 12 < i) → i ≠ 14 → i ≠ 18 → i ≠ 22 → i ≠ 23 → (bkL N s_ (2 * s_ + k) 8) i = M i := fun i h h14 h18 h22 h23 => by rw [bkL_o _ _ _ _ _ h22 h23, hNo i h h14 h18]
              refine x_callV F [] ([]) [0, 1, 2, 3, 4, 5, 6, 7, 8, 9, 10, 11, 12, 13, 14, 15, 16, 17, 18, 19, 20, 21, 22, 23, 24, 25] [] (c_X5_catchUp l D cA ar (bkL N s_ (2 * s_ + k) 8) s_ q n cnt L (by omega) (by rw [bkL_o _ _ _ _ _ (by decide) (by decide)]; exact hN18) hnc hqc hcn (fun i hi => wfE_log (fun x hx => hPo x (Or.inl hx) (by omega) (by omega) (by omega) (by omega)) (hwf i hi)) (by rw [hPo 21 (Or.inr (by decide)) (by decide) (by decide) (by decide) (by decide)]; exact hl) hL) mwX5_catchUp wmX5_152 rfl (q0 := 0) rfl rfl rfl (Nat.le_of_ble_eq_true rfl) ⟨by decide, by decide⟩ ⟨by show _ ≤ 0; omega, by show _ ≤ 0; omega⟩ rfl rfl (by decide) (by decide) (by decide) dX5_back_161 (fun r14 u15 hp16 => ?_)
              obtain ⟨rfl, eu⟩ := hp16
              rw [eP] at eu
              refine x_istore F [(5, .int (nI (q - n))), (0, .ref (ar 100)), (1, .int (nI s_)), (2, .int (nI k)), (3, .int (nI ((2 * s_) + k))), (4, .int (nI q))] dX5_back_164 (by decide) rfl ?_
              refine x_aload_n F 1 dX5_back_166 rfl ?_
              refine x_get F inUX5 0 27 rfl rfl (by decide) wfX5_77 rfl dX5_back_167 ?_
              refine x_iload_n F 4 dX5_back_170 rfl ?_
              refine x_iald F 23 (k := (2 * s_) + k) rfl (by omega) (by decide) dX5_back_171 ?_
              have h27 : u15 27 (2 * s_ + k) = nI n := by rw [eu]; split; rw [← eP, hPo 27 (Or.inr (by decide)) (by decide) (by decide) (by decide) (by decide)]; exact hm; rw [catR_o _ _ _ _ _ _ (Or.inr (by decide)) (by decide) (by decide) (by decide) (by decide) (by decide) (by decide) (by decide), ← eP, hPo 27 (Or.inr (by decide)) (by decide) (by decide) (by decide) (by decide)]; exact hm
              refine x_top (nI n) (h27) ?_
              exact x_iret F u15 (⟨rfl, eu⟩) (rfl) (by omega) (by omega) dX5_back_172
            · have h100n : ¬ 8 ≤ x := fun z => h100 ((nI_leI (by decide) (by omega)).mpr z)
              refine x_aload_n F 0 dX5_back_103 rfl ?_
              refine x_get F inUX5 0 22 rfl rfl (by decide) wfX5_62 rfl dX5_back_104 ?_
              refine x_bipush F (nI 8) dX5_back_107 (by decide +kernel) ?_
              refine x_iload_n F 1 dX5_back_109 rfl ?_
              refine x_imul F (nI (8 * s_)) dX5_back_110 (pk_mul _ _) ?_
              refine x_iload F 5 dX5_back_111 rfl ?_
              refine x_iadd F (nI ((8 * s_) + x)) dX5_back_113 (nI_add _ _) ?_
              refine x_aload_n F 0 dX5_back_114 rfl ?_
              refine x_get F inUX5 0 28 rfl rfl (by decide) wfX5_80 rfl dX5_back_115 ?_
              refine x_bipush F (nI 8) dX5_back_118 (by decide +kernel) ?_
              refine x_iload_n F 3 dX5_back_120 rfl ?_
              refine x_imul F (nI (8 * ((2 * s_) + k))) dX5_back_121 (pk_mul _ _) ?_
              refine x_iload F 5 dX5_back_122 rfl ?_
              refine x_iadd F (nI ((8 * ((2 * s_) + k)) + x)) dX5_back_124 (nI_add _ _) ?_
              refine x_iald F 24 (k := (8 * ((2 * s_) + k)) + x) rfl (by omega) (by decide) dX5_back_125 ?_
              refine x_top (N 28 (8 * (2 * s_ + k) + x)) (by rw [bkL_o _ _ _ _ _ (by decide) (by decide)]) ?_
              refine x_iast F 18 (k := (8 * s_) + x) (wR cA ar (st2 (bkL N s_ (2 * s_ + k) x) 22 ((8 * s_) + x) (N 28 (8 * (2 * s_ + k) + x)))) rfl (by omega) (by decide) rfl dX5_back_126 ?_
              refine x_aload_n F 0 dX5_back_127 rfl ?_
              refine x_get F inUX5 0 23 rfl rfl (by decide) wfX5_65 rfl dX5_back_128 ?_
              refine x_bipush F (nI 8) dX5_back_131 (by decide +kernel) ?_
              refine x_iload_n F 1 dX5_back_133 rfl ?_
              refine x_imul F (nI (8 * s_)) dX5_back_134 (pk_mul _ _) ?_
              refine x_iload F 5 dX5_back_135 rfl ?_
              refine x_iadd F (nI ((8 * s_) + x)) dX5_back_137 (nI_add _ _) ?_
              refine x_aload_n F 0 dX5_back_138 rfl ?_
              refine x_get F inUX5 0 29 rfl rfl (by decide) wfX5_83 rfl dX5_back_139 ?_
              refine x_bipush F (nI 8) dX5_back_142 (by decide +kernel) ?_
              refine x_iload_n F 3 dX5_back_144 rfl ?_
              refine x_imul F (nI (8 * ((2 * s_) + k))) dX5_back_145 (pk_mul _ _) ?_
              refine x_iload F 5 dX5_back_146 rfl ?_
              refine x_iadd F (nI ((8 * ((2 * s_) + k)) + x)) dX5_back_148 (nI_add _ _) ?_
              refine x_iald F 25 (k := (8 * ((2 * s_) + k)) + x) rfl (by omega) (by decide) dX5_back_149 ?_
              refine x_top (N 29 (8 * (2 * s_ + k) + x)) (by rw [st2_at, if_neg (by omega), bkL_o _ _ _ _ _ (by decide) (by decide)]) ?_
              refine x_iast F 19 (k := (8 * s_) + x) (wR cA ar (st2 (st2 (bkL N s_ (2 * s_ + k) x) 22 ((8 * s_) + x) (N 28 (8 * (2 * s_ + k) + x))) 23 ((8 * s_) + x) (N 29 (8 * (2 * s_ + k) + x)))) rfl (by omega) (by decide) rfl dX5_back_150 ?_
              refine x_iinc F (nI (x + 1)) 5 [(5, .int (nI (x + 1))), (0, .ref (ar 100)), (1, .int (nI s_)), (2, .int (nI k)), (3, .int (nI ((2 * s_) + k))), (4, .int (nI q))] dX5_back_151 rfl ((nI_add x 1)) (by decide) rfl ?_
              refine x_goto F 96 dX5_back_154 (by decide) ?_
              rw [bkL_s]
              refine x_lv [(0, .ref (ar 100)), (1, .int (nI s_)), (2, .int (nI k)), (3, .int (nI ((2 * s_) + k))), (4, .int (nI q)), (5, .int (nI (x + 1)))] [1, 2, 3, 4, 5, 0] rfl ?_
              exact ih96 (x + 1) (by omega) (by omega)
        exact loop96 _ 0 (Nat.zero_le _) (Nat.lt_succ_self _)
      · exact absurd h32 h0
    · exact absurd (wn_in (n := 1) (by omega) (by decide)) (bz_0.mp h14)

