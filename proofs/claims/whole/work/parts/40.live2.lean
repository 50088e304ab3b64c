/-! the class: solves -/
set_option maxHeartbeats 4000000 in
set_option maxRecDepth 100000 in
theorem c_X4_solveOf1 (l : Launch) (D : va_G) (cA : Nat → ClassId) (ax : Nat → Nat) (lo la ot : Nat) (MX : Nat → Nat → Int32) (sv : Nat → Option Nat) (ns s_ a : Nat) (hns : MX 4 0 = nI ns) (hn3 : ns ≤ 3) (hs : s_ < ns) (ha : sv s_ = some a) : Cr l D cA yX4_solveOf cX4_solveOf 2 (some (.object "LiveChanges$Solve")) 1 ([.ref (ax 100), .int (nI s_)] : List Value) (wX cA ax lo la ot MX sv) (fun r : Option Value => r = some (.ref a)) := by
  refine x_met (by decide +kernel) rfl (Nat.le_of_ble_eq_true rfl) ?_
  intro xp xe xs xm xbl xme xco F hnm
  refine x_lv [(0, .ref (ax 100)), (1, .int (nI s_))] [0, 1] rfl ?_
  refine x_iload_n F 1 dX4_solveOf_0 rfl ?_
  refine x_iconst F (nI 0) dX4_solveOf_1 (by decide +kernel) ?_
  refine x_aload_n F 0 dX4_solveOf_2 rfl ?_
  refine x_get F inUX4 0 4 rfl rfl (by decide) wfX4_32 rfl dX4_solveOf_3 ?_
  refine x_top (nI ns) (hns) ?_
  refine x_iconst F (nI 1) dX4_solveOf_6 (by decide +kernel) ?_
  refine x_isub F ((nI ns) - (nI 1)) dX4_solveOf_7 rfl ?_
  refine x_top (nI (ns - 1)) (pk_sub (by omega)) ?_
  refine x_callSr F [] [] (c_X4_isWithin l D cA (nI s_) (nI 0) (nI (ns - 1))) mwX4_isWithin wmX4_54 rfl rfl (Nat.le_of_ble_eq_true rfl) ⟨by decide, by decide⟩ ⟨by show _ ≤ 0; omega, by show _ ≤ 0; omega⟩ rfl (by decide) dX4_solveOf_8 (fun r1 hp2 => ?_)
  subst hp2
  refine x_if_eq F 23 dX4_solveOf_11 (by decide) (fun h11 => ?_) (fun h11 => ?_)
  · exact absurd (wn_in (n := ns - 1) (by omega) (by omega)) (bz_0.mp h11)
  · refine x_aload_n F 0 dX4_solveOf_14 rfl ?_
    refine x_get F inUX4 0 3 rfl rfl (by decide) wfX4_28 rfl dX4_solveOf_15 ?_
    refine x_iload_n F 1 dX4_solveOf_18 rfl ?_
    refine x_aald4 F 1 (k := s_) rfl (by omega) (by decide) dX4_solveOf_19 ?_
    rw [ha]
    refine x_goto F 24 dX4_solveOf_20 (by decide) ?_
    exact x_aret F (Or.inl ⟨_, rfl⟩) (Or.inr ⟨_, rfl⟩) () (rfl) (rfl) (by omega) (by omega) dX4_solveOf_24

set_option maxHeartbeats 4000000 in
set_option maxRecDepth 100000 in
theorem c_X4_solveOf0 (l : Launch) (D : va_G) (cA : Nat → ClassId) (ax : Nat → Nat) (lo la ot : Nat) (MX : Nat → Nat → Int32) (sv : Nat → Option Nat) (p0 : Int32) (hb : ¬ (nI 0 ≤ p0 ∧ p0 ≤ MX 4 0 - nI 1)) : Cr l D cA yX4_solveOf cX4_solveOf 2 (some (.object "LiveChanges$Solve")) 1 ([.ref (ax 100), .int p0] : List Value) (wX cA ax lo la ot MX sv) (fun r : Option Value => r = some .null) := by
  refine x_met (by decide +kernel) rfl (Nat.le_of_ble_eq_true rfl) ?_
  intro xp xe xs xm xbl xme xco F hnm
  refine x_lv [(0, .ref (ax 100)), (1, .int p0)] [0, 1] rfl ?_
  refine x_iload_n F 1 dX4_solveOf_0 rfl ?_
  refine x_iconst F (nI 0) dX4_solveOf_1 (by decide +kernel) ?_
  refine x_aload_n F 0 dX4_solveOf_2 rfl ?_
  refine x_get F inUX4 0 4 rfl rfl (by decide) wfX4_32 rfl dX4_solveOf_3 ?_
  refine x_iconst F (nI 1) dX4_solveOf_6 (by decide +kernel) ?_
  refine x_isub F ((MX 4 0) - (nI 1)) dX4_solveOf_7 rfl ?_
  refine x_callSr F [] [] (c_X4_isWithin l D cA p0 (nI 0) ((MX 4 0) - (nI 1))) mwX4_isWithin wmX4_54 rfl rfl (Nat.le_of_ble_eq_true rfl) ⟨by decide, by decide⟩ ⟨by show _ ≤ 0; omega, by show _ ≤ 0; omega⟩ rfl (by decide) dX4_solveOf_8 (fun r1 hp2 => ?_)
  subst hp2
  refine x_if_eq F 23 dX4_solveOf_11 (by decide) (fun h11 => ?_) (fun h11 => ?_)
  · refine x_null F dX4_solveOf_23 ?_
    exact x_aret F (Or.inl ⟨_, rfl⟩) (Or.inl rfl) () (rfl) (rfl) (by omega) (by omega) dX4_solveOf_24
  · exact absurd (bz_n0.mp h11) hb

set_option maxHeartbeats 4000000 in
set_option maxRecDepth 100000 in
theorem c_X4_take_b0 (l : Launch) (D : va_G) (cA : Nat → ClassId) (ax : Nat → Nat) (lo la ot : Nat) (MX : Nat → Nat → Int32) (sv : Nat → Option Nat) (p1 p2 : Int32) (hb : ¬ (nI 0 ≤ p1 ∧ p1 ≤ MX 4 0 - nI 1)) : Cr l D cA yX4_take cX4_take 4 (some .int) 2 ([.ref (ax 100), .int p1, .int p2] : List Value) (wX cA ax lo la ot MX sv) (fun r : Option Value => r = some (.int (-2))) := by
  refine x_met (by decide +kernel) rfl (Nat.le_of_ble_eq_true rfl) ?_
  intro xp xe xs xm xbl xme xco F hnm
  refine x_lv [(0, .ref (ax 100)), (1, .int p1), (2, .int p2)] [0, 1, 2] rfl ?_
  refine x_aload_n F 0 dX4_take_0 rfl ?_
  refine x_iload_n F 1 dX4_take_1 rfl ?_
  refine x_callVr F [] [0, 1] (c_X4_solveOf0 l D cA ax lo la ot MX sv p1 hb) mwX4_solveOf wmX4_68 rfl (q0 := 0) rfl rfl rfl (Nat.le_of_ble_eq_true rfl) ⟨by decide, by decide⟩ ⟨by show _ ≤ 0; omega, by show _ ≤ 0; omega⟩ rfl (by decide) dX4_take_2 (fun r1 hp2 => ?_)
  subst hp2
  refine x_astore_nN F [(3, .null), (0, .ref (ax 100)), (1, .int p1), (2, .int p2)] dX4_take_5 (by decide) rfl ?_
  refine x_aload_nN F 0 dX4_take_6 rfl ?_
  refine x_ifnull_n F 25 dX4_take_7 (by decide) ?_
  refine x_bipush F (-2) dX4_take_25 (by decide +kernel) ?_
  exact x_iret F () (rfl) (rfl) (by omega) (by omega) dX4_take_27

set_option maxHeartbeats 4000000 in
set_option maxRecDepth 100000 in
theorem c_X4_step_b0 (l : Launch) (D : va_G) (cA : Nat → ClassId) (ax : Nat → Nat) (lo la ot : Nat) (MX : Nat → Nat → Int32) (sv : Nat → Option Nat) (p1 p2 : Int32) (hb : ¬ (nI 0 ≤ p1 ∧ p1 ≤ MX 4 0 - nI 1)) : Cr l D cA yX4_step cX4_step 4 (some .int) 2 ([.ref (ax 100), .int p1, .int p2] : List Value) (wX cA ax lo la ot MX sv) (fun r : Option Value => r = some (.int (-2))) := by
  refine x_met (by decide +kernel) rfl (Nat.le_of_ble_eq_true rfl) ?_
  intro xp xe xs xm xbl xme xco F hnm
  refine x_lv [(0, .ref (ax 100)), (1, .int p1), (2, .int p2)] [0, 1, 2] rfl ?_
  refine x_aload_n F 0 dX4_step_0 rfl ?_
  refine x_iload_n F 1 dX4_step_1 rfl ?_
  refine x_callVr F [] [0, 1] (c_X4_solveOf0 l D cA ax lo la ot MX sv p1 hb) mwX4_solveOf wmX4_68 rfl (q0 := 0) rfl rfl rfl (Nat.le_of_ble_eq_true rfl) ⟨by decide, by decide⟩ ⟨by show _ ≤ 0; omega, by show _ ≤ 0; omega⟩ rfl (by decide) dX4_step_2 (fun r1 hp2 => ?_)
  subst hp2
  refine x_astore_nN F [(3, .null), (0, .ref (ax 100)), (1, .int p1), (2, .int p2)] dX4_step_5 (by decide) rfl ?_
  refine x_aload_nN F 0 dX4_step_6 rfl ?_
  refine x_ifnull_n F 21 dX4_step_7 (by decide) ?_
  refine x_bipush F (-2) dX4_step_21 (by decide +kernel) ?_
  exact x_iret F () (rfl) (rfl) (by omega) (by omega) dX4_step_23

set_option maxHeartbeats 4000000 in
set_option maxRecDepth 100000 in
theorem c_X4_mark_b0 (l : Launch) (D : va_G) (cA : Nat → ClassId) (ax : Nat → Nat) (lo la ot : Nat) (MX : Nat → Nat → Int32) (sv : Nat → Option Nat) (p1 p2 : Int32) (hb : ¬ (nI 0 ≤ p1 ∧ p1 ≤ MX 4 0 - nI 1)) : Cr l D cA yX4_mark cX4_mark 4 (some .int) 2 ([.ref (ax 100), .int p1, .int p2] : List Value) (wX cA ax lo la ot MX sv) (fun r : Option Value => r = some (.int (-2))) := by
  refine x_met (by decide +kernel) rfl (Nat.le_of_ble_eq_true rfl) ?_
  intro xp xe xs xm xbl xme xco F hnm
  refine x_lv [(0, .ref (ax 100)), (1, .int p1), (2, .int p2)] [0, 1, 2] rfl ?_
  refine x_aload_n F 0 dX4_mark_0 rfl ?_
  refine x_iload_n F 1 dX4_mark_1 rfl ?_
  refine x_callVr F [] [0, 1] (c_X4_solveOf0 l D cA ax lo la ot MX sv p1 hb) mwX4_solveOf wmX4_68 rfl (q0 := 0) rfl rfl rfl (Nat.le_of_ble_eq_true rfl) ⟨by decide, by decide⟩ ⟨by show _ ≤ 0; omega, by show _ ≤ 0; omega⟩ rfl (by decide) dX4_mark_2 (fun r1 hp2 => ?_)
  subst hp2
  refine x_astore_nN F [(3, .null), (0, .ref (ax 100)), (1, .int p1), (2, .int p2)] dX4_mark_5 (by decide) rfl ?_
  refine x_aload_nN F 0 dX4_mark_6 rfl ?_
  refine x_ifnull_n F 17 dX4_mark_7 (by decide) ?_
  refine x_bipush F (-2) dX4_mark_17 (by decide +kernel) ?_
  exact x_iret F () (rfl) (rfl) (by omega) (by omega) dX4_mark_19

set_option maxHeartbeats 4000000 in
set_option maxRecDepth 100000 in
theorem c_X4_back_b0 (l : Launch) (D : va_G) (cA : Nat → ClassId) (ax : Nat → Nat) (lo la ot : Nat) (MX : Nat → Nat → Int32) (sv : Nat → Option Nat) (p1 p2 : Int32) (hb : ¬ (nI 0 ≤ p1 ∧ p1 ≤ MX 4 0 - nI 1)) : Cr l D cA yX4_back cX4_back 5 (some .int) 2 ([.ref (ax 100), .int p1, .int p2] : List Value) (wX cA ax lo la ot MX sv) (fun r : Option Value => r = some (.int (-2))) := by
  refine x_met (by decide +kernel) rfl (Nat.le_of_ble_eq_true rfl) ?_
  intro xp xe xs xm xbl xme xco F hnm
  refine x_lv [(0, .ref (ax 100)), (1, .int p1), (2, .int p2)] [0, 1, 2] rfl ?_
  refine x_aload_n F 0 dX4_back_0 rfl ?_
  refine x_iload_n F 1 dX4_back_1 rfl ?_
  refine x_callVr F [] [0, 1] (c_X4_solveOf0 l D cA ax lo la ot MX sv p1 hb) mwX4_solveOf wmX4_68 rfl (q0 := 0) rfl rfl rfl (Nat.le_of_ble_eq_true rfl) ⟨by decide, by decide⟩ ⟨by show _ ≤ 0; omega, by show _ ≤ 0; omega⟩ rfl (by decide) dX4_back_2 (fun r1 hp2 => ?_)
  subst hp2
  refine x_astore_nN F [(3, .null), (0, .ref (ax 100)), (1, .int p1), (2, .int p2)] dX4_back_5 (by decide) rfl ?_
  refine x_aload_nN F 0 dX4_back_6 rfl ?_
  refine x_ifnull_n F 17 dX4_back_7 (by decide) ?_
  refine x_bipush F (-2) dX4_back_17 (by decide +kernel) ?_
  exact x_iret F () (rfl) (rfl) (by omega) (by omega) dX4_back_19

set_option maxHeartbeats 4000000 in
set_option maxRecDepth 100000 in
theorem c_X4_room_b0 (l : Launch) (D : va_G) (cA : Nat → ClassId) (ax : Nat → Nat) (lo la ot : Nat) (MX : Nat → Nat → Int32) (sv : Nat → Option Nat) (p1 p2 p3 : Int32) (hb : ¬ (nI 0 ≤ p1 ∧ p1 ≤ MX 4 0 - nI 1)) : Cr l D cA yX4_room cX4_room 5 (some .int) 2 ([.ref (ax 100), .int p1, .int p2, .int p3] : List Value) (wX cA ax lo la ot MX sv) (fun r : Option Value => r = some (.int (-2))) := by
  refine x_met (by decide +kernel) rfl (Nat.le_of_ble_eq_true rfl) ?_
  intro xp xe xs xm xbl xme xco F hnm
  refine x_lv [(0, .ref (ax 100)), (1, .int p1), (2, .int p2), (3, .int p3)] [0, 1, 2, 3] rfl ?_
  refine x_aload_n F 0 dX4_room_0 rfl ?_
  refine x_iload_n F 1 dX4_room_1 rfl ?_
  refine x_callVr F [] [0, 1] (c_X4_solveOf0 l D cA ax lo la ot MX sv p1 hb) mwX4_solveOf wmX4_68 rfl (q0 := 0) rfl rfl rfl (Nat.le_of_ble_eq_true rfl) ⟨by decide, by decide⟩ ⟨by show _ ≤ 0; omega, by show _ ≤ 0; omega⟩ rfl (by decide) dX4_room_2 (fun r1 hp2 => ?_)
  subst hp2
  refine x_astoreN F [(4, .null), (0, .ref (ax 100)), (1, .int p1), (2, .int p2), (3, .int p3)] dX4_room_5 (by decide) rfl ?_
  refine x_aloadN F 0 dX4_room_7 rfl ?_
  refine x_ifnull_n F 22 dX4_room_9 (by decide) ?_
  refine x_bipush F (-2) dX4_room_22 (by decide +kernel) ?_
  exact x_iret F () (rfl) (rfl) (by omega) (by omega) dX4_room_24

set_option maxHeartbeats 4000000 in
set_option maxRecDepth 100000 in
theorem c_X4_score_b0 (l : Launch) (D : va_G) (cA : Nat → ClassId) (ax : Nat → Nat) (lo la ot : Nat) (MX : Nat → Nat → Int32) (sv : Nat → Option Nat) (p1 p2 p3 : Int32) (hb : ¬ (nI 0 ≤ p1 ∧ p1 ≤ MX 4 0 - nI 1)) : Cr l D cA yX4_score cX4_score 5 (some .int) 2 ([.ref (ax 100), .int p1, .int p2, .int p3] : List Value) (wX cA ax lo la ot MX sv) (fun r : Option Value => r = some (.int (-2))) := by
  refine x_met (by decide +kernel) rfl (Nat.le_of_ble_eq_true rfl) ?_
  intro xp xe xs xm xbl xme xco F hnm
  refine x_lv [(0, .ref (ax 100)), (1, .int p1), (2, .int p2), (3, .int p3)] [0, 1, 2, 3] rfl ?_
  refine x_aload_n F 0 dX4_score_0 rfl ?_
  refine x_iload_n F 1 dX4_score_1 rfl ?_
  refine x_callVr F [] [0, 1] (c_X4_solveOf0 l D cA ax lo la ot MX sv p1 hb) mwX4_solveOf wmX4_68 rfl (q0 := 0) rfl rfl rfl (Nat.le_of_ble_eq_true rfl) ⟨by decide, by decide⟩ ⟨by show _ ≤ 0; omega, by show _ ≤ 0; omega⟩ rfl (by decide) dX4_score_2 (fun r1 hp2 => ?_)
  subst hp2
  refine x_astoreN F [(4, .null), (0, .ref (ax 100)), (1, .int p1), (2, .int p2), (3, .int p3)] dX4_score_5 (by decide) rfl ?_
  refine x_aloadN F 0 dX4_score_7 rfl ?_
  refine x_ifnonnull_n F dX4_score_9 ?_
  refine x_bipush F (-2) dX4_score_12 (by decide +kernel) ?_
  exact x_iret F () (rfl) (rfl) (by omega) (by omega) dX4_score_14

set_option maxHeartbeats 4000000 in
set_option maxRecDepth 100000 in
theorem c_X4_scoreBy_b0 (l : Launch) (D : va_G) (cA : Nat → ClassId) (ax : Nat → Nat) (lo la ot : Nat) (MX : Nat → Nat → Int32) (sv : Nat → Option Nat) (p1 p2 p3 p4 : Int32) (hb : ¬ (nI 0 ≤ p1 ∧ p1 ≤ MX 4 0 - nI 1)) : Cr l D cA yX4_scoreBy cX4_scoreBy 6 (some .int) 2 ([.ref (ax 100), .int p1, .int p2, .int p3, .int p4] : List Value) (wX cA ax lo la ot MX sv) (fun r : Option Value => r = some (.int (-2))) := by
  refine x_met (by decide +kernel) rfl (Nat.le_of_ble_eq_true rfl) ?_
  intro xp xe xs xm xbl xme xco F hnm
  refine x_lv [(0, .ref (ax 100)), (1, .int p1), (2, .int p2), (3, .int p3), (4, .int p4)] [0, 1, 2, 3, 4] rfl ?_
  refine x_aload_n F 0 dX4_scoreBy_0 rfl ?_
  refine x_iload_n F 1 dX4_scoreBy_1 rfl ?_
  refine x_callVr F [] [0, 1] (c_X4_solveOf0 l D cA ax lo la ot MX sv p1 hb) mwX4_solveOf wmX4_68 rfl (q0 := 0) rfl rfl rfl (Nat.le_of_ble_eq_true rfl) ⟨by decide, by decide⟩ ⟨by show _ ≤ 0; omega, by show _ ≤ 0; omega⟩ rfl (by decide) dX4_scoreBy_2 (fun r1 hp2 => ?_)
  subst hp2
  refine x_astoreN F [(5, .null), (0, .ref (ax 100)), (1, .int p1), (2, .int p2), (3, .int p3), (4, .int p4)] dX4_scoreBy_5 (by decide) rfl ?_
  refine x_aloadN F 0 dX4_scoreBy_7 rfl ?_
  refine x_ifnull_n F 28 dX4_scoreBy_9 (by decide) ?_
  refine x_bipush F (-2) dX4_scoreBy_28 (by decide +kernel) ?_
  exact x_iret F () (rfl) (rfl) (by omega) (by omega) dX4_scoreBy_30

set_option maxHeartbeats 4000000 in
set_option maxRecDepth 100000 in
theorem c_X4_told_b0 (l : Launch) (D : va_G) (cA : Nat → ClassId) (ax : Nat → Nat) (lo la ot : Nat) (MX : Nat → Nat → Int32) (sv : Nat → Option Nat) (p1 p2 : Int32) (hb : ¬ (nI 0 ≤ p1 ∧ p1 ≤ MX 4 0 - nI 1)) : Cr l D cA yX4_told cX4_told 4 (some .int) 2 ([.ref (ax 100), .int p1, .int p2] : List Value) (wX cA ax lo la ot MX sv) (fun r : Option Value => r = some (.int (-2147483648))) := by
  refine x_met (by decide +kernel) rfl (Nat.le_of_ble_eq_true rfl) ?_
  intro xp xe xs xm xbl xme xco F hnm
  refine x_lv [(0, .ref (ax 100)), (1, .int p1), (2, .int p2)] [0, 1, 2] rfl ?_
  refine x_aload_n F 0 dX4_told_0 rfl ?_
  refine x_iload_n F 1 dX4_told_1 rfl ?_
  refine x_callVr F [] [0, 1] (c_X4_solveOf0 l D cA ax lo la ot MX sv p1 hb) mwX4_solveOf wmX4_68 rfl (q0 := 0) rfl rfl rfl (Nat.le_of_ble_eq_true rfl) ⟨by decide, by decide⟩ ⟨by show _ ≤ 0; omega, by show _ ≤ 0; omega⟩ rfl (by decide) dX4_told_2 (fun r1 hp2 => ?_)
  subst hp2
  refine x_astore_nN F [(3, .null), (0, .ref (ax 100)), (1, .int p1), (2, .int p2)] dX4_told_5 (by decide) rfl ?_
  refine x_aload_nN F 0 dX4_told_6 rfl ?_
  refine x_ifnonnull_n F dX4_told_7 ?_
  refine x_ldc F (-2147483648) wvX4_141 dX4_told_10 ?_
  exact x_iret F () (rfl) (rfl) (by omega) (by omega) dX4_told_12

set_option maxHeartbeats 4000000 in
set_option maxRecDepth 100000 in
theorem c_X4_take_b1 (l : Launch) (D : va_G) (cA : Nat → ClassId) (ax : Nat → Nat) (la ot : Nat) (MX : Nat → Nat → Int32) (sv : Nat → Option Nat) (ns s_ : Nat) (as_ : Nat → Nat) (al : Nat → Nat) (ML : Nat → Nat → Int32) (p2 : Int32) (hns : MX 4 0 = nI ns) (hn3 : ns ≤ 3) (hs : s_ < ns) (ha : sv s_ = some (as_ 100)) (hb : ¬ (nI 0 ≤ p2 ∧ p2 ≤ ML 5 0)) : Cr l D cA yX4_take cX4_take 4 (some .int) 2 ([.ref (ax 100), .int (nI s_), .int p2] : List Value) ((wX cA ax (al 100) la ot MX sv) ++ (wL cA al ML)) (fun r : Option Value => r = some (.int (-2))) := by
  refine x_met (by decide +kernel) rfl (Nat.le_of_ble_eq_true rfl) ?_
  intro xp xe xs xm xbl xme xco F hnm
  refine x_lv [(0, .ref (ax 100)), (1, .int (nI s_)), (2, .int p2)] [0, 1, 2] rfl ?_
  refine x_aload_n F 0 dX4_take_0 rfl ?_
  refine x_iload_n F 1 dX4_take_1 rfl ?_
  refine x_callVr F [] [0, 1] (c_X4_solveOf1 l D cA ax (al 100) la ot MX sv ns s_ (as_ 100) hns hn3 hs ha) mwX4_solveOf wmX4_68 rfl (q0 := 0) rfl rfl rfl (Nat.le_of_ble_eq_true rfl) ⟨by decide, by decide⟩ ⟨by show _ ≤ 0; omega, by show _ ≤ 0; omega⟩ rfl (by decide) dX4_take_2 (fun r1 hp2 => ?_)
  subst hp2
  refine x_astore_n F [(3, .ref (as_ 100)), (0, .ref (ax 100)), (1, .int (nI s_)), (2, .int p2)] dX4_take_5 (by decide) rfl ?_
  refine x_aload_n F 0 dX4_take_6 rfl ?_
  refine x_ifnull_r F dX4_take_7 ?_
  refine x_iload_n F 3 dX4_take_10 rfl ?_
  refine x_iconst F (nI 0) dX4_take_11 (by decide +kernel) ?_
  refine x_aload_n F 1 dX4_take_12 rfl ?_
  refine x_get F inUX4 0 0 rfl rfl (by decide) wfX4_10 rfl dX4_take_13 ?_
  refine x_get F inUX1 2 5 rfl rfl (by decide) wfX4_72 rfl dX4_take_16 ?_
  refine x_callSr F [] [] (c_X4_isWithin l D cA p2 (nI 0) (ML 5 0)) mwX4_isWithin wmX4_54 rfl rfl (Nat.le_of_ble_eq_true rfl) ⟨by decide, by decide⟩ ⟨by show _ ≤ 0; omega, by show _ ≤ 0; omega⟩ rfl (by decide) dX4_take_19 (fun r3 hp4 => ?_)
  subst hp4
  refine x_if_ne F 28 dX4_take_22 (by decide) (fun h22 => ?_) (fun h22 => ?_)
  · exact absurd (bz_n0.mp h22) hb
  · refine x_bipush F (-2) dX4_take_25 (by decide +kernel) ?_
    exact x_iret F () (rfl) (rfl) (by omega) (by omega) dX4_take_27

set_option maxHeartbeats 4000000 in
set_option maxRecDepth 100000 in
theorem c_X4_step_b1 (l : Launch) (D : va_G) (cA : Nat → ClassId) (ax : Nat → Nat) (lo la ot : Nat) (MX : Nat → Nat → Int32) (sv : Nat → Option Nat) (ns s_ : Nat) (as_ : Nat → Nat) (p2 : Int32) (hns : MX 4 0 = nI ns) (hn3 : ns ≤ 3) (hs : s_ < ns) (ha : sv s_ = some (as_ 100)) (hb : ¬ (nI 0 ≤ p2 ∧ p2 ≤ nI 200)) : Cr l D cA yX4_step cX4_step 4 (some .int) 2 ([.ref (ax 100), .int (nI s_), .int p2] : List Value) (wX cA ax lo la ot MX sv) (fun r : Option Value => r = some (.int (-2))) := by
  refine x_met (by decide +kernel) rfl (Nat.le_of_ble_eq_true rfl) ?_
  intro xp xe xs xm xbl xme xco F hnm
  refine x_lv [(0, .ref (ax 100)), (1, .int (nI s_)), (2, .int p2)] [0, 1, 2] rfl ?_
  refine x_aload_n F 0 dX4_step_0 rfl ?_
  refine x_iload_n F 1 dX4_step_1 rfl ?_
  refine x_callVr F [] [0, 1] (c_X4_solveOf1 l D cA ax lo la ot MX sv ns s_ (as_ 100) hns hn3 hs ha) mwX4_solveOf wmX4_68 rfl (q0 := 0) rfl rfl rfl (Nat.le_of_ble_eq_true rfl) ⟨by decide, by decide⟩ ⟨by show _ ≤ 0; omega, by show _ ≤ 0; omega⟩ rfl (by decide) dX4_step_2 (fun r1 hp2 => ?_)
  subst hp2
  refine x_astore_n F [(3, .ref (as_ 100)), (0, .ref (ax 100)), (1, .int (nI s_)), (2, .int p2)] dX4_step_5 (by decide) rfl ?_
  refine x_aload_n F 0 dX4_step_6 rfl ?_
  refine x_ifnull_r F dX4_step_7 ?_
  refine x_iload_n F 3 dX4_step_10 rfl ?_
  refine x_iconst F (nI 0) dX4_step_11 (by decide +kernel) ?_
  refine x_sipush F (nI 200) dX4_step_12 (by decide +kernel) ?_
  refine x_callSr F [] [] (c_X4_isWithin l D cA p2 (nI 0) (nI 200)) mwX4_isWithin wmX4_54 rfl rfl (Nat.le_of_ble_eq_true rfl) ⟨by decide, by decide⟩ ⟨by show _ ≤ 0; omega, by show _ ≤ 0; omega⟩ rfl (by decide) dX4_step_15 (fun r3 hp4 => ?_)
  subst hp4
  refine x_if_ne F 24 dX4_step_18 (by decide) (fun h18 => ?_) (fun h18 => ?_)
  · exact absurd (bz_n0.mp h18) hb
  · refine x_bipush F (-2) dX4_step_21 (by decide +kernel) ?_
    exact x_iret F () (rfl) (rfl) (by omega) (by omega) dX4_step_23

set_option maxHeartbeats 4000000 in
set_option maxRecDepth 100000 in
theorem c_X4_mark_b1 (l : Launch) (D : va_G) (cA : Nat → ClassId) (ax : Nat → Nat) (lo la ot : Nat) (MX : Nat → Nat → Int32) (sv : Nat → Option Nat) (ns s_ : Nat) (as_ : Nat → Nat) (p2 : Int32) (hns : MX 4 0 = nI ns) (hn3 : ns ≤ 3) (hs : s_ < ns) (ha : sv s_ = some (as_ 100)) (hb : ¬ (nI 0 ≤ p2 ∧ p2 ≤ nI 1)) : Cr l D cA yX4_mark cX4_mark 4 (some .int) 2 ([.ref (ax 100), .int (nI s_), .int p2] : List Value) (wX cA ax lo la ot MX sv) (fun r : Option Value => r = some (.int (-2))) := by
  refine x_met (by decide +kernel) rfl (Nat.le_of_ble_eq_true rfl) ?_
  intro xp xe xs xm xbl xme xco F hnm
  refine x_lv [(0, .ref (ax 100)), (1, .int (nI s_)), (2, .int p2)] [0, 1, 2] rfl ?_
  refine x_aload_n F 0 dX4_mark_0 rfl ?_
  refine x_iload_n F 1 dX4_mark_1 rfl ?_
  refine x_callVr F [] [0, 1] (c_X4_solveOf1 l D cA ax lo la ot MX sv ns s_ (as_ 100) hns hn3 hs ha) mwX4_solveOf wmX4_68 rfl (q0 := 0) rfl rfl rfl (Nat.le_of_ble_eq_true rfl) ⟨by decide, by decide⟩ ⟨by show _ ≤ 0; omega, by show _ ≤ 0; omega⟩ rfl (by decide) dX4_mark_2 (fun r1 hp2 => ?_)
  subst hp2
  refine x_astore_n F [(3, .ref (as_ 100)), (0, .ref (ax 100)), (1, .int (nI s_)), (2, .int p2)] dX4_mark_5 (by decide) rfl ?_
  refine x_aload_n F 0 dX4_mark_6 rfl ?_
  refine x_ifnull_r F dX4_mark_7 ?_
  refine x_iload_n F 3 dX4_mark_10 rfl ?_
  refine x_callSr F [] [] (c_X4_isMark l D cA p2) mwX4_isMark wmX4_83 rfl rfl (Nat.le_of_ble_eq_true rfl) ⟨by decide, by decide⟩ ⟨by show _ ≤ 0; omega, by show _ ≤ 0; omega⟩ rfl (by decide) dX4_mark_11 (fun r3 hp4 => ?_)
  subst hp4
  refine x_if_ne F 20 dX4_mark_14 (by decide) (fun h14 => ?_) (fun h14 => ?_)
  · exact absurd (bz_n0.mp h14) hb
  · refine x_bipush F (-2) dX4_mark_17 (by decide +kernel) ?_
    exact x_iret F () (rfl) (rfl) (by omega) (by omega) dX4_mark_19

set_option maxHeartbeats 4000000 in
set_option maxRecDepth 100000 in
theorem c_X4_back_b1 (l : Launch) (D : va_G) (cA : Nat → ClassId) (ax : Nat → Nat) (lo la ot : Nat) (MX : Nat → Nat → Int32) (sv : Nat → Option Nat) (ns s_ : Nat) (as_ : Nat → Nat) (p2 : Int32) (hns : MX 4 0 = nI ns) (hn3 : ns ≤ 3) (hs : s_ < ns) (ha : sv s_ = some (as_ 100)) (hb : ¬ (nI 0 ≤ p2 ∧ p2 ≤ nI 1)) : Cr l D cA yX4_back cX4_back 5 (some .int) 2 ([.ref (ax 100), .int (nI s_), .int p2] : List Value) (wX cA ax lo la ot MX sv) (fun r : Option Value => r = some (.int (-2))) := by
  refine x_met (by decide +kernel) rfl (Nat.le_of_ble_eq_true rfl) ?_
  intro xp xe xs xm xbl xme xco F hnm
  refine x_lv [(0, .ref (ax 100)), (1, .int (nI s_)), (2, .int p2)] [0, 1, 2] rfl ?_
  refine x_aload_n F 0 dX4_back_0 rfl ?_
  refine x_iload_n F 1 dX4_back_1 rfl ?_
  refine x_callVr F [] [0, 1] (c_X4_solveOf1 l D cA ax lo la ot MX sv ns s_ (as_ 100) hns hn3 hs ha) mwX4_solveOf wmX4_68 rfl (q0 := 0) rfl rfl rfl (Nat.le_of_ble_eq_true rfl) ⟨by decide, by decide⟩ ⟨by show _ ≤ 0; omega, by show _ ≤ 0; omega⟩ rfl (by decide) dX4_back_2 (fun r1 hp2 => ?_)
  subst hp2
  refine x_astore_n F [(3, .ref (as_ 100)), (0, .ref (ax 100)), (1, .int (nI s_)), (2, .int p2)] dX4_back_5 (by decide) rfl ?_
  refine x_aload_n F 0 dX4_back_6 rfl ?_
  refine x_ifnull_r F dX4_back_7 ?_
  refine x_iload_n F 3 dX4_back_10 rfl ?_
  refine x_callSr F [] [] (c_X4_isMark l D cA p2) mwX4_isMark wmX4_83 rfl rfl (Nat.le_of_ble_eq_true rfl) ⟨by decide, by decide⟩ ⟨by show _ ≤ 0; omega, by show _ ≤ 0; omega⟩ rfl (by decide) dX4_back_11 (fun r3 hp4 => ?_)
  subst hp4
  refine x_if_ne F 20 dX4_back_14 (by decide) (fun h14 => ?_) (fun h14 => ?_)
  · exact absurd (bz_n0.mp h14) hb
  · refine x_bipush F (-2) dX4_back_17 (by decide +kernel) ?_
    exact x_iret F () (rfl) (rfl) (by omega) (by omega) dX4_back_19

set_option maxHeartbeats 4000000 in
set_option maxRecDepth 100000 in
theorem c_X4_room_b1 (l : Launch) (D : va_G) (cA : Nat → ClassId) (ax : Nat → Nat) (lo la ot : Nat) (MX : Nat → Nat → Int32) (sv : Nat → Option Nat) (ns s_ : Nat) (as_ : Nat → Nat) (p2 p3 : Int32) (hns : MX 4 0 = nI ns) (hn3 : ns ≤ 3) (hs : s_ < ns) (ha : sv s_ = some (as_ 100)) (hb : ¬ (nI 0 ≤ p3 ∧ p3 ≤ nI 15)) : Cr l D cA yX4_room cX4_room 5 (some .int) 2 ([.ref (ax 100), .int (nI s_), .int p2, .int p3] : List Value) (wX cA ax lo la ot MX sv) (fun r : Option Value => r = some (.int (-2))) := by
  refine x_met (by decide +kernel) rfl (Nat.le_of_ble_eq_true rfl) ?_
  intro xp xe xs xm xbl xme xco F hnm
  refine x_lv [(0, .ref (ax 100)), (1, .int (nI s_)), (2, .int p2), (3, .int p3)] [0, 1, 2, 3] rfl ?_
  refine x_aload_n F 0 dX4_room_0 rfl ?_
  refine x_iload_n F 1 dX4_room_1 rfl ?_
  refine x_callVr F [] [0, 1] (c_X4_solveOf1 l D cA ax lo la ot MX sv ns s_ (as_ 100) hns hn3 hs ha) mwX4_solveOf wmX4_68 rfl (q0 := 0) rfl rfl rfl (Nat.le_of_ble_eq_true rfl) ⟨by decide, by decide⟩ ⟨by show _ ≤ 0; omega, by show _ ≤ 0; omega⟩ rfl (by decide) dX4_room_2 (fun r1 hp2 => ?_)
  subst hp2
  refine x_astore F [(4, .ref (as_ 100)), (0, .ref (ax 100)), (1, .int (nI s_)), (2, .int p2), (3, .int p3)] dX4_room_5 (by decide) rfl ?_
  refine x_aload F 0 dX4_room_7 rfl ?_
  refine x_ifnull_r F dX4_room_9 ?_
  refine x_iload_n F 4 dX4_room_12 rfl ?_
  refine x_iconst F (nI 0) dX4_room_13 (by decide +kernel) ?_
  refine x_bipush F (nI 15) dX4_room_14 (by decide +kernel) ?_
  refine x_callSr F [] [] (c_X4_isWithin l D cA p3 (nI 0) (nI 15)) mwX4_isWithin wmX4_54 rfl rfl (Nat.le_of_ble_eq_true rfl) ⟨by decide, by decide⟩ ⟨by show _ ≤ 0; omega, by show _ ≤ 0; omega⟩ rfl (by decide) dX4_room_16 (fun r3 hp4 => ?_)
  subst hp4
  refine x_if_ne F 25 dX4_room_19 (by decide) (fun h19 => ?_) (fun h19 => ?_)
  · exact absurd (bz_n0.mp h19) hb
  · refine x_bipush F (-2) dX4_room_22 (by decide +kernel) ?_
    exact x_iret F () (rfl) (rfl) (by omega) (by omega) dX4_room_24

set_option maxHeartbeats 4000000 in
set_option maxRecDepth 100000 in
theorem c_X4_scoreBy_b1 (l : Launch) (D : va_G) (cA : Nat → ClassId) (ax : Nat → Nat) (la ot : Nat) (MX : Nat → Nat → Int32) (sv : Nat → Option Nat) (ns s_ : Nat) (as_ : Nat → Nat) (al : Nat → Nat) (ML : Nat → Nat → Int32) (p2 p3 p4 : Int32) (hns : MX 4 0 = nI ns) (hn3 : ns ≤ 3) (hs : s_ < ns) (ha : sv s_ = some (as_ 100)) (hb : ¬ (nI 0 ≤ p4 ∧ p4 ≤ ML 5 0)) : Cr l D cA yX4_scoreBy cX4_scoreBy 6 (some .int) 2 ([.ref (ax 100), .int (nI s_), .int p2, .int p3, .int p4] : List Value) ((wX cA ax (al 100) la ot MX sv) ++ (wL cA al ML)) (fun r : Option Value => r = some (.int (-2))) := by
  refine x_met (by decide +kernel) rfl (Nat.le_of_ble_eq_true rfl) ?_
  intro xp xe xs xm xbl xme xco F hnm
  refine x_lv [(0, .ref (ax 100)), (1, .int (nI s_)), (2, .int p2), (3, .int p3), (4, .int p4)] [0, 1, 2, 3, 4] rfl ?_
  refine x_aload_n F 0 dX4_scoreBy_0 rfl ?_
  refine x_iload_n F 1 dX4_scoreBy_1 rfl ?_
  refine x_callVr F [] [0, 1] (c_X4_solveOf1 l D cA ax (al 100) la ot MX sv ns s_ (as_ 100) hns hn3 hs ha) mwX4_solveOf wmX4_68 rfl (q0 := 0) rfl rfl rfl (Nat.le_of_ble_eq_true rfl) ⟨by decide, by decide⟩ ⟨by show _ ≤ 0; omega, by show _ ≤ 0; omega⟩ rfl (by decide) dX4_scoreBy_2 (fun r1 hp2 => ?_)
  subst hp2
  refine x_astore F [(5, .ref (as_ 100)), (0, .ref (ax 100)), (1, .int (nI s_)), (2, .int p2), (3, .int p3), (4, .int p4)] dX4_scoreBy_5 (by decide) rfl ?_
  refine x_aload F 0 dX4_scoreBy_7 rfl ?_
  refine x_ifnull_r F dX4_scoreBy_9 ?_
  refine x_iload F 5 dX4_scoreBy_12 rfl ?_
  refine x_iconst F (nI 0) dX4_scoreBy_14 (by decide +kernel) ?_
  refine x_aload_n F 1 dX4_scoreBy_15 rfl ?_
  refine x_get F inUX4 0 0 rfl rfl (by decide) wfX4_10 rfl dX4_scoreBy_16 ?_
  refine x_get F inUX1 2 5 rfl rfl (by decide) wfX4_72 rfl dX4_scoreBy_19 ?_
  refine x_callSr F [] [] (c_X4_isWithin l D cA p4 (nI 0) (ML 5 0)) mwX4_isWithin wmX4_54 rfl rfl (Nat.le_of_ble_eq_true rfl) ⟨by decide, by decide⟩ ⟨by show _ ≤ 0; omega, by show _ ≤ 0; omega⟩ rfl (by decide) dX4_scoreBy_22 (fun r3 hp4 => ?_)
  subst hp4
  refine x_if_ne F 31 dX4_scoreBy_25 (by decide) (fun h25 => ?_) (fun h25 => ?_)
  · exact absurd (bz_n0.mp h25) hb
  · refine x_bipush F (-2) dX4_scoreBy_28 (by decide +kernel) ?_
    exact x_iret F () (rfl) (rfl) (by omega) (by omega) dX4_scoreBy_30

set_option maxHeartbeats 4000000 in
set_option maxRecDepth 100000 in
theorem c_X4_take (l : Launch) (D : va_G) (cA : Nat → ClassId) (ax : Nat → Nat) (la ot : Nat) (MX : Nat → Nat → Int32) (sv : Nat → Option Nat) (al : Nat → Nat) (ML : Nat → Nat → Int32) (as_ : Nat → Nat) (L : Nat) (MS : Nat → Nat → Int32) (JS : Nat → Nat → Int64) (mk : Nat → Option Nat) (ad : Nat → Nat) (M : Nat → Nat → Int32) (ns s_ n k cnt : Nat) (hns : MX 4 0 = nI ns) (hn3 : ns ≤ 3) (hs : s_ < ns) (ha : sv s_ = some (as_ 100)) (hc : ML 5 0 = nI cnt) (hcn : cnt ≤ 120) (hk : M 0 0 = nI k) (hkc : k ≤ cnt) (hwf : ∀ i, i < cnt → wfE ML i) (hnc : n ≤ cnt) (hL : L < 2 ^ 31) : Cg l D cA yX4_take cX4_take 4 (some .int) 5 0 0 ([.ref (ax 100), .int (nI s_), .int (nI n)] : List Value) ((wX cA ax (al 100) la ot MX sv) ++ (wS cA as_ (ad 100) L MS JS mk) ++ (wF cA ad M) ++ (wL cA al ML)) (fun (r : Option Value) (u : SJM) => r = some (.int (nI (n - k))) ∧ u = if n ≤ k then (MS, JS, M) else catchS ML k n L (MS, JS, M)) (fun u : SJM => (wX cA ax (al 100) la ot MX sv) ++ (wS cA as_ (ad 100) L (u.1) (u.2.1) mk) ++ (wF cA ad (u.2.2)) ++ (wL cA al ML)) := by
  refine x_met (by decide +kernel) rfl (Nat.le_of_ble_eq_true rfl) ?_
  intro xp xe xs xm xbl xme xco F hnm
  refine x_lv [(0, .ref (ax 100)), (1, .int (nI s_)), (2, .int (nI n))] [0, 1, 2] rfl ?_
  refine x_aload_n F 0 dX4_take_0 rfl ?_
  refine x_iload_n F 1 dX4_take_1 rfl ?_
  refine x_callVr F [] [0, 1] (c_X4_solveOf1 l D cA ax (al 100) la ot MX sv ns s_ (as_ 100) hns hn3 hs ha) mwX4_solveOf wmX4_68 rfl (q0 := 0) rfl rfl rfl (Nat.le_of_ble_eq_true rfl) ⟨by decide, by decide⟩ ⟨by show _ ≤ 0; omega, by show _ ≤ 0; omega⟩ rfl (by decide) dX4_take_2 (fun r1 hp2 => ?_)
  subst hp2
  refine x_astore_n F [(3, .ref (as_ 100)), (0, .ref (ax 100)), (1, .int (nI s_)), (2, .int (nI n))] dX4_take_5 (by decide) rfl ?_
  refine x_aload_n F 0 dX4_take_6 rfl ?_
  refine x_ifnull_r F dX4_take_7 ?_
  refine x_iload_n F 3 dX4_take_10 rfl ?_
  refine x_iconst F (nI 0) dX4_take_11 (by decide +kernel) ?_
  refine x_aload_n F 1 dX4_take_12 rfl ?_
  refine x_get F inUX4 0 0 rfl rfl (by decide) wfX4_10 rfl dX4_take_13 ?_
  refine x_get F inUX1 18 5 rfl rfl (by decide) wfX4_72 rfl dX4_take_16 ?_
  refine x_top (nI cnt) (hc) ?_
  refine x_callSr F [] [] (c_X4_isWithin l D cA (nI n) (nI 0) (nI cnt)) mwX4_isWithin wmX4_54 rfl rfl (Nat.le_of_ble_eq_true rfl) ⟨by decide, by decide⟩ ⟨by show _ ≤ 0; omega, by show _ ≤ 0; omega⟩ rfl (by decide) dX4_take_19 (fun r3 hp4 => ?_)
  subst hp4
  refine x_if_ne F 28 dX4_take_22 (by decide) (fun h22 => ?_) (fun h22 => ?_)
  · refine x_aload_n F 0 dX4_take_28 rfl ?_
    refine x_aload_n F 1 dX4_take_29 rfl ?_
    refine x_get F inUX4 0 0 rfl rfl (by decide) wfX4_10 rfl dX4_take_30 ?_
    refine x_iload_n F 3 dX4_take_33 rfl ?_
    refine x_callV F [] (wX cA ax (al 100) la ot MX sv) [2, 3, 4, 5, 6, 7, 8, 9, 10, 11, 12, 13, 14, 15, 16, 17, 18, 19, 20, 21, 22, 23] [0, 1] (c_X3_catchUp l D cA as_ L MS JS mk ad M al ML n k cnt hc hcn (by omega) hk hkc hwf hL) mwX3_catchUp wmX4_75 rfl (q0 := 0) rfl rfl rfl (Nat.le_of_ble_eq_true rfl) ⟨by decide, by decide⟩ ⟨by show _ ≤ 0; omega, by show _ ≤ 0; omega⟩ rfl rfl (by decide) (by decide) (by decide) dX4_take_34 (fun r5 u6 hp7 => ?_)
    obtain ⟨rfl, eu⟩ := hp7
    exact x_iret F u6 (⟨rfl, eu⟩) (rfl) (by omega) (by omega) dX4_take_37
  · exact absurd (wn_in (n := cnt) hnc (by omega)) (bz_0.mp h22)

/-- catching up to all changes -/
def cuS (G : Nat → Nat → Int32) (k cnt L : Nat) (σ : SJM) : SJM := if cnt ≤ k then σ else catchS G k cnt L σ
def mvS (σ : SJM) : SJM := (va_up σ.1 5 (mvr σ.2.2 (σ.1 5) 16), σ.2.1, σ.2.2)
theorem itS_o (G : Nat → Nat → Int32) (a c : Nat) (M : Nat → Nat → Int32) (k : Nat) (h1 : k ≠ 1) (h2 : k ≠ 2) : itS G a c M k = M k := by
  induction c with
  | zero => rfl
  | succ c ih =>
    show flwS G (a + c) (itS G a c M) k = M k
    unfold flwS; repeat' split
    all_goals first | exact ih | (simp only [st2, va_up, h1, h2, if_false]; exact ih)
theorem catchS_o (G : Nat → Nat → Int32) (k n L : Nat) (σ : SJM) (i : Nat) (h1 : i ≠ 1) (h2 : i ≠ 2) (h11 : i ≠ 11) : (catchS G k n L σ).1 i = σ.1 i := by
  show (keepB _).1 i = _
  rw [keepB_o _ _ h2 h11]
  exact itS_o G k _ σ.1 i h1 h2
set_option maxHeartbeats 4000000 in
set_option maxRecDepth 100000 in
theorem c_X4_step (l : Launch) (D : va_G) (cA : Nat → ClassId) (ax : Nat → Nat) (la ot : Nat) (MX : Nat → Nat → Int32) (sv : Nat → Option Nat) (al : Nat → Nat) (ML : Nat → Nat → Int32) (as_ : Nat → Nat) (L : Nat) (MS : Nat → Nat → Int32) (JS : Nat → Nat → Int64) (mk : Nat → Option Nat) (ad : Nat → Nat) (M : Nat → Nat → Int32) (ns s_ n k t cnt : Nat) (hns : MX 4 0 = nI ns) (hn3 : ns ≤ 3) (hs : s_ < ns) (ha : sv s_ = some (as_ 100)) (hc : ML 5 0 = nI cnt) (hcn : cnt ≤ 120) (hk : M 0 0 = nI k) (hkc : k ≤ cnt) (hwf : ∀ i, i < cnt → wfE ML i) (hn : n ≤ 200) (ht : MS 8 0 = nI t) (ht2 : t < 2 ^ 29) (hL0 : 0 < L) (hL : L < 2 ^ 31) : Cg l D cA yX4_step cX4_step 4 (some .int) 6 0 0 ([.ref (ax 100), .int (nI s_), .int (nI n)] : List Value) ((wX cA ax (al 100) la ot MX sv) ++ (wS cA as_ (ad 100) L MS JS mk) ++ (wF cA ad M) ++ (wL cA al ML)) (fun (r : Option Value) (u : SJM) => r = some (.int ((stepsS (mvc (cuS ML k cnt L (MS, JS, M)).2.2 16) L t n (mvS (cuS ML k cnt L (MS, JS, M)))).1 10 0 - (cuS ML k cnt L (MS, JS, M)).1 10 0)) ∧ u = stepsS (mvc (cuS ML k cnt L (MS, JS, M)).2.2 16) L t n (mvS (cuS ML k cnt L (MS, JS, M)))) (fun u : SJM => (wX cA ax (al 100) la ot MX sv) ++ (wS cA as_ (ad 100) L (u.1) (u.2.1) mk) ++ (wF cA ad (u.2.2)) ++ (wL cA al ML)) := by
  refine x_met (by decide +kernel) rfl (Nat.le_of_ble_eq_true rfl) ?_
  intro xp xe xs xm xbl xme xco F hnm
  refine x_lv [(0, .ref (ax 100)), (1, .int (nI s_)), (2, .int (nI n))] [0, 1, 2] rfl ?_
  refine x_aload_n F 0 dX4_step_0 rfl ?_
  refine x_iload_n F 1 dX4_step_1 rfl ?_
  refine x_callVr F [] [0, 1] (c_X4_solveOf1 l D cA ax (al 100) la ot MX sv ns s_ (as_ 100) hns hn3 hs ha) mwX4_solveOf wmX4_68 rfl (q0 := 0) rfl rfl rfl (Nat.le_of_ble_eq_true rfl) ⟨by decide, by decide⟩ ⟨by show _ ≤ 0; omega, by show _ ≤ 0; omega⟩ rfl (by decide) dX4_step_2 (fun r1 hp2 => ?_)
  subst hp2
  refine x_astore_n F [(3, .ref (as_ 100)), (0, .ref (ax 100)), (1, .int (nI s_)), (2, .int (nI n))] dX4_step_5 (by decide) rfl ?_
  refine x_aload_n F 0 dX4_step_6 rfl ?_
  refine x_ifnull_r F dX4_step_7 ?_
  refine x_iload_n F 3 dX4_step_10 rfl ?_
  refine x_iconst F (nI 0) dX4_step_11 (by decide +kernel) ?_
  refine x_sipush F (nI 200) dX4_step_12 (by decide +kernel) ?_
  refine x_callSr F [] [] (c_X4_isWithin l D cA (nI n) (nI 0) (nI 200)) mwX4_isWithin wmX4_54 rfl rfl (Nat.le_of_ble_eq_true rfl) ⟨by decide, by decide⟩ ⟨by show _ ≤ 0; omega, by show _ ≤ 0; omega⟩ rfl (by decide) dX4_step_15 (fun r3 hp4 => ?_)
  subst hp4
  refine x_if_ne F 24 dX4_step_18 (by decide) (fun h18 => ?_) (fun h18 => ?_)
  · refine x_aload_n F 0 dX4_step_24 rfl ?_
    refine x_aload_n F 1 dX4_step_25 rfl ?_
    refine x_get F inUX4 0 0 rfl rfl (by decide) wfX4_10 rfl dX4_step_26 ?_
    refine x_aload_n F 1 dX4_step_29 rfl ?_
    refine x_get F inUX4 0 0 rfl rfl (by decide) wfX4_10 rfl dX4_step_30 ?_
    refine x_get F inUX1 18 5 rfl rfl (by decide) wfX4_72 rfl dX4_step_33 ?_
    refine x_top (nI cnt) (hc) ?_
    refine x_callV F [] (wX cA ax (al 100) la ot MX sv) [2, 3, 4, 5, 6, 7, 8, 9, 10, 11, 12, 13, 14, 15, 16, 17, 18, 19, 20, 21, 22, 23] [0, 1] (c_X3_catchUp l D cA as_ L MS JS mk ad M al ML cnt k cnt hc hcn (by omega) hk hkc hwf hL) mwX3_catchUp wmX4_75 rfl (q0 := 0) rfl rfl rfl (Nat.le_of_ble_eq_true rfl) ⟨by decide, by decide⟩ ⟨by show _ ≤ 0; omega, by show _ ≤ 0; omega⟩ rfl rfl (by decide) (by decide) (by decide) dX4_step_36 (fun r5 u6 hp7 => ?_)
    obtain ⟨rfl, eu⟩ := hp7
    refine x_pop F dX4_step_39 rfl ?_
    refine x_aload_n F 0 dX4_step_40 rfl ?_
    refine x_iload_n F 3 dX4_step_41 rfl ?_
    have h8 : u6.1 8 0 = nI t := by rw [eu]; split; exact ht; rw [catchS_o _ _ _ _ _ _ (by decide) (by decide) (by decide)]; exact ht
    refine x_callV F [] ((wX cA ax (al 100) la ot MX sv) ++ (wL cA al ML)) [2, 3, 4, 5, 6, 7, 8, 9, 10, 11, 12, 13, 14, 15, 16, 17] [0, 1, 18, 19, 20, 21, 22, 23] (c_X3_makeSteps l D cA as_ L u6.1 u6.2.1 mk ad u6.2.2 n t h8 (by omega) hL0 hL) mwX3_makeSteps wmX4_79 rfl (q0 := 0) rfl rfl rfl (Nat.le_of_ble_eq_true rfl) ⟨by decide, by decide⟩ ⟨by show _ ≤ 0; omega, by show _ ≤ 0; omega⟩ rfl rfl (by decide) (by decide) (by decide) dX4_step_42 (fun r8 u9 hp10 => ?_)
    obtain ⟨hr_, eu2⟩ := hp10
    refine x_sub ((wX cA ax (al 100) la ot MX sv) ++ (wS cA as_ (ad 100) L (u9.1) (u9.2.1) mk) ++ (wF cA ad (u9.2.2)) ++ (wL cA al ML)) [0, 1, 8, 9, 10, 11, 12, 13, 14, 15, 16, 17, 18, 19, 20, 21, 22, 23, 2, 3, 4, 5, 6, 7] rfl (by decide) ?_
    subst hr_
    exact x_iret F u9 (by have e1 : u6 = cuS ML k cnt L (MS, JS, M) := eu; rw [← e1]; exact ⟨rfl, eu2⟩) (rfl) (by omega) (by omega) dX4_step_45
  · exact absurd (wn_in (n := 200) hn (by decide)) (bz_0.mp h18)

set_option maxHeartbeats 4000000 in
set_option maxRecDepth 100000 in
theorem c_X4_room_st (l : Launch) (D : va_G) (cA : Nat → ClassId) (ax : Nat → Nat) (lo la ot : Nat) (MX : Nat → Nat → Int32) (sv : Nat → Option Nat) (as_ : Nat → Nat) (L : Nat) (MS : Nat → Nat → Int32) (JS : Nat → Nat → Int64) (mk : Nat → Option Nat) (ad : Nat → Nat) (M : Nat → Nat → Int32) (ns s_ j : Nat) (p2 : Int32) (hns : MX 4 0 = nI ns) (hn3 : ns ≤ 3) (hs : s_ < ns) (ha : sv s_ = some (as_ 100)) (hj : j < 16) (hJ : M 2 j = 0) : Cr l D cA yX4_room cX4_room 5 (some .int) 2 ([.ref (ax 100), .int (nI s_), .int p2, .int (nI j)] : List Value) ((wX cA ax lo la ot MX sv) ++ (wS cA as_ (ad 100) L MS JS mk) ++ (wF cA ad M)) (fun r : Option Value => r = some (.int (-3))) := by
  refine x_met (by decide +kernel) rfl (Nat.le_of_ble_eq_true rfl) ?_
  intro xp xe xs xm xbl xme xco F hnm
  refine x_lv [(0, .ref (ax 100)), (1, .int (nI s_)), (2, .int p2), (3, .int (nI j))] [0, 1, 2, 3] rfl ?_
  refine x_aload_n F 0 dX4_room_0 rfl ?_
  refine x_iload_n F 1 dX4_room_1 rfl ?_
  refine x_callVr F [] [0, 1] (c_X4_solveOf1 l D cA ax lo la ot MX sv ns s_ (as_ 100) hns hn3 hs ha) mwX4_solveOf wmX4_68 rfl (q0 := 0) rfl rfl rfl (Nat.le_of_ble_eq_true rfl) ⟨by decide, by decide⟩ ⟨by show _ ≤ 0; omega, by show _ ≤ 0; omega⟩ rfl (by decide) dX4_room_2 (fun r1 hp2 => ?_)
  subst hp2
  refine x_astore F [(4, .ref (as_ 100)), (0, .ref (ax 100)), (1, .int (nI s_)), (2, .int p2), (3, .int (nI j))] dX4_room_5 (by decide) rfl ?_
  refine x_aload F 0 dX4_room_7 rfl ?_
  refine x_ifnull_r F dX4_room_9 ?_
  refine x_iload_n F 4 dX4_room_12 rfl ?_
  refine x_iconst F (nI 0) dX4_room_13 (by decide +kernel) ?_
  refine x_bipush F (nI 15) dX4_room_14 (by decide +kernel) ?_
  refine x_callSr F [] [] (c_X4_isWithin l D cA (nI j) (nI 0) (nI 15)) mwX4_isWithin wmX4_54 rfl rfl (Nat.le_of_ble_eq_true rfl) ⟨by decide, by decide⟩ ⟨by show _ ≤ 0; omega, by show _ ≤ 0; omega⟩ rfl (by decide) dX4_room_16 (fun r3 hp4 => ?_)
  subst hp4
  refine x_if_ne F 25 dX4_room_19 (by decide) (fun h19 => ?_) (fun h19 => ?_)
  · refine x_aload F 0 dX4_room_25 rfl ?_
    refine x_get F inUX3 2 0 rfl rfl (by decide) wfX4_103 rfl dX4_room_27 ?_
    refine x_iload_n F 4 dX4_room_30 rfl ?_
    refine x_callVr F [] [8, 9, 10, 11, 12, 13, 14, 15, 16, 17] (c_X0_has l D cA ad M (nI j)) mwX0_has wmX4_47 rfl (q0 := 0) rfl rfl rfl (Nat.le_of_ble_eq_true rfl) ⟨by decide, by decide⟩ ⟨by show _ ≤ 0; omega, by show _ ≤ 0; omega⟩ rfl (by decide) dX4_room_31 (fun r5 hp6 => ?_)
    subst hp6
    refine x_if_ne F 40 dX4_room_34 (by decide) (fun h34 => ?_) (fun h34 => ?_)
    · exact absurd hJ (by have := (bz_n0.mp h34).2; rwa [nI_clamp (by omega)] at this)
    · refine x_bipush F (-3) dX4_room_37 (by decide +kernel) ?_
      exact x_iret F () (rfl) (rfl) (by omega) (by omega) dX4_room_39
  · exact absurd (wn_in (n := 15) (show j ≤ 15 by omega) (by decide)) (bz_0.mp h19)

set_option maxHeartbeats 4000000 in
set_option maxRecDepth 100000 in
theorem c_X4_room_0 (l : Launch) (D : va_G) (cA : Nat → ClassId) (ax : Nat → Nat) (lo la ot : Nat) (MX : Nat → Nat → Int32) (sv : Nat → Option Nat) (as_ : Nat → Nat) (L : Nat) (MS : Nat → Nat → Int32) (JS : Nat → Nat → Int64) (mk : Nat → Option Nat) (ad : Nat → Nat) (M : Nat → Nat → Int32) (ns s_ j : Nat) (p2 : Int32) (hns : MX 4 0 = nI ns) (hn3 : ns ≤ 3) (hs : s_ < ns) (ha : sv s_ = some (as_ 100)) (hj : j < 16) (hJ : ¬ M 2 j = 0) (hb : p2 = 0) : Cr l D cA yX4_room cX4_room 5 (some .int) 2 ([.ref (ax 100), .int (nI s_), .int p2, .int (nI j)] : List Value) ((wX cA ax lo la ot MX sv) ++ (wS cA as_ (ad 100) L MS JS mk) ++ (wF cA ad M)) (fun r : Option Value => r = some (.int (MS 1 j))) := by
  refine x_met (by decide +kernel) rfl (Nat.le_of_ble_eq_true rfl) ?_
  intro xp xe xs xm xbl xme xco F hnm
  refine x_lv [(0, .ref (ax 100)), (1, .int (nI s_)), (2, .int p2), (3, .int (nI j))] [0, 1, 2, 3] rfl ?_
  refine x_aload_n F 0 dX4_room_0 rfl ?_
  refine x_iload_n F 1 dX4_room_1 rfl ?_
  refine x_callVr F [] [0, 1] (c_X4_solveOf1 l D cA ax lo la ot MX sv ns s_ (as_ 100) hns hn3 hs ha) mwX4_solveOf wmX4_68 rfl (q0 := 0) rfl rfl rfl (Nat.le_of_ble_eq_true rfl) ⟨by decide, by decide⟩ ⟨by show _ ≤ 0; omega, by show _ ≤ 0; omega⟩ rfl (by decide) dX4_room_2 (fun r1 hp2 => ?_)
  subst hp2
  refine x_astore F [(4, .ref (as_ 100)), (0, .ref (ax 100)), (1, .int (nI s_)), (2, .int p2), (3, .int (nI j))] dX4_room_5 (by decide) rfl ?_
  refine x_aload F 0 dX4_room_7 rfl ?_
  refine x_ifnull_r F dX4_room_9 ?_
  refine x_iload_n F 4 dX4_room_12 rfl ?_
  refine x_iconst F (nI 0) dX4_room_13 (by decide +kernel) ?_
  refine x_bipush F (nI 15) dX4_room_14 (by decide +kernel) ?_
  refine x_callSr F [] [] (c_X4_isWithin l D cA (nI j) (nI 0) (nI 15)) mwX4_isWithin wmX4_54 rfl rfl (Nat.le_of_ble_eq_true rfl) ⟨by decide, by decide⟩ ⟨by show _ ≤ 0; omega, by show _ ≤ 0; omega⟩ rfl (by decide) dX4_room_16 (fun r3 hp4 => ?_)
  subst hp4
  refine x_if_ne F 25 dX4_room_19 (by decide) (fun h19 => ?_) (fun h19 => ?_)
  · refine x_aload F 0 dX4_room_25 rfl ?_
    refine x_get F inUX3 2 0 rfl rfl (by decide) wfX4_103 rfl dX4_room_27 ?_
    refine x_iload_n F 4 dX4_room_30 rfl ?_
    refine x_callVr F [] [8, 9, 10, 11, 12, 13, 14, 15, 16, 17] (c_X0_has l D cA ad M (nI j)) mwX0_has wmX4_47 rfl (q0 := 0) rfl rfl rfl (Nat.le_of_ble_eq_true rfl) ⟨by decide, by decide⟩ ⟨by show _ ≤ 0; omega, by show _ ≤ 0; omega⟩ rfl (by decide) dX4_room_31 (fun r5 hp6 => ?_)
    subst hp6
    refine x_if_ne F 40 dX4_room_34 (by decide) (fun h34 => ?_) (fun h34 => ?_)
    · refine x_aload F 0 dX4_room_40 rfl ?_
      refine x_iload_n F 3 dX4_room_42 rfl ?_
      refine x_callVr F [] [2, 3, 4, 5, 6, 7] (c_X3_rooms0 l D cA as_ L MS JS mk (ad 100) p2 hb) mwX3_rooms wmX4_114 rfl (q0 := 0) rfl rfl rfl (Nat.le_of_ble_eq_true rfl) ⟨by decide, by decide⟩ ⟨by show _ ≤ 0; omega, by show _ ≤ 0; omega⟩ rfl (by decide) dX4_room_43 (fun r7 hp8 => ?_)
      subst hp8
      refine x_iload_n F 4 dX4_room_46 rfl ?_
      refine x_iald F 3 (k := j) rfl (by omega) (by decide) dX4_room_47 ?_
      exact x_iret F () (rfl) (rfl) (by omega) (by omega) dX4_room_48
    · exact absurd ⟨wn_in (n := 15) (by omega) (by decide), by rw [nI_clamp (by omega)]; exact hJ⟩ (bz_0.mp h34)
  · exact absurd (wn_in (n := 15) (show j ≤ 15 by omega) (by decide)) (bz_0.mp h19)

set_option maxHeartbeats 4000000 in
set_option maxRecDepth 100000 in
theorem c_X4_room_1 (l : Launch) (D : va_G) (cA : Nat → ClassId) (ax : Nat → Nat) (lo la ot : Nat) (MX : Nat → Nat → Int32) (sv : Nat → Option Nat) (as_ : Nat → Nat) (L : Nat) (MS : Nat → Nat → Int32) (JS : Nat → Nat → Int64) (mk : Nat → Option Nat) (ad : Nat → Nat) (M : Nat → Nat → Int32) (ns s_ j : Nat) (p2 : Int32) (hns : MX 4 0 = nI ns) (hn3 : ns ≤ 3) (hs : s_ < ns) (ha : sv s_ = some (as_ 100)) (hj : j < 16) (hJ : ¬ M 2 j = 0) (hb : ¬ p2 = 0) : Cr l D cA yX4_room cX4_room 5 (some .int) 2 ([.ref (ax 100), .int (nI s_), .int p2, .int (nI j)] : List Value) ((wX cA ax lo la ot MX sv) ++ (wS cA as_ (ad 100) L MS JS mk) ++ (wF cA ad M)) (fun r : Option Value => r = some (.int (MS 2 j))) := by
  refine x_met (by decide +kernel) rfl (Nat.le_of_ble_eq_true rfl) ?_
  intro xp xe xs xm xbl xme xco F hnm
  refine x_lv [(0, .ref (ax 100)), (1, .int (nI s_)), (2, .int p2), (3, .int (nI j))] [0, 1, 2, 3] rfl ?_
  refine x_aload_n F 0 dX4_room_0 rfl ?_
  refine x_iload_n F 1 dX4_room_1 rfl ?_
  refine x_callVr F [] [0, 1] (c_X4_solveOf1 l D cA ax lo la ot MX sv ns s_ (as_ 100) hns hn3 hs ha) mwX4_solveOf wmX4_68 rfl (q0 := 0) rfl rfl rfl (Nat.le_of_ble_eq_true rfl) ⟨by decide, by decide⟩ ⟨by show _ ≤ 0; omega, by show _ ≤ 0; omega⟩ rfl (by decide) dX4_room_2 (fun r1 hp2 => ?_)
  subst hp2
  refine x_astore F [(4, .ref (as_ 100)), (0, .ref (ax 100)), (1, .int (nI s_)), (2, .int p2), (3, .int (nI j))] dX4_room_5 (by decide) rfl ?_
  refine x_aload F 0 dX4_room_7 rfl ?_
  refine x_ifnull_r F dX4_room_9 ?_
  refine x_iload_n F 4 dX4_room_12 rfl ?_
  refine x_iconst F (nI 0) dX4_room_13 (by decide +kernel) ?_
  refine x_bipush F (nI 15) dX4_room_14 (by decide +kernel) ?_
  refine x_callSr F [] [] (c_X4_isWithin l D cA (nI j) (nI 0) (nI 15)) mwX4_isWithin wmX4_54 rfl rfl (Nat.le_of_ble_eq_true rfl) ⟨by decide, by decide⟩ ⟨by show _ ≤ 0; omega, by show _ ≤ 0; omega⟩ rfl (by decide) dX4_room_16 (fun r3 hp4 => ?_)
  subst hp4
  refine x_if_ne F 25 dX4_room_19 (by decide) (fun h19 => ?_) (fun h19 => ?_)
  · refine x_aload F 0 dX4_room_25 rfl ?_
    refine x_get F inUX3 2 0 rfl rfl (by decide) wfX4_103 rfl dX4_room_27 ?_
    refine x_iload_n F 4 dX4_room_30 rfl ?_
    refine x_callVr F [] [8, 9, 10, 11, 12, 13, 14, 15, 16, 17] (c_X0_has l D cA ad M (nI j)) mwX0_has wmX4_47 rfl (q0 := 0) rfl rfl rfl (Nat.le_of_ble_eq_true rfl) ⟨by decide, by decide⟩ ⟨by show _ ≤ 0; omega, by show _ ≤ 0; omega⟩ rfl (by decide) dX4_room_31 (fun r5 hp6 => ?_)
    subst hp6
    refine x_if_ne F 40 dX4_room_34 (by decide) (fun h34 => ?_) (fun h34 => ?_)
    · refine x_aload F 0 dX4_room_40 rfl ?_
      refine x_iload_n F 3 dX4_room_42 rfl ?_
      refine x_callVr F [] [2, 3, 4, 5, 6, 7] (c_X3_rooms1 l D cA as_ L MS JS mk (ad 100) p2 hb) mwX3_rooms wmX4_114 rfl (q0 := 0) rfl rfl rfl (Nat.le_of_ble_eq_true rfl) ⟨by decide, by decide⟩ ⟨by show _ ≤ 0; omega, by show _ ≤ 0; omega⟩ rfl (by decide) dX4_room_43 (fun r7 hp8 => ?_)
      subst hp8
      refine x_iload_n F 4 dX4_room_46 rfl ?_
      refine x_iald F 4 (k := j) rfl (by omega) (by decide) dX4_room_47 ?_
      exact x_iret F () (rfl) (rfl) (by omega) (by omega) dX4_room_48
    · exact absurd ⟨wn_in (n := 15) (by omega) (by decide), by rw [nI_clamp (by omega)]; exact hJ⟩ (bz_0.mp h34)
  · exact absurd (wn_in (n := 15) (show j ≤ 15 by omega) (by decide)) (bz_0.mp h19)

set_option maxHeartbeats 4000000 in
set_option maxRecDepth 100000 in
theorem c_X4_score_0 (l : Launch) (D : va_G) (cA : Nat → ClassId) (ax : Nat → Nat) (lo la ot : Nat) (MX : Nat → Nat → Int32) (sv : Nat → Option Nat) (as_ : Nat → Nat) (L : Nat) (MS : Nat → Nat → Int32) (JS : Nat → Nat → Int64) (mk : Nat → Option Nat) (fo : Nat) (ns s_ : Nat) (p2 p3 : Int32) (hns : MX 4 0 = nI ns) (hn3 : ns ≤ 3) (hs : s_ < ns) (ha : sv s_ = some (as_ 100)) (hb : p2 = 0) : Cr l D cA yX4_score cX4_score 5 (some .int) 2 ([.ref (ax 100), .int (nI s_), .int p2, .int p3] : List Value) ((wX cA ax lo la ot MX sv) ++ (wS cA as_ fo L MS JS mk)) (fun r : Option Value => r = some (.int (if p3 = 0 then (JS 6 0).toInt32 else (JS 6 0 >>> ((nI 32).toInt64 &&& 63)).toInt32))) := by
  refine x_met (by decide +kernel) rfl (Nat.le_of_ble_eq_true rfl) ?_
  intro xp xe xs xm xbl xme xco F hnm
  refine x_lv [(0, .ref (ax 100)), (1, .int (nI s_)), (2, .int p2), (3, .int p3)] [0, 1, 2, 3] rfl ?_
  refine x_aload_n F 0 dX4_score_0 rfl ?_
  refine x_iload_n F 1 dX4_score_1 rfl ?_
  refine x_callVr F [] [0, 1] (c_X4_solveOf1 l D cA ax lo la ot MX sv ns s_ (as_ 100) hns hn3 hs ha) mwX4_solveOf wmX4_68 rfl (q0 := 0) rfl rfl rfl (Nat.le_of_ble_eq_true rfl) ⟨by decide, by decide⟩ ⟨by show _ ≤ 0; omega, by show _ ≤ 0; omega⟩ rfl (by decide) dX4_score_2 (fun r1 hp2 => ?_)
  subst hp2
  refine x_astore F [(4, .ref (as_ 100)), (0, .ref (ax 100)), (1, .int (nI s_)), (2, .int p2), (3, .int p3)] dX4_score_5 (by decide) rfl ?_
  refine x_aload F 0 dX4_score_7 rfl ?_
  refine x_ifnonnull_r F 15 dX4_score_9 (by decide) ?_
  refine x_iload_n F 3 dX4_score_15 rfl ?_
  refine x_if_eq F 27 dX4_score_16 (by decide) (fun h16 => ?_) (fun h16 => ?_)
  · refine x_aload F 0 dX4_score_27 rfl ?_
    refine x_get F inUX3 2 6 rfl rfl (by decide) wfX4_122 rfl dX4_score_29 ?_
    refine x_iload_n F 4 dX4_score_32 rfl ?_
    refine x_callSr F [] [] (c_X4_partOf l D cA (JS 6 0) p3) mwX4_partOf wmX4_125 rfl rfl (Nat.le_of_ble_eq_true rfl) ⟨by decide, by decide⟩ ⟨by show _ ≤ 0; omega, by show _ ≤ 0; omega⟩ rfl (by decide) dX4_score_33 (fun r3 hp4 => ?_)
    subst hp4
    exact x_iret F () (rfl) (rfl) (by omega) (by omega) dX4_score_36
  · exact absurd hb h16

set_option maxHeartbeats 4000000 in
set_option maxRecDepth 100000 in
theorem c_X4_score_1 (l : Launch) (D : va_G) (cA : Nat → ClassId) (ax : Nat → Nat) (lo la ot : Nat) (MX : Nat → Nat → Int32) (sv : Nat → Option Nat) (as_ : Nat → Nat) (L : Nat) (MS : Nat → Nat → Int32) (JS : Nat → Nat → Int64) (mk : Nat → Option Nat) (fo : Nat) (ns s_ : Nat) (p2 p3 : Int32) (hns : MX 4 0 = nI ns) (hn3 : ns ≤ 3) (hs : s_ < ns) (ha : sv s_ = some (as_ 100)) (hb : ¬ p2 = 0) : Cr l D cA yX4_score cX4_score 5 (some .int) 2 ([.ref (ax 100), .int (nI s_), .int p2, .int p3] : List Value) ((wX cA ax lo la ot MX sv) ++ (wS cA as_ fo L MS JS mk)) (fun r : Option Value => r = some (.int (if p3 = 0 then (JS 7 0).toInt32 else (JS 7 0 >>> ((nI 32).toInt64 &&& 63)).toInt32))) := by
  refine x_met (by decide +kernel) rfl (Nat.le_of_ble_eq_true rfl) ?_
  intro xp xe xs xm xbl xme xco F hnm
  refine x_lv [(0, .ref (ax 100)), (1, .int (nI s_)), (2, .int p2), (3, .int p3)] [0, 1, 2, 3] rfl ?_
  refine x_aload_n F 0 dX4_score_0 rfl ?_
  refine x_iload_n F 1 dX4_score_1 rfl ?_
  refine x_callVr F [] [0, 1] (c_X4_solveOf1 l D cA ax lo la ot MX sv ns s_ (as_ 100) hns hn3 hs ha) mwX4_solveOf wmX4_68 rfl (q0 := 0) rfl rfl rfl (Nat.le_of_ble_eq_true rfl) ⟨by decide, by decide⟩ ⟨by show _ ≤ 0; omega, by show _ ≤ 0; omega⟩ rfl (by decide) dX4_score_2 (fun r1 hp2 => ?_)
  subst hp2
  refine x_astore F [(4, .ref (as_ 100)), (0, .ref (ax 100)), (1, .int (nI s_)), (2, .int p2), (3, .int p3)] dX4_score_5 (by decide) rfl ?_
  refine x_aload F 0 dX4_score_7 rfl ?_
  refine x_ifnonnull_r F 15 dX4_score_9 (by decide) ?_
  refine x_iload_n F 3 dX4_score_15 rfl ?_
  refine x_if_eq F 27 dX4_score_16 (by decide) (fun h16 => ?_) (fun h16 => ?_)
  · exact absurd h16 hb
  · refine x_aload F 0 dX4_score_19 rfl ?_
    refine x_get F inUX3 2 7 rfl rfl (by decide) wfX4_118 rfl dX4_score_21 ?_
    refine x_goto F 32 dX4_score_24 (by decide) ?_
    refine x_iload_n F 4 dX4_score_32 rfl ?_
    refine x_callSr F [] [] (c_X4_partOf l D cA (JS 7 0) p3) mwX4_partOf wmX4_125 rfl rfl (Nat.le_of_ble_eq_true rfl) ⟨by decide, by decide⟩ ⟨by show _ ≤ 0; omega, by show _ ≤ 0; omega⟩ rfl (by decide) dX4_score_33 (fun r3 hp4 => ?_)
    subst hp4
    exact x_iret F () (rfl) (rfl) (by omega) (by omega) dX4_score_36

