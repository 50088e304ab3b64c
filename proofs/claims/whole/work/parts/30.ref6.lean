/-! the reference's public methods: what reads, solve, the constructor -/
set_option maxHeartbeats 4000000 in
set_option maxRecDepth 100000 in
theorem c_X5_room_st (l : Launch) (D : va_G) (cA : Nat → ClassId) (ar : Nat → Nat) (M : Nat → Nat → Int32) (ns s_ j : Nat) (p2 : Int32) (hns : M 17 0 = nI ns) (hn3 : ns ≤ 3) (hs : s_ < ns) (hj : j < 16) (hJ : M 6 (16 * s_ + j) = 0) : Cr l D cA yX5_room cX5_room 4 (some .int) 2 ([.ref (ar 100), .int (nI s_), .int p2, .int (nI j)] : List Value) (wR cA ar M) (fun r : Option Value => r = some (.int (-3))) := by
  refine x_met (by decide +kernel) rfl (Nat.le_of_ble_eq_true rfl) ?_
  intro xp xe xs xm xbl xme xco F hnm
  refine x_lv [(0, .ref (ar 100)), (1, .int (nI s_)), (2, .int p2), (3, .int (nI j))] [0, 1, 2, 3] rfl ?_
  have hS : nI 0 ≤ nI s_ ∧ nI s_ ≤ M 17 0 - nI 1 := by rw [hns, pk_sub (by omega)]; exact wn_in (by omega) (by omega)
  refine x_aload_n F 0 dX5_room_0 rfl ?_
  refine x_iload_n F 1 dX5_room_1 rfl ?_
  refine x_callVr F [] [0, 1, 2, 3, 4, 5, 6, 7, 8, 9, 10, 11, 12, 13, 14, 15, 16, 17, 18, 19, 20, 21, 22, 23, 24, 25] (c_X5_isSolve l D cA ar M (nI s_)) mwX5_isSolve wmX5_149 rfl (q0 := 0) rfl rfl rfl (Nat.le_of_ble_eq_true rfl) ⟨by decide, by decide⟩ ⟨by show _ ≤ 0; omega, by show _ ≤ 0; omega⟩ rfl (by decide) dX5_room_2 (fun r1 hp2 => ?_)
  subst hp2
  refine x_if_eq F 18 dX5_room_5 (by decide) (fun h5 => ?_) (fun h5 => ?_)
  · exact absurd hS (bz_0.mp h5)
  · refine x_iload_n F 3 dX5_room_8 rfl ?_
    refine x_iconst F (nI 0) dX5_room_9 (by decide +kernel) ?_
    refine x_bipush F (nI 15) dX5_room_10 (by decide +kernel) ?_
    refine x_callSr F [] [] (c_X5_in l D cA (nI j) (nI 0) (nI 15)) mwX5_in wmX5_101 rfl rfl (Nat.le_of_ble_eq_true rfl) ⟨by decide, by decide⟩ ⟨by show _ ≤ 0; omega, by show _ ≤ 0; omega⟩ rfl (by decide) dX5_room_12 (fun r3 hp4 => ?_)
    subst hp4
    refine x_if_ne F 21 dX5_room_15 (by decide) (fun h15 => ?_) (fun h15 => ?_)
    · refine x_aload_n F 0 dX5_room_21 rfl ?_
      refine x_get F inUX5 0 6 rfl rfl (by decide) wfX5_25 rfl dX5_room_22 ?_
      refine x_bipush F (nI 16) dX5_room_25 (by decide +kernel) ?_
      refine x_iload_n F 1 dX5_room_27 rfl ?_
      refine x_imul F (nI (16 * s_)) dX5_room_28 (pk_mul _ _) ?_
      refine x_iload_n F 3 dX5_room_29 rfl ?_
      refine x_iadd F (nI ((16 * s_) + j)) dX5_room_30 (nI_add _ _) ?_
      refine x_zald F 6 (k := (16 * s_) + j) rfl (by omega) (by decide) dX5_room_31 ?_
      refine x_if_eq F 59 dX5_room_32 (by decide) (fun h32 => ?_) (fun h32 => ?_)
      · refine x_bipush F (-3) dX5_room_59 (by decide +kernel) ?_
        exact x_iret F () (rfl) (rfl) (by omega) (by omega) dX5_room_61
      · exact absurd hJ h32
    · exact absurd (wn_in (n := 15) (by omega) (by decide)) (bz_0.mp h15)

set_option maxHeartbeats 4000000 in
set_option maxRecDepth 100000 in
theorem c_X5_room_0 (l : Launch) (D : va_G) (cA : Nat → ClassId) (ar : Nat → Nat) (M : Nat → Nat → Int32) (ns s_ j : Nat) (p2 : Int32) (hns : M 17 0 = nI ns) (hn3 : ns ≤ 3) (hs : s_ < ns) (hj : j < 16) (hJ : ¬ M 6 (16 * s_ + j) = 0) (hb : p2 = 0) : Cr l D cA yX5_room cX5_room 4 (some .int) 2 ([.ref (ar 100), .int (nI s_), .int p2, .int (nI j)] : List Value) (wR cA ar M) (fun r : Option Value => r = some (.int (M 14 (16 * s_ + j)))) := by
  refine x_met (by decide +kernel) rfl (Nat.le_of_ble_eq_true rfl) ?_
  intro xp xe xs xm xbl xme xco F hnm
  refine x_lv [(0, .ref (ar 100)), (1, .int (nI s_)), (2, .int p2), (3, .int (nI j))] [0, 1, 2, 3] rfl ?_
  have hS : nI 0 ≤ nI s_ ∧ nI s_ ≤ M 17 0 - nI 1 := by rw [hns, pk_sub (by omega)]; exact wn_in (by omega) (by omega)
  refine x_aload_n F 0 dX5_room_0 rfl ?_
  refine x_iload_n F 1 dX5_room_1 rfl ?_
  refine x_callVr F [] [0, 1, 2, 3, 4, 5, 6, 7, 8, 9, 10, 11, 12, 13, 14, 15, 16, 17, 18, 19, 20, 21, 22, 23, 24, 25] (c_X5_isSolve l D cA ar M (nI s_)) mwX5_isSolve wmX5_149 rfl (q0 := 0) rfl rfl rfl (Nat.le_of_ble_eq_true rfl) ⟨by decide, by decide⟩ ⟨by show _ ≤ 0; omega, by show _ ≤ 0; omega⟩ rfl (by decide) dX5_room_2 (fun r1 hp2 => ?_)
  subst hp2
  refine x_if_eq F 18 dX5_room_5 (by decide) (fun h5 => ?_) (fun h5 => ?_)
  · exact absurd hS (bz_0.mp h5)
  · refine x_iload_n F 3 dX5_room_8 rfl ?_
    refine x_iconst F (nI 0) dX5_room_9 (by decide +kernel) ?_
    refine x_bipush F (nI 15) dX5_room_10 (by decide +kernel) ?_
    refine x_callSr F [] [] (c_X5_in l D cA (nI j) (nI 0) (nI 15)) mwX5_in wmX5_101 rfl rfl (Nat.le_of_ble_eq_true rfl) ⟨by decide, by decide⟩ ⟨by show _ ≤ 0; omega, by show _ ≤ 0; omega⟩ rfl (by decide) dX5_room_12 (fun r3 hp4 => ?_)
    subst hp4
    refine x_if_ne F 21 dX5_room_15 (by decide) (fun h15 => ?_) (fun h15 => ?_)
    · refine x_aload_n F 0 dX5_room_21 rfl ?_
      refine x_get F inUX5 0 6 rfl rfl (by decide) wfX5_25 rfl dX5_room_22 ?_
      refine x_bipush F (nI 16) dX5_room_25 (by decide +kernel) ?_
      refine x_iload_n F 1 dX5_room_27 rfl ?_
      refine x_imul F (nI (16 * s_)) dX5_room_28 (pk_mul _ _) ?_
      refine x_iload_n F 3 dX5_room_29 rfl ?_
      refine x_iadd F (nI ((16 * s_) + j)) dX5_room_30 (nI_add _ _) ?_
      refine x_zald F 6 (k := (16 * s_) + j) rfl (by omega) (by decide) dX5_room_31 ?_
      refine x_if_eq F 59 dX5_room_32 (by decide) (fun h32 => ?_) (fun h32 => ?_)
      · exact absurd h32 hJ
      · refine x_aload_n F 0 dX5_room_35 rfl ?_
        refine x_get F inUX5 0 14 rfl rfl (by decide) wfX5_47 rfl dX5_room_36 ?_
        refine x_bipush F (nI 16) dX5_room_39 (by decide +kernel) ?_
        refine x_iload_n F 2 dX5_room_41 rfl ?_
        refine x_if_eq F 51 dX5_room_42 (by decide) (fun h42 => ?_) (fun h42 => ?_)
        · refine x_iload_n F 1 dX5_room_51 rfl ?_
          refine x_imul F (nI (16 * s_)) dX5_room_52 (pk_mul _ _) ?_
          refine x_iload_n F 3 dX5_room_53 rfl ?_
          refine x_iadd F (nI ((16 * s_) + j)) dX5_room_54 (nI_add _ _) ?_
          refine x_iald F 13 (k := (16 * s_) + j) rfl (by omega) (by decide) dX5_room_55 ?_
          refine x_goto F 61 dX5_room_56 (by decide) ?_
          exact x_iret F () (rfl) (rfl) (by omega) (by omega) dX5_room_61
        · exact absurd hb h42
    · exact absurd (wn_in (n := 15) (by omega) (by decide)) (bz_0.mp h15)

set_option maxHeartbeats 4000000 in
set_option maxRecDepth 100000 in
theorem c_X5_room_1 (l : Launch) (D : va_G) (cA : Nat → ClassId) (ar : Nat → Nat) (M : Nat → Nat → Int32) (ns s_ j : Nat) (p2 : Int32) (hns : M 17 0 = nI ns) (hn3 : ns ≤ 3) (hs : s_ < ns) (hj : j < 16) (hJ : ¬ M 6 (16 * s_ + j) = 0) (hb : ¬ p2 = 0) : Cr l D cA yX5_room cX5_room 4 (some .int) 2 ([.ref (ar 100), .int (nI s_), .int p2, .int (nI j)] : List Value) (wR cA ar M) (fun r : Option Value => r = some (.int (M 14 (16 * (3 + s_) + j)))) := by
  refine x_met (by decide +kernel) rfl (Nat.le_of_ble_eq_true rfl) ?_
  intro xp xe xs xm xbl xme xco F hnm
  refine x_lv [(0, .ref (ar 100)), (1, .int (nI s_)), (2, .int p2), (3, .int (nI j))] [0, 1, 2, 3] rfl ?_
  have hS : nI 0 ≤ nI s_ ∧ nI s_ ≤ M 17 0 - nI 1 := by rw [hns, pk_sub (by omega)]; exact wn_in (by omega) (by omega)
  refine x_aload_n F 0 dX5_room_0 rfl ?_
  refine x_iload_n F 1 dX5_room_1 rfl ?_
  refine x_callVr F [] [0, 1, 2, 3, 4, 5, 6, 7, 8, 9, 10, 11, 12, 13, 14, 15, 16, 17, 18, 19, 20, 21, 22, 23, 24, 25] (c_X5_isSolve l D cA ar M (nI s_)) mwX5_isSolve wmX5_149 rfl (q0 := 0) rfl rfl rfl (Nat.le_of_ble_eq_true rfl) ⟨by decide, by decide⟩ ⟨by show _ ≤ 0; omega, by show _ ≤ 0; omega⟩ rfl (by decide) dX5_room_2 (fun r1 hp2 => ?_)
  subst hp2
  refine x_if_eq F 18 dX5_room_5 (by decide) (fun h5 => ?_) (fun h5 => ?_)
  · exact absurd hS (bz_0.mp h5)
  · refine x_iload_n F 3 dX5_room_8 rfl ?_
    refine x_iconst F (nI 0) dX5_room_9 (by decide +kernel) ?_
    refine x_bipush F (nI 15) dX5_room_10 (by decide +kernel) ?_
    refine x_callSr F [] [] (c_X5_in l D cA (nI j) (nI 0) (nI 15)) mwX5_in wmX5_101 rfl rfl (Nat.le_of_ble_eq_true rfl) ⟨by decide, by decide⟩ ⟨by show _ ≤ 0; omega, by show _ ≤ 0; omega⟩ rfl (by decide) dX5_room_12 (fun r3 hp4 => ?_)
    subst hp4
    refine x_if_ne F 21 dX5_room_15 (by decide) (fun h15 => ?_) (fun h15 => ?_)
    · refine x_aload_n F 0 dX5_room_21 rfl ?_
      refine x_get F inUX5 0 6 rfl rfl (by decide) wfX5_25 rfl dX5_room_22 ?_
      refine x_bipush F (nI 16) dX5_room_25 (by decide +kernel) ?_
      refine x_iload_n F 1 dX5_room_27 rfl ?_
      refine x_imul F (nI (16 * s_)) dX5_room_28 (pk_mul _ _) ?_
      refine x_iload_n F 3 dX5_room_29 rfl ?_
      refine x_iadd F (nI ((16 * s_) + j)) dX5_room_30 (nI_add _ _) ?_
      refine x_zald F 6 (k := (16 * s_) + j) rfl (by omega) (by decide) dX5_room_31 ?_
      refine x_if_eq F 59 dX5_room_32 (by decide) (fun h32 => ?_) (fun h32 => ?_)
      · exact absurd h32 hJ
      · refine x_aload_n F 0 dX5_room_35 rfl ?_
        refine x_get F inUX5 0 14 rfl rfl (by decide) wfX5_47 rfl dX5_room_36 ?_
        refine x_bipush F (nI 16) dX5_room_39 (by decide +kernel) ?_
        refine x_iload_n F 2 dX5_room_41 rfl ?_
        refine x_if_eq F 51 dX5_room_42 (by decide) (fun h42 => ?_) (fun h42 => ?_)
        · exact absurd h42 hb
        · refine x_iconst F (nI 3) dX5_room_45 (by decide +kernel) ?_
          refine x_iload_n F 1 dX5_room_46 rfl ?_
          refine x_iadd F (nI (3 + s_)) dX5_room_47 (nI_add _ _) ?_
          refine x_goto F 52 dX5_room_48 (by decide) ?_
          refine x_imul F (nI (16 * (3 + s_))) dX5_room_52 (pk_mul _ _) ?_
          refine x_iload_n F 3 dX5_room_53 rfl ?_
          refine x_iadd F (nI ((16 * (3 + s_)) + j)) dX5_room_54 (nI_add _ _) ?_
          refine x_iald F 13 (k := (16 * (3 + s_)) + j) rfl (by omega) (by decide) dX5_room_55 ?_
          refine x_goto F 61 dX5_room_56 (by decide) ?_
          exact x_iret F () (rfl) (rfl) (by omega) (by omega) dX5_room_61
    · exact absurd (wn_in (n := 15) (by omega) (by decide)) (bz_0.mp h15)

set_option maxHeartbeats 4000000 in
set_option maxRecDepth 100000 in
theorem c_X5_score_0 (l : Launch) (D : va_G) (cA : Nat → ClassId) (ar : Nat → Nat) (M : Nat → Nat → Int32) (ns s_ : Nat) (p2 p3 : Int32) (hns : M 17 0 = nI ns) (hn3 : ns ≤ 3) (hs : s_ < ns) (hb : p2 = 0) : Cg l D cA yX5_score cX5_score 4 (some .int) 2 0 0 ([.ref (ar 100), .int (nI s_), .int p2, .int p3] : List Value) (wR cA ar M) (fun (r : Option Value) (u : Nat → Nat → Int32) => r = some (.int (if p3 = 0 then sfR M s_ s_ s_ 16 else hdR M s_ s_ s_ 16)) ∧ u = jdg M s_ s_ s_) (fun u : Nat → Nat → Int32 => wR cA ar u) := by
  refine x_met (by decide +kernel) rfl (Nat.le_of_ble_eq_true rfl) ?_
  intro xp xe xs xm xbl xme xco F hnm
  refine x_lv [(0, .ref (ar 100)), (1, .int (nI s_)), (2, .int p2), (3, .int p3)] [0, 1, 2, 3] rfl ?_
  have hS : nI 0 ≤ nI s_ ∧ nI s_ ≤ M 17 0 - nI 1 := by rw [hns, pk_sub (by omega)]; exact wn_in (by omega) (by omega)
  refine x_aload_n F 0 dX5_score_0 rfl ?_
  refine x_iload_n F 1 dX5_score_1 rfl ?_
  refine x_callVr F [] [0, 1, 2, 3, 4, 5, 6, 7, 8, 9, 10, 11, 12, 13, 14, 15, 16, 17, 18, 19, 20, 21, 22, 23, 24, 25] (c_X5_isSolve l D cA ar M (nI s_)) mwX5_isSolve wmX5_149 rfl (q0 := 0) rfl rfl rfl (Nat.le_of_ble_eq_true rfl) ⟨by decide, by decide⟩ ⟨by show _ ≤ 0; omega, by show _ ≤ 0; omega⟩ rfl (by decide) dX5_score_2 (fun r1 hp2 => ?_)
  subst hp2
  refine x_if_ne F 11 dX5_score_5 (by decide) (fun h5 => ?_) (fun h5 => ?_)
  · refine x_aload_n F 0 dX5_score_11 rfl ?_
    refine x_iload_n F 2 dX5_score_12 rfl ?_
    refine x_if_eq F 22 dX5_score_13 (by decide) (fun h13 => ?_) (fun h13 => ?_)
    · refine x_iload_n F 1 dX5_score_22 rfl ?_
      refine x_iload_n F 1 dX5_score_23 rfl ?_
      refine x_iload_n F 1 dX5_score_24 rfl ?_
      refine x_callV F [] ([]) [0, 1, 2, 3, 4, 5, 6, 7, 8, 9, 10, 11, 12, 13, 14, 15, 16, 17, 18, 19, 20, 21, 22, 23, 24, 25] [] (c_X5_judge l D cA ar M (s_) (s_) (s_) (by omega) (by omega) (by omega)) mwX5_judge wmX5_135 rfl (q0 := 0) rfl rfl rfl (Nat.le_of_ble_eq_true rfl) ⟨by decide, by decide⟩ ⟨by show _ ≤ 0; omega, by show _ ≤ 0; omega⟩ rfl rfl (by decide) (by decide) (by decide) dX5_score_25 (fun r3 u4 hp5 => ?_)
      obtain ⟨rfl, rfl⟩ := hp5
      refine x_iload_n F 3 dX5_score_28 rfl ?_
      refine x_if_eq F 39 dX5_score_29 (by decide) (fun h29 => ?_) (fun h29 => ?_)
      · refine x_aload_n F 0 dX5_score_39 rfl ?_
        refine x_get F inUX5 0 16 rfl rfl (by decide) wfX5_122 rfl dX5_score_40 ?_
        exact x_iret F (jdg M (s_) (s_) (s_)) (⟨by rw [if_pos h29]; rfl, rfl⟩) (rfl) (by omega) (by omega) dX5_score_43
      · refine x_aload_n F 0 dX5_score_32 rfl ?_
        refine x_get F inUX5 0 15 rfl rfl (by decide) wfX5_119 rfl dX5_score_33 ?_
        refine x_goto F 43 dX5_score_36 (by decide) ?_
        exact x_iret F (jdg M (s_) (s_) (s_)) (⟨by rw [if_neg h29]; rfl, rfl⟩) (rfl) (by omega) (by omega) dX5_score_43
    · exact absurd hb h13
  · exact absurd hS (bz_0.mp h5)

set_option maxHeartbeats 4000000 in
set_option maxRecDepth 100000 in
theorem c_X5_score_1 (l : Launch) (D : va_G) (cA : Nat → ClassId) (ar : Nat → Nat) (M : Nat → Nat → Int32) (ns s_ : Nat) (p2 p3 : Int32) (hns : M 17 0 = nI ns) (hn3 : ns ≤ 3) (hs : s_ < ns) (hb : ¬ p2 = 0) : Cg l D cA yX5_score cX5_score 4 (some .int) 2 0 0 ([.ref (ar 100), .int (nI s_), .int p2, .int p3] : List Value) (wR cA ar M) (fun (r : Option Value) (u : Nat → Nat → Int32) => r = some (.int (if p3 = 0 then sfR M (3 + s_) s_ s_ 16 else hdR M (3 + s_) s_ s_ 16)) ∧ u = jdg M (3 + s_) s_ s_) (fun u : Nat → Nat → Int32 => wR cA ar u) := by
  refine x_met (by decide +kernel) rfl (Nat.le_of_ble_eq_true rfl) ?_
  intro xp xe xs xm xbl xme xco F hnm
  refine x_lv [(0, .ref (ar 100)), (1, .int (nI s_)), (2, .int p2), (3, .int p3)] [0, 1, 2, 3] rfl ?_
  have hS : nI 0 ≤ nI s_ ∧ nI s_ ≤ M 17 0 - nI 1 := by rw [hns, pk_sub (by omega)]; exact wn_in (by omega) (by omega)
  refine x_aload_n F 0 dX5_score_0 rfl ?_
  refine x_iload_n F 1 dX5_score_1 rfl ?_
  refine x_callVr F [] [0, 1, 2, 3, 4, 5, 6, 7, 8, 9, 10, 11, 12, 13, 14, 15, 16, 17, 18, 19, 20, 21, 22, 23, 24, 25] (c_X5_isSolve l D cA ar M (nI s_)) mwX5_isSolve wmX5_149 rfl (q0 := 0) rfl rfl rfl (Nat.le_of_ble_eq_true rfl) ⟨by decide, by decide⟩ ⟨by show _ ≤ 0; omega, by show _ ≤ 0; omega⟩ rfl (by decide) dX5_score_2 (fun r1 hp2 => ?_)
  subst hp2
  refine x_if_ne F 11 dX5_score_5 (by decide) (fun h5 => ?_) (fun h5 => ?_)
  · refine x_aload_n F 0 dX5_score_11 rfl ?_
    refine x_iload_n F 2 dX5_score_12 rfl ?_
    refine x_if_eq F 22 dX5_score_13 (by decide) (fun h13 => ?_) (fun h13 => ?_)
    · exact absurd h13 hb
    · refine x_iconst F (nI 3) dX5_score_16 (by decide +kernel) ?_
      refine x_iload_n F 1 dX5_score_17 rfl ?_
      refine x_iadd F (nI (3 + s_)) dX5_score_18 (nI_add _ _) ?_
      refine x_goto F 23 dX5_score_19 (by decide) ?_
      refine x_iload_n F 1 dX5_score_23 rfl ?_
      refine x_iload_n F 1 dX5_score_24 rfl ?_
      refine x_callV F [] ([]) [0, 1, 2, 3, 4, 5, 6, 7, 8, 9, 10, 11, 12, 13, 14, 15, 16, 17, 18, 19, 20, 21, 22, 23, 24, 25] [] (c_X5_judge l D cA ar M (3 + s_) (s_) (s_) (by omega) (by omega) (by omega)) mwX5_judge wmX5_135 rfl (q0 := 0) rfl rfl rfl (Nat.le_of_ble_eq_true rfl) ⟨by decide, by decide⟩ ⟨by show _ ≤ 0; omega, by show _ ≤ 0; omega⟩ rfl rfl (by decide) (by decide) (by decide) dX5_score_25 (fun r3 u4 hp5 => ?_)
      obtain ⟨rfl, rfl⟩ := hp5
      refine x_iload_n F 3 dX5_score_28 rfl ?_
      refine x_if_eq F 39 dX5_score_29 (by decide) (fun h29 => ?_) (fun h29 => ?_)
      · refine x_aload_n F 0 dX5_score_39 rfl ?_
        refine x_get F inUX5 0 16 rfl rfl (by decide) wfX5_122 rfl dX5_score_40 ?_
        exact x_iret F (jdg M (3 + s_) (s_) (s_)) (⟨by rw [if_pos h29]; rfl, rfl⟩) (rfl) (by omega) (by omega) dX5_score_43
      · refine x_aload_n F 0 dX5_score_32 rfl ?_
        refine x_get F inUX5 0 15 rfl rfl (by decide) wfX5_119 rfl dX5_score_33 ?_
        refine x_goto F 43 dX5_score_36 (by decide) ?_
        exact x_iret F (jdg M (3 + s_) (s_) (s_)) (⟨by rw [if_neg h29]; rfl, rfl⟩) (rfl) (by omega) (by omega) dX5_score_43
  · exact absurd hS (bz_0.mp h5)

set_option maxHeartbeats 4000000 in
set_option maxRecDepth 100000 in
theorem c_X5_scoreBy_0 (l : Launch) (D : va_G) (cA : Nat → ClassId) (ar : Nat → Nat) (M : Nat → Nat → Int32) (ns s_ n cnt : Nat) (p2 p3 : Int32) (hns : M 17 0 = nI ns) (hn3 : ns ≤ 3) (hs : s_ < ns) (hc : M 0 0 = nI cnt) (hcn : cnt ≤ 120) (hwf : ∀ i, i < cnt → wfE (logR M) i) (hnc : n ≤ cnt) (hb : p2 = 0) : Cg l D cA yX5_scoreBy cX5_scoreBy 5 (some .int) 3 0 0 ([.ref (ar 100), .int (nI s_), .int p2, .int p3, .int (nI n)] : List Value) (wR cA ar M) (fun (r : Option Value) (u : Nat → Nat → Int32) => r = some (.int (if p3 = 0 then sfR (mkR M 3 n) s_ 3 s_ 16 else hdR (mkR M 3 n) s_ 3 s_ 16)) ∧ u = jdg (mkR M 3 n) s_ 3 s_) (fun u : Nat → Nat → Int32 => wR cA ar u) := by
  refine x_met (by decide +kernel) rfl (Nat.le_of_ble_eq_true rfl) ?_
  intro xp xe xs xm xbl xme xco F hnm
  refine x_lv [(0, .ref (ar 100)), (1, .int (nI s_)), (2, .int p2), (3, .int p3), (4, .int (nI n))] [0, 1, 2, 3, 4] rfl ?_
  have hS : nI 0 ≤ nI s_ ∧ nI s_ ≤ M 17 0 - nI 1 := by rw [hns, pk_sub (by omega)]; exact wn_in (by omega) (by omega)
  refine x_aload_n F 0 dX5_scoreBy_0 rfl ?_
  refine x_iload_n F 1 dX5_scoreBy_1 rfl ?_
  refine x_callVr F [] [0, 1, 2, 3, 4, 5, 6, 7, 8, 9, 10, 11, 12, 13, 14, 15, 16, 17, 18, 19, 20, 21, 22, 23, 24, 25] (c_X5_isSolve l D cA ar M (nI s_)) mwX5_isSolve wmX5_149 rfl (q0 := 0) rfl rfl rfl (Nat.le_of_ble_eq_true rfl) ⟨by decide, by decide⟩ ⟨by show _ ≤ 0; omega, by show _ ≤ 0; omega⟩ rfl (by decide) dX5_scoreBy_2 (fun r1 hp2 => ?_)
  subst hp2
  refine x_if_eq F 21 dX5_scoreBy_5 (by decide) (fun h5 => ?_) (fun h5 => ?_)
  · exact absurd hS (bz_0.mp h5)
  · refine x_iload F 4 dX5_scoreBy_8 rfl ?_
    refine x_iconst F (nI 0) dX5_scoreBy_10 (by decide +kernel) ?_
    refine x_aload_n F 0 dX5_scoreBy_11 rfl ?_
    refine x_get F inUX5 0 0 rfl rfl (by decide) wfX5_97 rfl dX5_scoreBy_12 ?_
    refine x_top (nI cnt) (hc) ?_
    refine x_callSr F [] [] (c_X5_in l D cA (nI n) (nI 0) (nI cnt)) mwX5_in wmX5_101 rfl rfl (Nat.le_of_ble_eq_true rfl) ⟨by decide, by decide⟩ ⟨by show _ ≤ 0; omega, by show _ ≤ 0; omega⟩ rfl (by decide) dX5_scoreBy_15 (fun r3 hp4 => ?_)
    subst hp4
    refine x_if_ne F 24 dX5_scoreBy_18 (by decide) (fun h18 => ?_) (fun h18 => ?_)
    · refine x_aload_n F 0 dX5_scoreBy_24 rfl ?_
      refine x_iconst F (nI 3) dX5_scoreBy_25 (by decide +kernel) ?_
      refine x_iload F 4 dX5_scoreBy_26 rfl ?_
      refine x_callV F [] ([]) [0, 1, 2, 3, 4, 5, 6, 7, 8, 9, 10, 11, 12, 13, 14, 15, 16, 17, 18, 19, 20, 21, 22, 23, 24, 25] [] (c_X5_makeFacts l D cA ar M 3 n (by decide) (by omega) (fun i hi => hwf i (by omega))) mwX5_makeFacts wmX5_167 rfl (q0 := 0) rfl rfl rfl (Nat.le_of_ble_eq_true rfl) ⟨by decide, by decide⟩ ⟨by show _ ≤ 0; omega, by show _ ≤ 0; omega⟩ rfl rfl (by decide) (by decide) (by decide) dX5_scoreBy_28 (fun r5 u6 hp7 => ?_)
      obtain ⟨rfl, rfl⟩ := hp7
      refine x_aload_n F 0 dX5_scoreBy_31 rfl ?_
      refine x_iload_n F 2 dX5_scoreBy_32 rfl ?_
      refine x_if_eq F 42 dX5_scoreBy_33 (by decide) (fun h33 => ?_) (fun h33 => ?_)
      · refine x_iload_n F 1 dX5_scoreBy_42 rfl ?_
        refine x_iconst F (nI 3) dX5_scoreBy_43 (by decide +kernel) ?_
        refine x_iload_n F 1 dX5_scoreBy_44 rfl ?_
        refine x_callV F [] ([]) [0, 1, 2, 3, 4, 5, 6, 7, 8, 9, 10, 11, 12, 13, 14, 15, 16, 17, 18, 19, 20, 21, 22, 23, 24, 25] [] (c_X5_judge l D cA ar (mkR M 3 n) (s_) (3) (s_) (by omega) (by omega) (by omega)) mwX5_judge wmX5_135 rfl (q0 := 0) rfl rfl rfl (Nat.le_of_ble_eq_true rfl) ⟨by decide, by decide⟩ ⟨by show _ ≤ 0; omega, by show _ ≤ 0; omega⟩ rfl rfl (by decide) (by decide) (by decide) dX5_scoreBy_45 (fun r8 u9 hp10 => ?_)
        obtain ⟨rfl, rfl⟩ := hp10
        refine x_iload_n F 3 dX5_scoreBy_48 rfl ?_
        refine x_if_eq F 59 dX5_scoreBy_49 (by decide) (fun h49 => ?_) (fun h49 => ?_)
        · refine x_aload_n F 0 dX5_scoreBy_59 rfl ?_
          refine x_get F inUX5 0 16 rfl rfl (by decide) wfX5_122 rfl dX5_scoreBy_60 ?_
          exact x_iret F (jdg (mkR M 3 n) (s_) (3) (s_)) (⟨by rw [if_pos h49]; rfl, rfl⟩) (rfl) (by omega) (by omega) dX5_scoreBy_63
        · refine x_aload_n F 0 dX5_scoreBy_52 rfl ?_
          refine x_get F inUX5 0 15 rfl rfl (by decide) wfX5_119 rfl dX5_scoreBy_53 ?_
          refine x_goto F 63 dX5_scoreBy_56 (by decide) ?_
          exact x_iret F (jdg (mkR M 3 n) (s_) (3) (s_)) (⟨by rw [if_neg h49]; rfl, rfl⟩) (rfl) (by omega) (by omega) dX5_scoreBy_63
      · exact absurd hb h33
    · exact absurd (wn_in (n := cnt) hnc (by omega)) (bz_0.mp h18)

set_option maxHeartbeats 4000000 in
set_option maxRecDepth 100000 in
theorem c_X5_scoreBy_1 (l : Launch) (D : va_G) (cA : Nat → ClassId) (ar : Nat → Nat) (M : Nat → Nat → Int32) (ns s_ n cnt : Nat) (p2 p3 : Int32) (hns : M 17 0 = nI ns) (hn3 : ns ≤ 3) (hs : s_ < ns) (hc : M 0 0 = nI cnt) (hcn : cnt ≤ 120) (hwf : ∀ i, i < cnt → wfE (logR M) i) (hnc : n ≤ cnt) (hb : ¬ p2 = 0) : Cg l D cA yX5_scoreBy cX5_scoreBy 5 (some .int) 3 0 0 ([.ref (ar 100), .int (nI s_), .int p2, .int p3, .int (nI n)] : List Value) (wR cA ar M) (fun (r : Option Value) (u : Nat → Nat → Int32) => r = some (.int (if p3 = 0 then sfR (mkR M 3 n) (3 + s_) 3 s_ 16 else hdR (mkR M 3 n) (3 + s_) 3 s_ 16)) ∧ u = jdg (mkR M 3 n) (3 + s_) 3 s_) (fun u : Nat → Nat → Int32 => wR cA ar u) := by
  refine x_met (by decide +kernel) rfl (Nat.le_of_ble_eq_true rfl) ?_
  intro xp xe xs xm xbl xme xco F hnm
  refine x_lv [(0, .ref (ar 100)), (1, .int (nI s_)), (2, .int p2), (3, .int p3), (4, .int (nI n))] [0, 1, 2, 3, 4] rfl ?_
  have hS : nI 0 ≤ nI s_ ∧ nI s_ ≤ M 17 0 - nI 1 := by rw [hns, pk_sub (by omega)]; exact wn_in (by omega) (by omega)
  refine x_aload_n F 0 dX5_scoreBy_0 rfl ?_
  refine x_iload_n F 1 dX5_scoreBy_1 rfl ?_
  refine x_callVr F [] [0, 1, 2, 3, 4, 5, 6, 7, 8, 9, 10, 11, 12, 13, 14, 15, 16, 17, 18, 19, 20, 21, 22, 23, 24, 25] (c_X5_isSolve l D cA ar M (nI s_)) mwX5_isSolve wmX5_149 rfl (q0 := 0) rfl rfl rfl (Nat.le_of_ble_eq_true rfl) ⟨by decide, by decide⟩ ⟨by show _ ≤ 0; omega, by show _ ≤ 0; omega⟩ rfl (by decide) dX5_scoreBy_2 (fun r1 hp2 => ?_)
  subst hp2
  refine x_if_eq F 21 dX5_scoreBy_5 (by decide) (fun h5 => ?_) (fun h5 => ?_)
  · exact absurd hS (bz_0.mp h5)
  · refine x_iload F 4 dX5_scoreBy_8 rfl ?_
    refine x_iconst F (nI 0) dX5_scoreBy_10 (by decide +kernel) ?_
    refine x_aload_n F 0 dX5_scoreBy_11 rfl ?_
    refine x_get F inUX5 0 0 rfl rfl (by decide) wfX5_97 rfl dX5_scoreBy_12 ?_
    refine x_top (nI cnt) (hc) ?_
    refine x_callSr F [] [] (c_X5_in l D cA (nI n) (nI 0) (nI cnt)) mwX5_in wmX5_101 rfl rfl (Nat.le_of_ble_eq_true rfl) ⟨by decide, by decide⟩ ⟨by show _ ≤ 0; omega, by show _ ≤ 0; omega⟩ rfl (by decide) dX5_scoreBy_15 (fun r3 hp4 => ?_)
    subst hp4
    refine x_if_ne F 24 dX5_scoreBy_18 (by decide) (fun h18 => ?_) (fun h18 => ?_)
    · refine x_aload_n F 0 dX5_scoreBy_24 rfl ?_
      refine x_iconst F (nI 3) dX5_scoreBy_25 (by decide +kernel) ?_
      refine x_iload F 4 dX5_scoreBy_26 rfl ?_
      refine x_callV F [] ([]) [0, 1, 2, 3, 4, 5, 6, 7, 8, 9, 10, 11, 12, 13, 14, 15, 16, 17, 18, 19, 20, 21, 22, 23, 24, 25] [] (c_X5_makeFacts l D cA ar M 3 n (by decide) (by omega) (fun i hi => hwf i (by omega))) mwX5_makeFacts wmX5_167 rfl (q0 := 0) rfl rfl rfl (Nat.le_of_ble_eq_true rfl) ⟨by decide, by decide⟩ ⟨by show _ ≤ 0; omega, by show _ ≤ 0; omega⟩ rfl rfl (by decide) (by decide) (by decide) dX5_scoreBy_28 (fun r5 u6 hp7 => ?_)
      obtain ⟨rfl, rfl⟩ := hp7
      refine x_aload_n F 0 dX5_scoreBy_31 rfl ?_
      refine x_iload_n F 2 dX5_scoreBy_32 rfl ?_
      refine x_if_eq F 42 dX5_scoreBy_33 (by decide) (fun h33 => ?_) (fun h33 => ?_)
      · exact absurd h33 hb
      · refine x_iconst F (nI 3) dX5_scoreBy_36 (by decide +kernel) ?_
        refine x_iload_n F 1 dX5_scoreBy_37 rfl ?_
        refine x_iadd F (nI (3 + s_)) dX5_scoreBy_38 (nI_add _ _) ?_
        refine x_goto F 43 dX5_scoreBy_39 (by decide) ?_
        refine x_iconst F (nI 3) dX5_scoreBy_43 (by decide +kernel) ?_
        refine x_iload_n F 1 dX5_scoreBy_44 rfl ?_
        refine x_callV F [] ([]) [0, 1, 2, 3, 4, 5, 6, 7, 8, 9, 10, 11, 12, 13, 14, 15, 16, 17, 18, 19, 20, 21, 22, 23, 24, 25] [] (c_X5_judge l D cA ar (mkR M 3 n) (3 + s_) (3) (s_) (by omega) (by omega) (by omega)) mwX5_judge wmX5_135 rfl (q0 := 0) rfl rfl rfl (Nat.le_of_ble_eq_true rfl) ⟨by decide, by decide⟩ ⟨by show _ ≤ 0; omega, by show _ ≤ 0; omega⟩ rfl rfl (by decide) (by decide) (by decide) dX5_scoreBy_45 (fun r8 u9 hp10 => ?_)
        obtain ⟨rfl, rfl⟩ := hp10
        refine x_iload_n F 3 dX5_scoreBy_48 rfl ?_
        refine x_if_eq F 59 dX5_scoreBy_49 (by decide) (fun h49 => ?_) (fun h49 => ?_)
        · refine x_aload_n F 0 dX5_scoreBy_59 rfl ?_
          refine x_get F inUX5 0 16 rfl rfl (by decide) wfX5_122 rfl dX5_scoreBy_60 ?_
          exact x_iret F (jdg (mkR M 3 n) (3 + s_) (3) (s_)) (⟨by rw [if_pos h49]; rfl, rfl⟩) (rfl) (by omega) (by omega) dX5_scoreBy_63
        · refine x_aload_n F 0 dX5_scoreBy_52 rfl ?_
          refine x_get F inUX5 0 15 rfl rfl (by decide) wfX5_119 rfl dX5_scoreBy_53 ?_
          refine x_goto F 63 dX5_scoreBy_56 (by decide) ?_
          exact x_iret F (jdg (mkR M 3 n) (3 + s_) (3) (s_)) (⟨by rw [if_neg h49]; rfl, rfl⟩) (rfl) (by omega) (by omega) dX5_scoreBy_63
    · exact absurd (wn_in (n := cnt) hnc (by omega)) (bz_0.mp h18)

/-- likeness in the reference of the first n jobs -/
def lkR (M : Nat → Nat → Int32) (a b n : Nat) : Prop := ∀ j, j < n → M 6 (16 * a + j) = 0 ∨ M 14 (16 * a + j) = M 14 (16 * b + j) ∧ M 14 (16 * (3 + a) + j) = M 14 (16 * (3 + b) + j)
theorem lkR_s {M : Nat → Nat → Int32} {a b n : Nat} (h : lkR M a b n) (h1 : M 6 (16 * a + n) = 0 ∨ M 14 (16 * a + n) = M 14 (16 * b + n) ∧ M 14 (16 * (3 + a) + n) = M 14 (16 * (3 + b) + n)) : lkR M a b (n + 1) := fun j hj => by
  by_cases e : j = n
  · rw [e]; exact h1
  · exact h j (by omega)
set_option maxHeartbeats 4000000 in
set_option maxRecDepth 100000 in
theorem c_X5_same_ok (l : Launch) (D : va_G) (cA : Nat → ClassId) (ar : Nat → Nat) (M : Nat → Nat → Int32) (ns s_ v_ : Nat) (hns : M 17 0 = nI ns) (hn3 : ns ≤ 3) (hs : s_ < ns) (hv : v_ < ns) : Cr l D cA yX5_same cX5_same 5 (some .int) 2 ([.ref (ar 100), .int (nI s_), .int (nI v_)] : List Value) (wR cA ar M) (fun r : Option Value => ∃ x, r = some (.int x) ∧ (x = 1 ∨ x = 0) ∧ (x = 1 ↔ M 18 s_ = M 18 v_ ∧ lkR M s_ v_ 16)) := by
  refine x_met (by decide +kernel) rfl (Nat.le_of_ble_eq_true rfl) ?_
  intro xp xe xs xm xbl xme xco F hnm
  refine x_lv [(0, .ref (ar 100)), (1, .int (nI s_)), (2, .int (nI v_))] [0, 1, 2] rfl ?_
  have hS : nI 0 ≤ nI s_ ∧ nI s_ ≤ M 17 0 - nI 1 := by rw [hns, pk_sub (by omega)]; exact wn_in (by omega) (by omega)
  have hV : nI 0 ≤ nI v_ ∧ nI v_ ≤ M 17 0 - nI 1 := by rw [hns, pk_sub (by omega)]; exact wn_in (by omega) (by omega)
  refine x_aload_n F 0 dX5_same_0 rfl ?_
  refine x_iload_n F 1 dX5_same_1 rfl ?_
  refine x_callVr F [] [0, 1, 2, 3, 4, 5, 6, 7, 8, 9, 10, 11, 12, 13, 14, 15, 16, 17, 18, 19, 20, 21, 22, 23, 24, 25] (c_X5_isSolve l D cA ar M (nI s_)) mwX5_isSolve wmX5_149 rfl (q0 := 0) rfl rfl rfl (Nat.le_of_ble_eq_true rfl) ⟨by decide, by decide⟩ ⟨by show _ ≤ 0; omega, by show _ ≤ 0; omega⟩ rfl (by decide) dX5_same_2 (fun r1 hp2 => ?_)
  subst hp2
  refine x_if_eq F 16 dX5_same_5 (by decide) (fun h5 => ?_) (fun h5 => ?_)
  · exact absurd hS (bz_0.mp h5)
  · refine x_aload_n F 0 dX5_same_8 rfl ?_
    refine x_iload_n F 2 dX5_same_9 rfl ?_
    refine x_callVr F [] [0, 1, 2, 3, 4, 5, 6, 7, 8, 9, 10, 11, 12, 13, 14, 15, 16, 17, 18, 19, 20, 21, 22, 23, 24, 25] (c_X5_isSolve l D cA ar M (nI v_)) mwX5_isSolve wmX5_149 rfl (q0 := 0) rfl rfl rfl (Nat.le_of_ble_eq_true rfl) ⟨by decide, by decide⟩ ⟨by show _ ≤ 0; omega, by show _ ≤ 0; omega⟩ rfl (by decide) dX5_same_10 (fun r3 hp4 => ?_)
    subst hp4
    refine x_if_ne F 19 dX5_same_13 (by decide) (fun h13 => ?_) (fun h13 => ?_)
    · refine x_aload_n F 0 dX5_same_19 rfl ?_
      refine x_get F inUX5 0 18 rfl rfl (by decide) wfX5_50 rfl dX5_same_20 ?_
      refine x_iload_n F 1 dX5_same_23 rfl ?_
      refine x_iald F 14 (k := s_) rfl (by omega) (by decide) dX5_same_24 ?_
      refine x_aload_n F 0 dX5_same_25 rfl ?_
      refine x_get F inUX5 0 18 rfl rfl (by decide) wfX5_50 rfl dX5_same_26 ?_
      refine x_iload_n F 2 dX5_same_29 rfl ?_
      refine x_iald F 14 (k := v_) rfl (by omega) (by decide) dX5_same_30 ?_
      refine x_icmp_ne F 38 dX5_same_31 (by decide) (fun h31 => ?_) (fun h31 => ?_)
      · refine x_iconst F (nI 0) dX5_same_38 (by decide +kernel) ?_
        refine x_istore_n F [(3, .int (nI 0)), (0, .ref (ar 100)), (1, .int (nI s_)), (2, .int (nI v_))] dX5_same_39 (by decide) rfl ?_
        refine x_iconst F (nI 0) dX5_same_40 (by decide +kernel) ?_
        refine x_istore F [(4, .int (nI 0)), (3, .int (nI 0)), (0, .ref (ar 100)), (1, .int (nI s_)), (2, .int (nI v_))] dX5_same_41 (by decide) rfl ?_
        refine x_lv [(0, .ref (ar 100)), (1, .int (nI s_)), (2, .int (nI v_)), (3, .int (nI 0)), (4, .int (nI 0))] [2, 3, 4, 1, 0] rfl ?_
        have loop43 : ∀ (nn43 : Nat) (x : Nat) (y : Nat), (x ≤ 16) → (y = 1 ∨ y = 0) → (y = 1 ↔ M 18 s_ = M 18 v_ ∧ lkR M s_ v_ x) → (16 - x < nn43) → Wx xp l xe (rmL 2 0 0) xs xm ([.ref (ar 100), .int (nI s_), .int (nI v_)] : List Value).toArray xbl xme xco 0 0 (xQ xbl D (wR cA ar M) xs ([.ref (ar 100), .int (nI s_), .int (nI v_)] : List Value).toArray 0 0 (fun (r : Option Value) (_ : Unit) => ∃ x, r = some (.int x) ∧ (x = 1 ∨ x = 0) ∧ (x = 1 ↔ M 18 s_ = M 18 v_ ∧ lkR M s_ v_ 16)) (fun _ : Unit => wR cA ar M)) 5 D (va_A (wR cA ar M) xs.heap.size) 43 [(0, .ref (ar 100)), (1, .int (nI s_)), (2, .int (nI v_)), (3, .int (nI y)), (4, .int (nI x))] [] (wR cA ar M) := by
          intro nn43
          induction nn43 with
          | zero =>
            intro x y hx hy hi hm43
            exact absurd hm43 (Nat.not_lt_zero _)
          | succ nn43 ih43 =>
            intro x y hx hy hi hm43
            refine x_iload F 4 dX5_same_43 rfl ?_
            refine x_bipush F (nI 16) dX5_same_45 (by decide +kernel) ?_
            refine x_icmp_ge F 139 dX5_same_47 (by decide) (fun h47 => ?_) (fun h47 => ?_)
            · have h47n : 16 ≤ x := (nI_leI (by decide) (by omega)).mp h47
              obtain rfl : 16 = x := by omega
              refine x_iload_n F 3 dX5_same_139 rfl ?_
              refine x_if_eq F 147 dX5_same_140 (by decide) (fun h140 => ?_) (fun h140 => ?_)
              · have h140n : y = 0 := (nI_eq (by omega) (by decide)).mp (h140.trans nI_0.symm)
                refine x_iconst F (nI 0) dX5_same_147 (by decide +kernel) ?_
                exact x_iret F () (⟨_, rfl, Or.inr rfl, fun z => absurd z (by decide +kernel), fun z => absurd (hi.mpr z) (by omega)⟩) (rfl) (by omega) (by omega) dX5_same_148
              · have h140n : ¬ y = 0 := fun z => h140 (((nI_eq (by omega) (by decide)).mpr z).trans nI_0)
                refine x_iconst F (nI 1) dX5_same_143 (by decide +kernel) ?_
                refine x_goto F 148 dX5_same_144 (by decide) ?_
                exact x_iret F () (⟨_, rfl, Or.inl rfl, fun _ => hi.mp (by omega), fun _ => rfl⟩) (rfl) (by omega) (by omega) dX5_same_148
            · have h47n : ¬ 16 ≤ x := fun z => h47 ((nI_leI (by decide) (by omega)).mpr z)
              refine x_iload_n F 3 dX5_same_50 rfl ?_
              refine x_if_eq F 139 dX5_same_51 (by decide) (fun h51 => ?_) (fun h51 => ?_)
              · have h51n : y = 0 := (nI_eq (by omega) (by decide)).mp (h51.trans nI_0.symm)
                have h51o : ¬ y = 1 := by omega
                refine x_iload_n F 3 dX5_same_139 rfl ?_
                refine x_if_eq F 147 dX5_same_140 (by decide) (fun h140 => ?_) (fun h140 => ?_)
                · have h140n : y = 0 := (nI_eq (by omega) (by decide)).mp (h140.trans nI_0.symm)
                  refine x_iconst F (nI 0) dX5_same_147 (by decide +kernel) ?_
                  exact x_iret F () (⟨_, rfl, Or.inr rfl, fun z => absurd z (by decide +kernel), fun z => absurd (hi.mpr ⟨z.1, fun j hj => z.2 j (by omega)⟩) h51o⟩) (rfl) (by omega) (by omega) dX5_same_148
                · have h140n : ¬ y = 0 := fun z => h140 (((nI_eq (by omega) (by decide)).mpr z).trans nI_0)
                  exact absurd h140n (by omega)
              · have h51n : ¬ y = 0 := fun z => h51 (((nI_eq (by omega) (by decide)).mpr z).trans nI_0)
                have h51o : y = 1 := by omega
                refine x_aload_n F 0 dX5_same_54 rfl ?_
                refine x_get F inUX5 0 6 rfl rfl (by decide) wfX5_25 rfl dX5_same_55 ?_
                refine x_bipush F (nI 16) dX5_same_58 (by decide +kernel) ?_
                refine x_iload_n F 1 dX5_same_60 rfl ?_
                refine x_imul F (nI (16 * s_)) dX5_same_61 (pk_mul _ _) ?_
                refine x_iload F 4 dX5_same_62 rfl ?_
                refine x_iadd F (nI ((16 * s_) + x)) dX5_same_64 (nI_add _ _) ?_
                refine x_zald F 6 (k := (16 * s_) + x) rfl (by omega) (by decide) dX5_same_65 ?_
                refine x_if_eq F 127 dX5_same_66 (by decide) (fun h66 => ?_) (fun h66 => ?_)
                · refine x_iconst F (nI 1) dX5_same_127 (by decide +kernel) ?_
                  refine x_goto F 132 dX5_same_128 (by decide) ?_
                  refine x_istore_n F [(3, .int (nI 1)), (0, .ref (ar 100)), (1, .int (nI s_)), (2, .int (nI v_)), (4, .int (nI x))] dX5_same_132 (by decide) rfl ?_
                  refine x_iinc F (nI (x + 1)) 4 [(4, .int (nI (x + 1))), (3, .int (nI 1)), (0, .ref (ar 100)), (1, .int (nI s_)), (2, .int (nI v_))] dX5_same_133 rfl ((nI_add x 1)) (by decide) rfl ?_
                  refine x_goto F 43 dX5_same_136 (by decide) ?_
                  refine x_lv [(0, .ref (ar 100)), (1, .int (nI s_)), (2, .int (nI v_)), (3, .int (nI 1)), (4, .int (nI (x + 1)))] [2, 3, 4, 1, 0] rfl ?_
                  exact ih43 (x + 1) 1 (by omega) (Or.inl rfl) (⟨fun z => ⟨(hi.mp h51o).1, lkR_s (hi.mp h51o).2 (Or.inl h66)⟩, fun _ => rfl⟩) (by omega)
                · refine x_aload_n F 0 dX5_same_69 rfl ?_
                  refine x_get F inUX5 0 14 rfl rfl (by decide) wfX5_47 rfl dX5_same_70 ?_
                  refine x_bipush F (nI 16) dX5_same_73 (by decide +kernel) ?_
                  refine x_iload_n F 1 dX5_same_75 rfl ?_
                  refine x_imul F (nI (16 * s_)) dX5_same_76 (pk_mul _ _) ?_
                  refine x_iload F 4 dX5_same_77 rfl ?_
                  refine x_iadd F (nI ((16 * s_) + x)) dX5_same_79 (nI_add _ _) ?_
                  refine x_iald F 13 (k := (16 * s_) + x) rfl (by omega) (by decide) dX5_same_80 ?_
                  refine x_aload_n F 0 dX5_same_81 rfl ?_
                  refine x_get F inUX5 0 14 rfl rfl (by decide) wfX5_47 rfl dX5_same_82 ?_
                  refine x_bipush F (nI 16) dX5_same_85 (by decide +kernel) ?_
                  refine x_iload_n F 2 dX5_same_87 rfl ?_
                  refine x_imul F (nI (16 * v_)) dX5_same_88 (pk_mul _ _) ?_
                  refine x_iload F 4 dX5_same_89 rfl ?_
                  refine x_iadd F (nI ((16 * v_) + x)) dX5_same_91 (nI_add _ _) ?_
                  refine x_iald F 13 (k := (16 * v_) + x) rfl (by omega) (by decide) dX5_same_92 ?_
                  refine x_icmp_ne F 131 dX5_same_93 (by decide) (fun h93 => ?_) (fun h93 => ?_)
                  · refine x_iconst F (nI 0) dX5_same_131 (by decide +kernel) ?_
                    refine x_istore_n F [(3, .int (nI 0)), (0, .ref (ar 100)), (1, .int (nI s_)), (2, .int (nI v_)), (4, .int (nI x))] dX5_same_132 (by decide) rfl ?_
                    refine x_iinc F (nI (x + 1)) 4 [(4, .int (nI (x + 1))), (3, .int (nI 0)), (0, .ref (ar 100)), (1, .int (nI s_)), (2, .int (nI v_))] dX5_same_133 rfl ((nI_add x 1)) (by decide) rfl ?_
                    refine x_goto F 43 dX5_same_136 (by decide) ?_
                    refine x_lv [(0, .ref (ar 100)), (1, .int (nI s_)), (2, .int (nI v_)), (3, .int (nI 0)), (4, .int (nI (x + 1)))] [2, 3, 4, 1, 0] rfl ?_
                    exact ih43 (x + 1) 0 (by omega) (Or.inr rfl) (⟨fun z => absurd z (by decide), fun z => absurd (z.2 x (by omega)) (fun w => w.elim h66 (fun w => h93 w.1))⟩) (by omega)
                  · refine x_aload_n F 0 dX5_same_96 rfl ?_
                    refine x_get F inUX5 0 14 rfl rfl (by decide) wfX5_47 rfl dX5_same_97 ?_
                    refine x_bipush F (nI 16) dX5_same_100 (by decide +kernel) ?_
                    refine x_iconst F (nI 3) dX5_same_102 (by decide +kernel) ?_
                    refine x_iload_n F 1 dX5_same_103 rfl ?_
                    refine x_iadd F (nI (3 + s_)) dX5_same_104 (nI_add _ _) ?_
                    refine x_imul F (nI (16 * (3 + s_))) dX5_same_105 (pk_mul _ _) ?_
                    refine x_iload F 4 dX5_same_106 rfl ?_
                    refine x_iadd F (nI ((16 * (3 + s_)) + x)) dX5_same_108 (nI_add _ _) ?_
                    refine x_iald F 13 (k := (16 * (3 + s_)) + x) rfl (by omega) (by decide) dX5_same_109 ?_
                    refine x_aload_n F 0 dX5_same_110 rfl ?_
                    refine x_get F inUX5 0 14 rfl rfl (by decide) wfX5_47 rfl dX5_same_111 ?_
                    refine x_bipush F (nI 16) dX5_same_114 (by decide +kernel) ?_
                    refine x_iconst F (nI 3) dX5_same_116 (by decide +kernel) ?_
                    refine x_iload_n F 2 dX5_same_117 rfl ?_
                    refine x_iadd F (nI (3 + v_)) dX5_same_118 (nI_add _ _) ?_
                    refine x_imul F (nI (16 * (3 + v_))) dX5_same_119 (pk_mul _ _) ?_
                    refine x_iload F 4 dX5_same_120 rfl ?_
                    refine x_iadd F (nI ((16 * (3 + v_)) + x)) dX5_same_122 (nI_add _ _) ?_
                    refine x_iald F 13 (k := (16 * (3 + v_)) + x) rfl (by omega) (by decide) dX5_same_123 ?_
                    refine x_icmp_ne F 131 dX5_same_124 (by decide) (fun h124 => ?_) (fun h124 => ?_)
                    · refine x_iconst F (nI 0) dX5_same_131 (by decide +kernel) ?_
                      refine x_istore_n F [(3, .int (nI 0)), (0, .ref (ar 100)), (1, .int (nI s_)), (2, .int (nI v_)), (4, .int (nI x))] dX5_same_132 (by decide) rfl ?_
                      refine x_iinc F (nI (x + 1)) 4 [(4, .int (nI (x + 1))), (3, .int (nI 0)), (0, .ref (ar 100)), (1, .int (nI s_)), (2, .int (nI v_))] dX5_same_133 rfl ((nI_add x 1)) (by decide) rfl ?_
                      refine x_goto F 43 dX5_same_136 (by decide) ?_
                      refine x_lv [(0, .ref (ar 100)), (1, .int (nI s_)), (2, .int (nI v_)), (3, .int (nI 0)), (4, .int (nI (x + 1)))] [2, 3, 4, 1, 0] rfl ?_
                      exact ih43 (x + 1) 0 (by omega) (Or.inr rfl) (⟨fun z => absurd z (by decide), fun z => absurd (z.2 x (by omega)) (fun w => w.elim h66 (fun w => h124 w.2))⟩) (by omega)
                    · refine x_iconst F (nI 1) dX5_same_127 (by decide +kernel) ?_
                      refine x_goto F 132 dX5_same_128 (by decide) ?_
                      refine x_istore_n F [(3, .int (nI 1)), (0, .ref (ar 100)), (1, .int (nI s_)), (2, .int (nI v_)), (4, .int (nI x))] dX5_same_132 (by decide) rfl ?_
                      refine x_iinc F (nI (x + 1)) 4 [(4, .int (nI (x + 1))), (3, .int (nI 1)), (0, .ref (ar 100)), (1, .int (nI s_)), (2, .int (nI v_))] dX5_same_133 rfl ((nI_add x 1)) (by decide) rfl ?_
                      refine x_goto F 43 dX5_same_136 (by decide) ?_
                      refine x_lv [(0, .ref (ar 100)), (1, .int (nI s_)), (2, .int (nI v_)), (3, .int (nI 1)), (4, .int (nI (x + 1)))] [2, 3, 4, 1, 0] rfl ?_
                      exact ih43 (x + 1) 1 (by omega) (Or.inl rfl) (⟨fun z => ⟨(hi.mp h51o).1, lkR_s (hi.mp h51o).2 (Or.inr ⟨h93, h124⟩)⟩, fun _ => rfl⟩) (by omega)
        exact loop43 _ 0 0 (Nat.zero_le _) (Or.inr rfl) (⟨fun z => absurd z (by decide), fun z => absurd z.1 h31⟩) (Nat.lt_succ_self _)
      · refine x_iconst F (nI 1) dX5_same_34 (by decide +kernel) ?_
        refine x_goto F 39 dX5_same_35 (by decide) ?_
        refine x_istore_n F [(3, .int (nI 1)), (0, .ref (ar 100)), (1, .int (nI s_)), (2, .int (nI v_))] dX5_same_39 (by decide) rfl ?_
        refine x_iconst F (nI 0) dX5_same_40 (by decide +kernel) ?_
        refine x_istore F [(4, .int (nI 0)), (3, .int (nI 1)), (0, .ref (ar 100)), (1, .int (nI s_)), (2, .int (nI v_))] dX5_same_41 (by decide) rfl ?_
        refine x_lv [(0, .ref (ar 100)), (1, .int (nI s_)), (2, .int (nI v_)), (3, .int (nI 1)), (4, .int (nI 0))] [2, 3, 4, 1, 0] rfl ?_
        have loop43 : ∀ (nn43 : Nat) (x : Nat) (y : Nat), (x ≤ 16) → (y = 1 ∨ y = 0) → (y = 1 ↔ M 18 s_ = M 18 v_ ∧ lkR M s_ v_ x) → (16 - x < nn43) → Wx xp l xe (rmL 2 0 0) xs xm ([.ref (ar 100), .int (nI s_), .int (nI v_)] : List Value).toArray xbl xme xco 0 0 (xQ xbl D (wR cA ar M) xs ([.ref (ar 100), .int (nI s_), .int (nI v_)] : List Value).toArray 0 0 (fun (r : Option Value) (_ : Unit) => ∃ x, r = some (.int x) ∧ (x = 1 ∨ x = 0) ∧ (x = 1 ↔ M 18 s_ = M 18 v_ ∧ lkR M s_ v_ 16)) (fun _ : Unit => wR cA ar M)) 5 D (va_A (wR cA ar M) xs.heap.size) 43 [(0, .ref (ar 100)), (1, .int (nI s_)), (2, .int (nI v_)), (3, .int (nI y)), (4, .int (nI x))] [] (wR cA ar M) := by
          intro nn43
          induction nn43 with
          | zero =>
            intro x y hx hy hi hm43
            exact absurd hm43 (Nat.not_lt_zero _)
          | succ nn43 ih43 =>
            intro x y hx hy hi hm43
            refine x_iload F 4 dX5_same_43 rfl ?_
            refine x_bipush F (nI 16) dX5_same_45 (by decide +kernel) ?_
            refine x_icmp_ge F 139 dX5_same_47 (by decide) (fun h47 => ?_) (fun h47 => ?_)
            · have h47n : 16 ≤ x := (nI_leI (by decide) (by omega)).mp h47
              obtain rfl : 16 = x := by omega
              refine x_iload_n F 3 dX5_same_139 rfl ?_
              refine x_if_eq F 147 dX5_same_140 (by decide) (fun h140 => ?_) (fun h140 => ?_)
              · have h140n : y = 0 := (nI_eq (by omega) (by decide)).mp (h140.trans nI_0.symm)
                refine x_iconst F (nI 0) dX5_same_147 (by decide +kernel) ?_
                exact x_iret F () (⟨_, rfl, Or.inr rfl, fun z => absurd z (by decide +kernel), fun z => absurd (hi.mpr z) (by omega)⟩) (rfl) (by omega) (by omega) dX5_same_148
              · have h140n : ¬ y = 0 := fun z => h140 (((nI_eq (by omega) (by decide)).mpr z).trans nI_0)
                refine x_iconst F (nI 1) dX5_same_143 (by decide +kernel) ?_
                refine x_goto F 148 dX5_same_144 (by decide) ?_
                exact x_iret F () (⟨_, rfl, Or.inl rfl, fun _ => hi.mp (by omega), fun _ => rfl⟩) (rfl) (by omega) (by omega) dX5_same_148
            · have h47n : ¬ 16 ≤ x := fun z => h47 ((nI_leI (by decide) (by omega)).mpr z)
              refine x_iload_n F 3 dX5_same_50 rfl ?_
              refine x_if_eq F 139 dX5_same_51 (by decide) (fun h51 => ?_) (fun h51 => ?_)
              · have h51n : y = 0 := (nI_eq (by omega) (by decide)).mp (h51.trans nI_0.symm)
                have h51o : ¬ y = 1 := by omega
                refine x_iload_n F 3 dX5_same_139 rfl ?_
                refine x_if_eq F 147 dX5_same_140 (by decide) (fun h140 => ?_) (fun h140 => ?_)
                · have h140n : y = 0 := (nI_eq (by omega) (by decide)).mp (h140.trans nI_0.symm)
                  refine x_iconst F (nI 0) dX5_same_147 (by decide +kernel) ?_
                  exact x_iret F () (⟨_, rfl, Or.inr rfl, fun z => absurd z (by decide +kernel), fun z => absurd (hi.mpr ⟨z.1, fun j hj => z.2 j (by omega)⟩) h51o⟩) (rfl) (by omega) (by omega) dX5_same_148
                · have h140n : ¬ y = 0 := fun z => h140 (((nI_eq (by omega) (by decide)).mpr z).trans nI_0)
                  exact absurd h140n (by omega)
              · have h51n : ¬ y = 0 := fun z => h51 (((nI_eq (by omega) (by decide)).mpr z).trans nI_0)
                have h51o : y = 1 := by omega
                refine x_aload_n F 0 dX5_same_54 rfl ?_
                refine x_get F inUX5 0 6 rfl rfl (by decide) wfX5_25 rfl dX5_same_55 ?_
                refine x_bipush F (nI 16) dX5_same_58 (by decide +kernel) ?_
                refine x_iload_n F 1 dX5_same_60 rfl ?_
                refine x_imul F (nI (16 * s_)) dX5_same_61 (pk_mul _ _) ?_
                refine x_iload F 4 dX5_same_62 rfl ?_
                refine x_iadd F (nI ((16 * s_) + x)) dX5_same_64 (nI_add _ _) ?_
                refine x_zald F 6 (k := (16 * s_) + x) rfl (by omega) (by decide) dX5_same_65 ?_
                refine x_if_eq F 127 dX5_same_66 (by decide) (fun h66 => ?_) (fun h66 => ?_)
                · refine x_iconst F (nI 1) dX5_same_127 (by decide +kernel) ?_
                  refine x_goto F 132 dX5_same_128 (by decide) ?_
                  refine x_istore_n F [(3, .int (nI 1)), (0, .ref (ar 100)), (1, .int (nI s_)), (2, .int (nI v_)), (4, .int (nI x))] dX5_same_132 (by decide) rfl ?_
                  refine x_iinc F (nI (x + 1)) 4 [(4, .int (nI (x + 1))), (3, .int (nI 1)), (0, .ref (ar 100)), (1, .int (nI s_)), (2, .int (nI v_))] dX5_same_133 rfl ((nI_add x 1)) (by decide) rfl ?_
                  refine x_goto F 43 dX5_same_136 (by decide) ?_
                  refine x_lv [(0, .ref (ar 100)), (1, .int (nI s_)), (2, .int (nI v_)), (3, .int (nI 1)), (4, .int (nI (x + 1)))] [2, 3, 4, 1, 0] rfl ?_
                  exact ih43 (x + 1) 1 (by omega) (Or.inl rfl) (⟨fun z => ⟨(hi.mp h51o).1, lkR_s (hi.mp h51o).2 (Or.inl h66)⟩, fun _ => rfl⟩) (by omega)
                · refine x_aload_n F 0 dX5_same_69 rfl ?_
                  refine x_get F inUX5 0 14 rfl rfl (by decide) wfX5_47 rfl dX5_same_70 ?_
                  refine x_bipush F (nI 16) dX5_same_73 (by decide +kernel) ?_
                  refine x_iload_n F 1 dX5_same_75 rfl ?_
                  refine x_imul F (nI (16 * s_)) dX5_same_76 (pk_mul _ _) ?_
                  refine x_iload F 4 dX5_same_77 rfl ?_
                  refine x_iadd F (nI ((16 * s_) + x)) dX5_same_79 (nI_add _ _) ?_
                  refine x_iald F 13 (k := (16 * s_) + x) rfl (by omega) (by decide) dX5_same_80 ?_
                  refine x_aload_n F 0 dX5_same_81 rfl ?_
                  refine x_get F inUX5 0 14 rfl rfl (by decide) wfX5_47 rfl dX5_same_82 ?_
                  refine x_bipush F (nI 16) dX5_same_85 (by decide +kernel) ?_
                  refine x_iload_n F 2 dX5_same_87 rfl ?_
                  refine x_imul F (nI (16 * v_)) dX5_same_88 (pk_mul _ _) ?_
                  refine x_iload F 4 dX5_same_89 rfl ?_
                  refine x_iadd F (nI ((16 * v_) + x)) dX5_same_91 (nI_add _ _) ?_
                  refine x_iald F 13 (k := (16 * v_) + x) rfl (by omega) (by decide) dX5_same_92 ?_
                  refine x_icmp_ne F 131 dX5_same_93 (by decide) (fun h93 => ?_) (fun h93 => ?_)
                  · refine x_iconst F (nI 0) dX5_same_131 (by decide +kernel) ?_
                    refine x_istore_n F [(3, .int (nI 0)), (0, .ref (ar 100)), (1, .int (nI s_)), (2, .int (nI v_)), (4, .int (nI x))] dX5_same_132 (by decide) rfl ?_
                    refine x_iinc F (nI (x + 1)) 4 [(4, .int (nI (x + 1))), (3, .int (nI 0)), (0, .ref (ar 100)), (1, .int (nI s_)), (2, .int (nI v_))] dX5_same_133 rfl ((nI_add x 1)) (by decide) rfl ?_
                    refine x_goto F 43 dX5_same_136 (by decide) ?_
                    refine x_lv [(0, .ref (ar 100)), (1, .int (nI s_)), (2, .int (nI v_)), (3, .int (nI 0)), (4, .int (nI (x + 1)))] [2, 3, 4, 1, 0] rfl ?_
                    exact ih43 (x + 1) 0 (by omega) (Or.inr rfl) (⟨fun z => absurd z (by decide), fun z => absurd (z.2 x (by omega)) (fun w => w.elim h66 (fun w => h93 w.1))⟩) (by omega)
                  · refine x_aload_n F 0 dX5_same_96 rfl ?_
                    refine x_get F inUX5 0 14 rfl rfl (by decide) wfX5_47 rfl dX5_same_97 ?_
                    refine x_bipush F (nI 16) dX5_same_100 (by decide +kernel) ?_
                    refine x_iconst F (nI 3) dX5_same_102 (by decide +kernel) ?_
                    refine x_iload_n F 1 dX5_same_103 rfl ?_
                    refine x_iadd F (nI (3 + s_)) dX5_same_104 (nI_add _ _) ?_
                    refine x_imul F (nI (16 * (3 + s_))) dX5_same_105 (pk_mul _ _) ?_
                    refine x_iload F 4 dX5_same_106 rfl ?_
                    refine x_iadd F (nI ((16 * (3 + s_)) + x)) dX5_same_108 (nI_add _ _) ?_
                    refine x_iald F 13 (k := (16 * (3 + s_)) + x) rfl (by omega) (by decide) dX5_same_109 ?_
                    refine x_aload_n F 0 dX5_same_110 rfl ?_
                    refine x_get F inUX5 0 14 rfl rfl (by decide) wfX5_47 rfl dX5_same_111 ?_
                    refine x_bipush F (nI 16) dX5_same_114 (by decide +kernel) ?_
                    refine x_iconst F (nI 3) dX5_same_116 (by decide +kernel) ?_
                    refine x_iload_n F 2 dX5_same_117 rfl ?_
                    refine x_iadd F (nI (3 + v_)) dX5_same_118 (nI_add _ _) ?_
                    refine x_imul F (nI (16 * (3 + v_))) dX5_same_119 (pk_mul _ _) ?_
                    refine x_iload F 4 dX5_same_120 rfl ?_
                    refine x_iadd F (nI ((16 * (3 + v_)) + x)) dX5_same_122 (nI_add _ _) ?_
                    refine x_iald F 13 (k := (16 * (3 + v_)) + x) rfl (by omega) (by decide) dX5_same_123 ?_
                    refine x_icmp_ne F 131 dX5_same_124 (by decide) (fun h124 => ?_) (fun h124 => ?_)
                    · refine x_iconst F (nI 0) dX5_same_131 (by decide +kernel) ?_
                      refine x_istore_n F [(3, .int (nI 0)), (0, .ref (ar 100)), (1, .int (nI s_)), (2, .int (nI v_)), (4, .int (nI x))] dX5_same_132 (by decide) rfl ?_
                      refine x_iinc F (nI (x + 1)) 4 [(4, .int (nI (x + 1))), (3, .int (nI 0)), (0, .ref (ar 100)), (1, .int (nI s_)), (2, .int (nI v_))] dX5_same_133 rfl ((nI_add x 1)) (by decide) rfl ?_
                      refine x_goto F 43 dX5_same_136 (by decide) ?_
                      refine x_lv [(0, .ref (ar 100)), (1, .int (nI s_)), (2, .int (nI v_)), (3, .int (nI 0)), (4, .int (nI (x + 1)))] [2, 3, 4, 1, 0] rfl ?_
                      exact ih43 (x + 1) 0 (by omega) (Or.inr rfl) (⟨fun z => absurd z (by decide), fun z => absurd (z.2 x (by omega)) (fun w => w.elim h66 (fun w => h124 w.2))⟩) (by omega)
                    · refine x_iconst F (nI 1) dX5_same_127 (by decide +kernel) ?_
                      refine x_goto F 132 dX5_same_128 (by decide) ?_
                      refine x_istore_n F [(3, .int (nI 1)), (0, .ref (ar 100)), (1, .int (nI s_)), (2, .int (nI v_)), (4, .int (nI x))] dX5_same_132 (by decide) rfl ?_
                      refine x_iinc F (nI (x + 1)) 4 [(4, .int (nI (x + 1))), (3, .int (nI 1)), (0, .ref (ar 100)), (1, .int (nI s_)), (2, .int (nI v_))] dX5_same_133 rfl ((nI_add x 1)) (by decide) rfl ?_
                      refine x_goto F 43 dX5_same_136 (by decide) ?_
                      refine x_lv [(0, .ref (ar 100)), (1, .int (nI s_)), (2, .int (nI v_)), (3, .int (nI 1)), (4, .int (nI (x + 1)))] [2, 3, 4, 1, 0] rfl ?_
                      exact ih43 (x + 1) 1 (by omega) (Or.inl rfl) (⟨fun z => ⟨(hi.mp h51o).1, lkR_s (hi.mp h51o).2 (Or.inr ⟨h93, h124⟩)⟩, fun _ => rfl⟩) (by omega)
        exact loop43 _ 0 1 (Nat.zero_le _) (Or.inl rfl) (⟨fun _ => ⟨h31, fun j hj => absurd hj (Nat.not_lt_zero _)⟩, fun _ => rfl⟩) (Nat.lt_succ_self _)
    · exact absurd hV (bz_0.mp h13)

set_option maxHeartbeats 4000000 in
set_option maxRecDepth 100000 in
theorem c_X5_told_0 (l : Launch) (D : va_G) (cA : Nat → ClassId) (ar : Nat → Nat) (M : Nat → Nat → Int32) (ns s_ t L : Nat) (hns : M 17 0 = nI ns) (hn3 : ns ≤ 3) (hs : s_ < ns) (ht : M 19 s_ = nI t) (ht2 : t < 2 ^ 31) (hl : M 21 s_ = nI L) (hL0 : 0 < L) (hL : L ≤ 8) : Cr l D cA yX5_told cX5_told 4 (some .int) 2 ([.ref (ar 100), .int (nI s_), .int (nI 0)] : List Value) (wR cA ar M) (fun r : Option Value => r = some (.int (M 19 s_))) := by
  refine x_met (by decide +kernel) rfl (Nat.le_of_ble_eq_true rfl) ?_
  intro xp xe xs xm xbl xme xco F hnm
  refine x_lv [(0, .ref (ar 100)), (1, .int (nI s_)), (2, .int (nI 0))] [0, 1, 2] rfl ?_
  have hS : nI 0 ≤ nI s_ ∧ nI s_ ≤ M 17 0 - nI 1 := by rw [hns, pk_sub (by omega)]; exact wn_in (by omega) (by omega)
  refine x_aload_n F 0 dX5_told_0 rfl ?_
  refine x_iload_n F 1 dX5_told_1 rfl ?_
  refine x_callVr F [] [0, 1, 2, 3, 4, 5, 6, 7, 8, 9, 10, 11, 12, 13, 14, 15, 16, 17, 18, 19, 20, 21, 22, 23, 24, 25] (c_X5_isSolve l D cA ar M (nI s_)) mwX5_isSolve wmX5_149 rfl (q0 := 0) rfl rfl rfl (Nat.le_of_ble_eq_true rfl) ⟨by decide, by decide⟩ ⟨by show _ ≤ 0; omega, by show _ ≤ 0; omega⟩ rfl (by decide) dX5_told_2 (fun r1 hp2 => ?_)
  subst hp2
  refine x_if_eq F 18 dX5_told_5 (by decide) (fun h5 => ?_) (fun h5 => ?_)
  · exact absurd hS (bz_0.mp h5)
  · refine x_iload_n F 2 dX5_told_8 rfl ?_
    refine x_iconst F (nI 0) dX5_told_9 (by decide +kernel) ?_
    refine x_bipush F (nI 6) dX5_told_10 (by decide +kernel) ?_
    refine x_callSr F [] [] (c_X5_in l D cA (nI 0) (nI 0) (nI 6)) mwX5_in wmX5_101 rfl rfl (Nat.le_of_ble_eq_true rfl) ⟨by decide, by decide⟩ ⟨by show _ ≤ 0; omega, by show _ ≤ 0; omega⟩ rfl (by decide) dX5_told_12 (fun r3 hp4 => ?_)
    subst hp4
    refine x_if_ne F 21 dX5_told_15 (by decide) (fun h15 => ?_) (fun h15 => ?_)
    · refine x_bipush F (nI 8) dX5_told_21 (by decide +kernel) ?_
      refine x_iload_n F 1 dX5_told_23 rfl ?_
      refine x_imul F (nI (8 * s_)) dX5_told_24 (pk_mul _ _) ?_
      refine x_aload_n F 0 dX5_told_25 rfl ?_
      refine x_get F inUX5 0 19 rfl rfl (by decide) wfX5_53 rfl dX5_told_26 ?_
      refine x_iload_n F 1 dX5_told_29 rfl ?_
      refine x_iald F 15 (k := s_) rfl (by omega) (by decide) dX5_told_30 ?_
      refine x_top (nI t) (ht) ?_
      refine x_aload_n F 0 dX5_told_31 rfl ?_
      refine x_get F inUX5 0 21 rfl rfl (by decide) wfX5_59 rfl dX5_told_32 ?_
      refine x_iload_n F 1 dX5_told_35 rfl ?_
      refine x_iald F 17 (k := s_) rfl (by omega) (by decide) dX5_told_36 ?_
      refine x_top (nI L) (hl) ?_
      refine x_irem F ((nI t) - (nI t) / (nI L) * (nI L)) dX5_told_37 (nI_ne0 hL0 (by omega)) rfl ?_
      refine x_top (nI (t % L)) (pk_rem ht2 hL0 (by omega)) ?_
      have htl := Nat.mod_lt t hL0
      refine x_iadd F (nI ((8 * s_) + (t % L))) dX5_told_38 (nI_add _ _) ?_
      refine x_istore_n F [(3, .int (nI ((8 * s_) + (t % L)))), (0, .ref (ar 100)), (1, .int (nI s_)), (2, .int (nI 0))] dX5_told_39 (by decide) rfl ?_
      refine x_iload_n F 3 dX5_told_40 rfl ?_
      refine x_top (nI 0) (rfl) ?_
      refine x_tableIn F 80 dX5_told_41 (by decide +kernel) (by decide +kernel) (off := 39) (by decide +kernel) (by decide) ?_
      refine x_aload_n F 1 dX5_told_80 rfl ?_
      refine x_get F inUX5 0 19 rfl rfl (by decide) wfX5_53 rfl dX5_told_81 ?_
      refine x_iload_n F 2 dX5_told_84 rfl ?_
      refine x_iald F 15 (k := s_) rfl (by omega) (by decide) dX5_told_85 ?_
      exact x_iret F () (rfl) (rfl) (by omega) (by omega) dX5_told_86
    · exact absurd (wn_in (n := 6) (show 0 ≤ 6 by decide) (by decide)) (bz_0.mp h15)

set_option maxHeartbeats 4000000 in
set_option maxRecDepth 100000 in
theorem c_X5_told_1 (l : Launch) (D : va_G) (cA : Nat → ClassId) (ar : Nat → Nat) (M : Nat → Nat → Int32) (ns s_ t L : Nat) (hns : M 17 0 = nI ns) (hn3 : ns ≤ 3) (hs : s_ < ns) (ht : M 19 s_ = nI t) (ht2 : t < 2 ^ 31) (hl : M 21 s_ = nI L) (hL0 : 0 < L) (hL : L ≤ 8) : Cr l D cA yX5_told cX5_told 4 (some .int) 2 ([.ref (ar 100), .int (nI s_), .int (nI 1)] : List Value) (wR cA ar M) (fun r : Option Value => r = some (.int (M 18 s_))) := by
  refine x_met (by decide +kernel) rfl (Nat.le_of_ble_eq_true rfl) ?_
  intro xp xe xs xm xbl xme xco F hnm
  refine x_lv [(0, .ref (ar 100)), (1, .int (nI s_)), (2, .int (nI 1))] [0, 1, 2] rfl ?_
  have hS : nI 0 ≤ nI s_ ∧ nI s_ ≤ M 17 0 - nI 1 := by rw [hns, pk_sub (by omega)]; exact wn_in (by omega) (by omega)
  refine x_aload_n F 0 dX5_told_0 rfl ?_
  refine x_iload_n F 1 dX5_told_1 rfl ?_
  refine x_callVr F [] [0, 1, 2, 3, 4, 5, 6, 7, 8, 9, 10, 11, 12, 13, 14, 15, 16, 17, 18, 19, 20, 21, 22, 23, 24, 25] (c_X5_isSolve l D cA ar M (nI s_)) mwX5_isSolve wmX5_149 rfl (q0 := 0) rfl rfl rfl (Nat.le_of_ble_eq_true rfl) ⟨by decide, by decide⟩ ⟨by show _ ≤ 0; omega, by show _ ≤ 0; omega⟩ rfl (by decide) dX5_told_2 (fun r1 hp2 => ?_)
  subst hp2
  refine x_if_eq F 18 dX5_told_5 (by decide) (fun h5 => ?_) (fun h5 => ?_)
  · exact absurd hS (bz_0.mp h5)
  · refine x_iload_n F 2 dX5_told_8 rfl ?_
    refine x_iconst F (nI 0) dX5_told_9 (by decide +kernel) ?_
    refine x_bipush F (nI 6) dX5_told_10 (by decide +kernel) ?_
    refine x_callSr F [] [] (c_X5_in l D cA (nI 1) (nI 0) (nI 6)) mwX5_in wmX5_101 rfl rfl (Nat.le_of_ble_eq_true rfl) ⟨by decide, by decide⟩ ⟨by show _ ≤ 0; omega, by show _ ≤ 0; omega⟩ rfl (by decide) dX5_told_12 (fun r3 hp4 => ?_)
    subst hp4
    refine x_if_ne F 21 dX5_told_15 (by decide) (fun h15 => ?_) (fun h15 => ?_)
    · refine x_bipush F (nI 8) dX5_told_21 (by decide +kernel) ?_
      refine x_iload_n F 1 dX5_told_23 rfl ?_
      refine x_imul F (nI (8 * s_)) dX5_told_24 (pk_mul _ _) ?_
      refine x_aload_n F 0 dX5_told_25 rfl ?_
      refine x_get F inUX5 0 19 rfl rfl (by decide) wfX5_53 rfl dX5_told_26 ?_
      refine x_iload_n F 1 dX5_told_29 rfl ?_
      refine x_iald F 15 (k := s_) rfl (by omega) (by decide) dX5_told_30 ?_
      refine x_top (nI t) (ht) ?_
      refine x_aload_n F 0 dX5_told_31 rfl ?_
      refine x_get F inUX5 0 21 rfl rfl (by decide) wfX5_59 rfl dX5_told_32 ?_
      refine x_iload_n F 1 dX5_told_35 rfl ?_
      refine x_iald F 17 (k := s_) rfl (by omega) (by decide) dX5_told_36 ?_
      refine x_top (nI L) (hl) ?_
      refine x_irem F ((nI t) - (nI t) / (nI L) * (nI L)) dX5_told_37 (nI_ne0 hL0 (by omega)) rfl ?_
      refine x_top (nI (t % L)) (pk_rem ht2 hL0 (by omega)) ?_
      have htl := Nat.mod_lt t hL0
      refine x_iadd F (nI ((8 * s_) + (t % L))) dX5_told_38 (nI_add _ _) ?_
      refine x_istore_n F [(3, .int (nI ((8 * s_) + (t % L)))), (0, .ref (ar 100)), (1, .int (nI s_)), (2, .int (nI 1))] dX5_told_39 (by decide) rfl ?_
      refine x_iload_n F 3 dX5_told_40 rfl ?_
      refine x_top (nI 1) (rfl) ?_
      refine x_tableIn F 87 dX5_told_41 (by decide +kernel) (by decide +kernel) (off := 46) (by decide +kernel) (by decide) ?_
      refine x_aload_n F 1 dX5_told_87 rfl ?_
      refine x_get F inUX5 0 18 rfl rfl (by decide) wfX5_50 rfl dX5_told_88 ?_
      refine x_iload_n F 2 dX5_told_91 rfl ?_
      refine x_iald F 14 (k := s_) rfl (by omega) (by decide) dX5_told_92 ?_
      exact x_iret F () (rfl) (rfl) (by omega) (by omega) dX5_told_93
    · exact absurd (wn_in (n := 6) (show 1 ≤ 6 by decide) (by decide)) (bz_0.mp h15)

set_option maxHeartbeats 4000000 in
set_option maxRecDepth 100000 in
theorem c_X5_told_2 (l : Launch) (D : va_G) (cA : Nat → ClassId) (ar : Nat → Nat) (M : Nat → Nat → Int32) (ns s_ t L : Nat) (hns : M 17 0 = nI ns) (hn3 : ns ≤ 3) (hs : s_ < ns) (ht : M 19 s_ = nI t) (ht2 : t < 2 ^ 31) (hl : M 21 s_ = nI L) (hL0 : 0 < L) (hL : L ≤ 8) : Cr l D cA yX5_told cX5_told 4 (some .int) 2 ([.ref (ar 100), .int (nI s_), .int (nI 2)] : List Value) (wR cA ar M) (fun r : Option Value => r = some (.int (M 24 s_))) := by
  refine x_met (by decide +kernel) rfl (Nat.le_of_ble_eq_true rfl) ?_
  intro xp xe xs xm xbl xme xco F hnm
  refine x_lv [(0, .ref (ar 100)), (1, .int (nI s_)), (2, .int (nI 2))] [0, 1, 2] rfl ?_
  have hS : nI 0 ≤ nI s_ ∧ nI s_ ≤ M 17 0 - nI 1 := by rw [hns, pk_sub (by omega)]; exact wn_in (by omega) (by omega)
  refine x_aload_n F 0 dX5_told_0 rfl ?_
  refine x_iload_n F 1 dX5_told_1 rfl ?_
  refine x_callVr F [] [0, 1, 2, 3, 4, 5, 6, 7, 8, 9, 10, 11, 12, 13, 14, 15, 16, 17, 18, 19, 20, 21, 22, 23, 24, 25] (c_X5_isSolve l D cA ar M (nI s_)) mwX5_isSolve wmX5_149 rfl (q0 := 0) rfl rfl rfl (Nat.le_of_ble_eq_true rfl) ⟨by decide, by decide⟩ ⟨by show _ ≤ 0; omega, by show _ ≤ 0; omega⟩ rfl (by decide) dX5_told_2 (fun r1 hp2 => ?_)
  subst hp2
  refine x_if_eq F 18 dX5_told_5 (by decide) (fun h5 => ?_) (fun h5 => ?_)
  · exact absurd hS (bz_0.mp h5)
  · refine x_iload_n F 2 dX5_told_8 rfl ?_
    refine x_iconst F (nI 0) dX5_told_9 (by decide +kernel) ?_
    refine x_bipush F (nI 6) dX5_told_10 (by decide +kernel) ?_
    refine x_callSr F [] [] (c_X5_in l D cA (nI 2) (nI 0) (nI 6)) mwX5_in wmX5_101 rfl rfl (Nat.le_of_ble_eq_true rfl) ⟨by decide, by decide⟩ ⟨by show _ ≤ 0; omega, by show _ ≤ 0; omega⟩ rfl (by decide) dX5_told_12 (fun r3 hp4 => ?_)
    subst hp4
    refine x_if_ne F 21 dX5_told_15 (by decide) (fun h15 => ?_) (fun h15 => ?_)
    · refine x_bipush F (nI 8) dX5_told_21 (by decide +kernel) ?_
      refine x_iload_n F 1 dX5_told_23 rfl ?_
      refine x_imul F (nI (8 * s_)) dX5_told_24 (pk_mul _ _) ?_
      refine x_aload_n F 0 dX5_told_25 rfl ?_
      refine x_get F inUX5 0 19 rfl rfl (by decide) wfX5_53 rfl dX5_told_26 ?_
      refine x_iload_n F 1 dX5_told_29 rfl ?_
      refine x_iald F 15 (k := s_) rfl (by omega) (by decide) dX5_told_30 ?_
      refine x_top (nI t) (ht) ?_
      refine x_aload_n F 0 dX5_told_31 rfl ?_
      refine x_get F inUX5 0 21 rfl rfl (by decide) wfX5_59 rfl dX5_told_32 ?_
      refine x_iload_n F 1 dX5_told_35 rfl ?_
      refine x_iald F 17 (k := s_) rfl (by omega) (by decide) dX5_told_36 ?_
      refine x_top (nI L) (hl) ?_
      refine x_irem F ((nI t) - (nI t) / (nI L) * (nI L)) dX5_told_37 (nI_ne0 hL0 (by omega)) rfl ?_
      refine x_top (nI (t % L)) (pk_rem ht2 hL0 (by omega)) ?_
      have htl := Nat.mod_lt t hL0
      refine x_iadd F (nI ((8 * s_) + (t % L))) dX5_told_38 (nI_add _ _) ?_
      refine x_istore_n F [(3, .int (nI ((8 * s_) + (t % L)))), (0, .ref (ar 100)), (1, .int (nI s_)), (2, .int (nI 2))] dX5_told_39 (by decide) rfl ?_
      refine x_iload_n F 3 dX5_told_40 rfl ?_
      refine x_top (nI 2) (rfl) ?_
      refine x_tableIn F 94 dX5_told_41 (by decide +kernel) (by decide +kernel) (off := 53) (by decide +kernel) (by decide) ?_
      refine x_aload_n F 1 dX5_told_94 rfl ?_
      refine x_get F inUX5 0 24 rfl rfl (by decide) wfX5_68 rfl dX5_told_95 ?_
      refine x_iload_n F 2 dX5_told_98 rfl ?_
      refine x_iald F 20 (k := s_) rfl (by omega) (by decide) dX5_told_99 ?_
      exact x_iret F () (rfl) (rfl) (by omega) (by omega) dX5_told_100
    · exact absurd (wn_in (n := 6) (show 2 ≤ 6 by decide) (by decide)) (bz_0.mp h15)

set_option maxHeartbeats 4000000 in
set_option maxRecDepth 100000 in
theorem c_X5_told_3 (l : Launch) (D : va_G) (cA : Nat → ClassId) (ar : Nat → Nat) (M : Nat → Nat → Int32) (ns s_ t L : Nat) (hns : M 17 0 = nI ns) (hn3 : ns ≤ 3) (hs : s_ < ns) (ht : M 19 s_ = nI t) (ht2 : t < 2 ^ 31) (hl : M 21 s_ = nI L) (hL0 : 0 < L) (hL : L ≤ 8) : Cr l D cA yX5_told cX5_told 4 (some .int) 2 ([.ref (ar 100), .int (nI s_), .int (nI 3)] : List Value) (wR cA ar M) (fun r : Option Value => r = some (.int (M 25 s_))) := by
  refine x_met (by decide +kernel) rfl (Nat.le_of_ble_eq_true rfl) ?_
  intro xp xe xs xm xbl xme xco F hnm
  refine x_lv [(0, .ref (ar 100)), (1, .int (nI s_)), (2, .int (nI 3))] [0, 1, 2] rfl ?_
  have hS : nI 0 ≤ nI s_ ∧ nI s_ ≤ M 17 0 - nI 1 := by rw [hns, pk_sub (by omega)]; exact wn_in (by omega) (by omega)
  refine x_aload_n F 0 dX5_told_0 rfl ?_
  refine x_iload_n F 1 dX5_told_1 rfl ?_
  refine x_callVr F [] [0, 1, 2, 3, 4, 5, 6, 7, 8, 9, 10, 11, 12, 13, 14, 15, 16, 17, 18, 19, 20, 21, 22, 23, 24, 25] (c_X5_isSolve l D cA ar M (nI s_)) mwX5_isSolve wmX5_149 rfl (q0 := 0) rfl rfl rfl (Nat.le_of_ble_eq_true rfl) ⟨by decide, by decide⟩ ⟨by show _ ≤ 0; omega, by show _ ≤ 0; omega⟩ rfl (by decide) dX5_told_2 (fun r1 hp2 => ?_)
  subst hp2
  refine x_if_eq F 18 dX5_told_5 (by decide) (fun h5 => ?_) (fun h5 => ?_)
  · exact absurd hS (bz_0.mp h5)
  · refine x_iload_n F 2 dX5_told_8 rfl ?_
    refine x_iconst F (nI 0) dX5_told_9 (by decide +kernel) ?_
    refine x_bipush F (nI 6) dX5_told_10 (by decide +kernel) ?_
    refine x_callSr F [] [] (c_X5_in l D cA (nI 3) (nI 0) (nI 6)) mwX5_in wmX5_101 rfl rfl (Nat.le_of_ble_eq_true rfl) ⟨by decide, by decide⟩ ⟨by show _ ≤ 0; omega, by show _ ≤ 0; omega⟩ rfl (by decide) dX5_told_12 (fun r3 hp4 => ?_)
    subst hp4
    refine x_if_ne F 21 dX5_told_15 (by decide) (fun h15 => ?_) (fun h15 => ?_)
    · refine x_bipush F (nI 8) dX5_told_21 (by decide +kernel) ?_
      refine x_iload_n F 1 dX5_told_23 rfl ?_
      refine x_imul F (nI (8 * s_)) dX5_told_24 (pk_mul _ _) ?_
      refine x_aload_n F 0 dX5_told_25 rfl ?_
      refine x_get F inUX5 0 19 rfl rfl (by decide) wfX5_53 rfl dX5_told_26 ?_
      refine x_iload_n F 1 dX5_told_29 rfl ?_
      refine x_iald F 15 (k := s_) rfl (by omega) (by decide) dX5_told_30 ?_
      refine x_top (nI t) (ht) ?_
      refine x_aload_n F 0 dX5_told_31 rfl ?_
      refine x_get F inUX5 0 21 rfl rfl (by decide) wfX5_59 rfl dX5_told_32 ?_
      refine x_iload_n F 1 dX5_told_35 rfl ?_
      refine x_iald F 17 (k := s_) rfl (by omega) (by decide) dX5_told_36 ?_
      refine x_top (nI L) (hl) ?_
      refine x_irem F ((nI t) - (nI t) / (nI L) * (nI L)) dX5_told_37 (nI_ne0 hL0 (by omega)) rfl ?_
      refine x_top (nI (t % L)) (pk_rem ht2 hL0 (by omega)) ?_
      have htl := Nat.mod_lt t hL0
      refine x_iadd F (nI ((8 * s_) + (t % L))) dX5_told_38 (nI_add _ _) ?_
      refine x_istore_n F [(3, .int (nI ((8 * s_) + (t % L)))), (0, .ref (ar 100)), (1, .int (nI s_)), (2, .int (nI 3))] dX5_told_39 (by decide) rfl ?_
      refine x_iload_n F 3 dX5_told_40 rfl ?_
      refine x_top (nI 3) (rfl) ?_
      refine x_tableIn F 101 dX5_told_41 (by decide +kernel) (by decide +kernel) (off := 60) (by decide +kernel) (by decide) ?_
      refine x_aload_n F 1 dX5_told_101 rfl ?_
      refine x_get F inUX5 0 25 rfl rfl (by decide) wfX5_71 rfl dX5_told_102 ?_
      refine x_iload_n F 2 dX5_told_105 rfl ?_
      refine x_iald F 21 (k := s_) rfl (by omega) (by decide) dX5_told_106 ?_
      exact x_iret F () (rfl) (rfl) (by omega) (by omega) dX5_told_107
    · exact absurd (wn_in (n := 6) (show 3 ≤ 6 by decide) (by decide)) (bz_0.mp h15)

set_option maxHeartbeats 4000000 in
set_option maxRecDepth 100000 in
theorem c_X5_told_4 (l : Launch) (D : va_G) (cA : Nat → ClassId) (ar : Nat → Nat) (M : Nat → Nat → Int32) (ns s_ t L : Nat) (hns : M 17 0 = nI ns) (hn3 : ns ≤ 3) (hs : s_ < ns) (ht : M 19 s_ = nI t) (ht2 : t < 2 ^ 31) (hl : M 21 s_ = nI L) (hL0 : 0 < L) (hL : L ≤ 8) : Cr l D cA yX5_told cX5_told 4 (some .int) 2 ([.ref (ar 100), .int (nI s_), .int (nI 4)] : List Value) (wR cA ar M) (fun r : Option Value => r = some (.int (M 20 s_))) := by
  refine x_met (by decide +kernel) rfl (Nat.le_of_ble_eq_true rfl) ?_
  intro xp xe xs xm xbl xme xco F hnm
  refine x_lv [(0, .ref (ar 100)), (1, .int (nI s_)), (2, .int (nI 4))] [0, 1, 2] rfl ?_
  have hS : nI 0 ≤ nI s_ ∧ nI s_ ≤ M 17 0 - nI 1 := by rw [hns, pk_sub (by omega)]; exact wn_in (by omega) (by omega)
  refine x_aload_n F 0 dX5_told_0 rfl ?_
  refine x_iload_n F 1 dX5_told_1 rfl ?_
  refine x_callVr F [] [0, 1, 2, 3, 4, 5, 6, 7, 8, 9, 10, 11, 12, 13, 14, 15, 16, 17, 18, 19, 20, 21, 22, 23, 24, 25] (c_X5_isSolve l D cA ar M (nI s_)) mwX5_isSolve wmX5_149 rfl (q0 := 0) rfl rfl rfl (Nat.le_of_ble_eq_true rfl) ⟨by decide, by decide⟩ ⟨by show _ ≤ 0; omega, by show _ ≤ 0; omega⟩ rfl (by decide) dX5_told_2 (fun r1 hp2 => ?_)
  subst hp2
  refine x_if_eq F 18 dX5_told_5 (by decide) (fun h5 => ?_) (fun h5 => ?_)
  · exact absurd hS (bz_0.mp h5)
  · refine x_iload_n F 2 dX5_told_8 rfl ?_
    refine x_iconst F (nI 0) dX5_told_9 (by decide +kernel) ?_
    refine x_bipush F (nI 6) dX5_told_10 (by decide +kernel) ?_
    refine x_callSr F [] [] (c_X5_in l D cA (nI 4) (nI 0) (nI 6)) mwX5_in wmX5_101 rfl rfl (Nat.le_of_ble_eq_true rfl) ⟨by decide, by decide⟩ ⟨by show _ ≤ 0; omega, by show _ ≤ 0; omega⟩ rfl (by decide) dX5_told_12 (fun r3 hp4 => ?_)
    subst hp4
    refine x_if_ne F 21 dX5_told_15 (by decide) (fun h15 => ?_) (fun h15 => ?_)
    · refine x_bipush F (nI 8) dX5_told_21 (by decide +kernel) ?_
      refine x_iload_n F 1 dX5_told_23 rfl ?_
      refine x_imul F (nI (8 * s_)) dX5_told_24 (pk_mul _ _) ?_
      refine x_aload_n F 0 dX5_told_25 rfl ?_
      refine x_get F inUX5 0 19 rfl rfl (by decide) wfX5_53 rfl dX5_told_26 ?_
      refine x_iload_n F 1 dX5_told_29 rfl ?_
      refine x_iald F 15 (k := s_) rfl (by omega) (by decide) dX5_told_30 ?_
      refine x_top (nI t) (ht) ?_
      refine x_aload_n F 0 dX5_told_31 rfl ?_
      refine x_get F inUX5 0 21 rfl rfl (by decide) wfX5_59 rfl dX5_told_32 ?_
      refine x_iload_n F 1 dX5_told_35 rfl ?_
      refine x_iald F 17 (k := s_) rfl (by omega) (by decide) dX5_told_36 ?_
      refine x_top (nI L) (hl) ?_
      refine x_irem F ((nI t) - (nI t) / (nI L) * (nI L)) dX5_told_37 (nI_ne0 hL0 (by omega)) rfl ?_
      refine x_top (nI (t % L)) (pk_rem ht2 hL0 (by omega)) ?_
      have htl := Nat.mod_lt t hL0
      refine x_iadd F (nI ((8 * s_) + (t % L))) dX5_told_38 (nI_add _ _) ?_
      refine x_istore_n F [(3, .int (nI ((8 * s_) + (t % L)))), (0, .ref (ar 100)), (1, .int (nI s_)), (2, .int (nI 4))] dX5_told_39 (by decide) rfl ?_
      refine x_iload_n F 3 dX5_told_40 rfl ?_
      refine x_top (nI 4) (rfl) ?_
      refine x_tableIn F 108 dX5_told_41 (by decide +kernel) (by decide +kernel) (off := 67) (by decide +kernel) (by decide) ?_
      refine x_aload_n F 1 dX5_told_108 rfl ?_
      refine x_get F inUX5 0 20 rfl rfl (by decide) wfX5_56 rfl dX5_told_109 ?_
      refine x_iload_n F 2 dX5_told_112 rfl ?_
      refine x_iald F 16 (k := s_) rfl (by omega) (by decide) dX5_told_113 ?_
      exact x_iret F () (rfl) (rfl) (by omega) (by omega) dX5_told_114
    · exact absurd (wn_in (n := 6) (show 4 ≤ 6 by decide) (by decide)) (bz_0.mp h15)

set_option maxHeartbeats 4000000 in
set_option maxRecDepth 100000 in
theorem c_X5_told_5 (l : Launch) (D : va_G) (cA : Nat → ClassId) (ar : Nat → Nat) (M : Nat → Nat → Int32) (ns s_ t L : Nat) (hns : M 17 0 = nI ns) (hn3 : ns ≤ 3) (hs : s_ < ns) (ht : M 19 s_ = nI t) (ht2 : t < 2 ^ 31) (hl : M 21 s_ = nI L) (hL0 : 0 < L) (hL : L ≤ 8) : Cr l D cA yX5_told cX5_told 4 (some .int) 2 ([.ref (ar 100), .int (nI s_), .int (nI 5)] : List Value) (wR cA ar M) (fun r : Option Value => r = some (.int (M 22 (8 * s_ + t % L)))) := by
  refine x_met (by decide +kernel) rfl (Nat.le_of_ble_eq_true rfl) ?_
  intro xp xe xs xm xbl xme xco F hnm
  refine x_lv [(0, .ref (ar 100)), (1, .int (nI s_)), (2, .int (nI 5))] [0, 1, 2] rfl ?_
  have hS : nI 0 ≤ nI s_ ∧ nI s_ ≤ M 17 0 - nI 1 := by rw [hns, pk_sub (by omega)]; exact wn_in (by omega) (by omega)
  refine x_aload_n F 0 dX5_told_0 rfl ?_
  refine x_iload_n F 1 dX5_told_1 rfl ?_
  refine x_callVr F [] [0, 1, 2, 3, 4, 5, 6, 7, 8, 9, 10, 11, 12, 13, 14, 15, 16, 17, 18, 19, 20, 21, 22, 23, 24, 25] (c_X5_isSolve l D cA ar M (nI s_)) mwX5_isSolve wmX5_149 rfl (q0 := 0) rfl rfl rfl (Nat.le_of_ble_eq_true rfl) ⟨by decide, by decide⟩ ⟨by show _ ≤ 0; omega, by show _ ≤ 0; omega⟩ rfl (by decide) dX5_told_2 (fun r1 hp2 => ?_)
  subst hp2
  refine x_if_eq F 18 dX5_told_5 (by decide) (fun h5 => ?_) (fun h5 => ?_)
  · exact absurd hS (bz_0.mp h5)
  · refine x_iload_n F 2 dX5_told_8 rfl ?_
    refine x_iconst F (nI 0) dX5_told_9 (by decide +kernel) ?_
    refine x_bipush F (nI 6) dX5_told_10 (by decide +kernel) ?_
    refine x_callSr F [] [] (c_X5_in l D cA (nI 5) (nI 0) (nI 6)) mwX5_in wmX5_101 rfl rfl (Nat.le_of_ble_eq_true rfl) ⟨by decide, by decide⟩ ⟨by show _ ≤ 0; omega, by show _ ≤ 0; omega⟩ rfl (by decide) dX5_told_12 (fun r3 hp4 => ?_)
    subst hp4
    refine x_if_ne F 21 dX5_told_15 (by decide) (fun h15 => ?_) (fun h15 => ?_)
    · refine x_bipush F (nI 8) dX5_told_21 (by decide +kernel) ?_
      refine x_iload_n F 1 dX5_told_23 rfl ?_
      refine x_imul F (nI (8 * s_)) dX5_told_24 (pk_mul _ _) ?_
      refine x_aload_n F 0 dX5_told_25 rfl ?_
      refine x_get F inUX5 0 19 rfl rfl (by decide) wfX5_53 rfl dX5_told_26 ?_
      refine x_iload_n F 1 dX5_told_29 rfl ?_
      refine x_iald F 15 (k := s_) rfl (by omega) (by decide) dX5_told_30 ?_
      refine x_top (nI t) (ht) ?_
      refine x_aload_n F 0 dX5_told_31 rfl ?_
      refine x_get F inUX5 0 21 rfl rfl (by decide) wfX5_59 rfl dX5_told_32 ?_
      refine x_iload_n F 1 dX5_told_35 rfl ?_
      refine x_iald F 17 (k := s_) rfl (by omega) (by decide) dX5_told_36 ?_
      refine x_top (nI L) (hl) ?_
      refine x_irem F ((nI t) - (nI t) / (nI L) * (nI L)) dX5_told_37 (nI_ne0 hL0 (by omega)) rfl ?_
      refine x_top (nI (t % L)) (pk_rem ht2 hL0 (by omega)) ?_
      have htl := Nat.mod_lt t hL0
      refine x_iadd F (nI ((8 * s_) + (t % L))) dX5_told_38 (nI_add _ _) ?_
      refine x_istore_n F [(3, .int (nI ((8 * s_) + (t % L)))), (0, .ref (ar 100)), (1, .int (nI s_)), (2, .int (nI 5))] dX5_told_39 (by decide) rfl ?_
      refine x_iload_n F 3 dX5_told_40 rfl ?_
      refine x_top (nI 5) (rfl) ?_
      refine x_tableIn F 115 dX5_told_41 (by decide +kernel) (by decide +kernel) (off := 74) (by decide +kernel) (by decide) ?_
      refine x_aload_n F 1 dX5_told_115 rfl ?_
      refine x_get F inUX5 0 22 rfl rfl (by decide) wfX5_62 rfl dX5_told_116 ?_
      refine x_iload_n F 0 dX5_told_119 rfl ?_
      refine x_iald F 18 (k := (8 * s_) + (t % L)) rfl (by omega) (by decide) dX5_told_120 ?_
      exact x_iret F () (rfl) (rfl) (by omega) (by omega) dX5_told_121
    · exact absurd (wn_in (n := 6) (show 5 ≤ 6 by decide) (by decide)) (bz_0.mp h15)

set_option maxHeartbeats 4000000 in
set_option maxRecDepth 100000 in
theorem c_X5_told_6 (l : Launch) (D : va_G) (cA : Nat → ClassId) (ar : Nat → Nat) (M : Nat → Nat → Int32) (ns s_ t L : Nat) (hns : M 17 0 = nI ns) (hn3 : ns ≤ 3) (hs : s_ < ns) (ht : M 19 s_ = nI t) (ht2 : t < 2 ^ 31) (hl : M 21 s_ = nI L) (hL0 : 0 < L) (hL : L ≤ 8) : Cr l D cA yX5_told cX5_told 4 (some .int) 2 ([.ref (ar 100), .int (nI s_), .int (nI 6)] : List Value) (wR cA ar M) (fun r : Option Value => r = some (.int (M 23 (8 * s_ + t % L)))) := by
  refine x_met (by decide +kernel) rfl (Nat.le_of_ble_eq_true rfl) ?_
  intro xp xe xs xm xbl xme xco F hnm
  refine x_lv [(0, .ref (ar 100)), (1, .int (nI s_)), (2, .int (nI 6))] [0, 1, 2] rfl ?_
  have hS : nI 0 ≤ nI s_ ∧ nI s_ ≤ M 17 0 - nI 1 := by rw [hns, pk_sub (by omega)]; exact wn_in (by omega) (by omega)
  refine x_aload_n F 0 dX5_told_0 rfl ?_
  refine x_iload_n F 1 dX5_told_1 rfl ?_
  refine x_callVr F [] [0, 1, 2, 3, 4, 5, 6, 7, 8, 9, 10, 11, 12, 13, 14, 15, 16, 17, 18, 19, 20, 21, 22, 23, 24, 25] (c_X5_isSolve l D cA ar M (nI s_)) mwX5_isSolve wmX5_149 rfl (q0 := 0) rfl rfl rfl (Nat.le_of_ble_eq_true rfl) ⟨by decide, by decide⟩ ⟨by show _ ≤ 0; omega, by show _ ≤ 0; omega⟩ rfl (by decide) dX5_told_2 (fun r1 hp2 => ?_)
  subst hp2
  refine x_if_eq F 18 dX5_told_5 (by decide) (fun h5 => ?_) (fun h5 => ?_)
  · exact absurd hS (bz_0.mp h5)
  · refine x_iload_n F 2 dX5_told_8 rfl ?_
    refine x_iconst F (nI 0) dX5_told_9 (by decide +kernel) ?_
    refine x_bipush F (nI 6) dX5_told_10 (by decide +kernel) ?_
    refine x_callSr F [] [] (c_X5_in l D cA (nI 6) (nI 0) (nI 6)) mwX5_in wmX5_101 rfl rfl (Nat.le_of_ble_eq_true rfl) ⟨by decide, by decide⟩ ⟨by show _ ≤ 0; omega, by show _ ≤ 0; omega⟩ rfl (by decide) dX5_told_12 (fun r3 hp4 => ?_)
    subst hp4
    refine x_if_ne F 21 dX5_told_15 (by decide) (fun h15 => ?_) (fun h15 => ?_)
    · refine x_bipush F (nI 8) dX5_told_21 (by decide +kernel) ?_
      refine x_iload_n F 1 dX5_told_23 rfl ?_
      refine x_imul F (nI (8 * s_)) dX5_told_24 (pk_mul _ _) ?_
      refine x_aload_n F 0 dX5_told_25 rfl ?_
      refine x_get F inUX5 0 19 rfl rfl (by decide) wfX5_53 rfl dX5_told_26 ?_
      refine x_iload_n F 1 dX5_told_29 rfl ?_
      refine x_iald F 15 (k := s_) rfl (by omega) (by decide) dX5_told_30 ?_
      refine x_top (nI t) (ht) ?_
      refine x_aload_n F 0 dX5_told_31 rfl ?_
      refine x_get F inUX5 0 21 rfl rfl (by decide) wfX5_59 rfl dX5_told_32 ?_
      refine x_iload_n F 1 dX5_told_35 rfl ?_
      refine x_iald F 17 (k := s_) rfl (by omega) (by decide) dX5_told_36 ?_
      refine x_top (nI L) (hl) ?_
      refine x_irem F ((nI t) - (nI t) / (nI L) * (nI L)) dX5_told_37 (nI_ne0 hL0 (by omega)) rfl ?_
      refine x_top (nI (t % L)) (pk_rem ht2 hL0 (by omega)) ?_
      have htl := Nat.mod_lt t hL0
      refine x_iadd F (nI ((8 * s_) + (t % L))) dX5_told_38 (nI_add _ _) ?_
      refine x_istore_n F [(3, .int (nI ((8 * s_) + (t % L)))), (0, .ref (ar 100)), (1, .int (nI s_)), (2, .int (nI 6))] dX5_told_39 (by decide) rfl ?_
      refine x_iload_n F 3 dX5_told_40 rfl ?_
      refine x_top (nI 6) (rfl) ?_
      refine x_tableOut F 122 dX5_told_41 (by decide +kernel) (by decide) ?_
      refine x_aload_n F 1 dX5_told_122 rfl ?_
      refine x_get F inUX5 0 23 rfl rfl (by decide) wfX5_65 rfl dX5_told_123 ?_
      refine x_iload_n F 0 dX5_told_126 rfl ?_
      refine x_iald F 19 (k := (8 * s_) + (t % L)) rfl (by omega) (by decide) dX5_told_127 ?_
      exact x_iret F () (rfl) (rfl) (by omega) (by omega) dX5_told_128
    · exact absurd (wn_in (n := 6) (show 6 ≤ 6 by decide) (by decide)) (bz_0.mp h15)

theorem wn1 {x : Int32} {n : Nat} (hn : n < 2 ^ 31) (h : nI 1 ≤ x ∧ x ≤ nI n) : ∃ i : Nat, i < n ∧ x = nI (i + 1) := by
  obtain ⟨j, hj, rfl⟩ := wn hn ⟨Int32.le_trans (by decide +kernel) h.1, h.2⟩
  have h1 : 1 ≤ j := (nI_leI (by decide) (by omega)).mp h.1
  exact ⟨j - 1, by omega, by rw [show j - 1 + 1 = j by omega]⟩
theorem wn1_in {i n : Nat} (h : i < n) (hn : n < 2 ^ 31) : nI 1 ≤ nI (i + 1) ∧ nI (i + 1) ≤ nI n := ⟨nI_le (by omega) (by omega), nI_le (by omega) hn⟩
set_option maxHeartbeats 4000000 in
set_option maxRecDepth 100000 in
theorem c_X5_change (l : Launch) (D : va_G) (cA : Nat → ClassId) (ar : Nat → Nat) (M : Nat → Nat → Int32) (cnt : Nat) (p1 : Int32) (hc : M 0 0 = nI cnt) (hcn : cnt ≤ 120) : Cr l D cA yX5_change cX5_change 2 (some .int) 1 ([.ref (ar 100), .int p1] : List Value) (wR cA ar M) (fun r : Option Value => (¬ (nI 1 ≤ p1 ∧ p1 ≤ nI cnt) → r = some (.int (-2))) ∧ (∀ i : Nat, i < cnt → p1 = nI (i + 1) → r = some (.int (M 1 i)))) := by
  refine x_met (by decide +kernel) rfl (Nat.le_of_ble_eq_true rfl) ?_
  intro xp xe xs xm xbl xme xco F hnm
  refine x_lv [(0, .ref (ar 100)), (1, .int p1)] [0, 1] rfl ?_
  refine x_iload_n F 1 dX5_change_0 rfl ?_
  refine x_iconst F (nI 1) dX5_change_1 (by decide +kernel) ?_
  refine x_aload_n F 0 dX5_change_2 rfl ?_
  refine x_get F inUX5 0 0 rfl rfl (by decide) wfX5_97 rfl dX5_change_3 ?_
  refine x_top (nI cnt) (hc) ?_
  refine x_callSr F [] [] (c_X5_in l D cA p1 (nI 1) (nI cnt)) mwX5_in wmX5_101 rfl rfl (Nat.le_of_ble_eq_true rfl) ⟨by decide, by decide⟩ ⟨by show _ ≤ 0; omega, by show _ ≤ 0; omega⟩ rfl (by decide) dX5_change_6 (fun r1 hp2 => ?_)
  subst hp2
  refine x_if_eq F 23 dX5_change_9 (by decide) (fun h9 => ?_) (fun h9 => ?_)
  · refine x_bipush F (-2) dX5_change_23 (by decide +kernel) ?_
    exact x_iret F () (⟨fun _ => rfl, fun i hi e => absurd (by rw [e]; exact wn1_in hi (by omega)) (bz_0.mp h9)⟩) (rfl) (by omega) (by omega) dX5_change_25
  · have hin := bz_n0.mp h9
    obtain ⟨i, hi, rfl⟩ := wn1 (by omega) hin
    refine x_aload_n F 0 dX5_change_12 rfl ?_
    refine x_get F inUX5 0 1 rfl rfl (by decide) wfX5_7 rfl dX5_change_13 ?_
    refine x_iload_n F 1 dX5_change_16 rfl ?_
    refine x_iconst F (nI 1) dX5_change_17 (by decide +kernel) ?_
    refine x_isub F ((nI (i + 1)) - (nI 1)) dX5_change_18 rfl ?_
    refine x_top (nI i) (nI_pred i) ?_
    refine x_iald F 1 (k := i) rfl (by omega) (by decide) dX5_change_19 ?_
    refine x_goto F 25 dX5_change_20 (by decide) ?_
    exact x_iret F () (⟨fun z => absurd hin z, fun i2 hi2 e => by rw [show i = i2 from by have := (nI_eq (by omega) (by omega)).mp e; omega]⟩) (rfl) (by omega) (by omega) dX5_change_25

set_option maxHeartbeats 4000000 in
set_option maxRecDepth 100000 in
theorem c_X5_ofAll_0 (l : Launch) (D : va_G) (cA : Nat → ClassId) (ar : Nat → Nat) (M : Nat → Nat → Int32)  : Cr l D cA yX5_ofAll cX5_ofAll 4 (some .int) 0 ([.ref (ar 100), .int (nI 0)] : List Value) (wR cA ar M) (fun r : Option Value => r = some (.int (nI (thc (slc 4 M) 16)))) := by
  refine x_met (by decide +kernel) rfl (Nat.le_of_ble_eq_true rfl) ?_
  intro xp xe xs xm xbl xme xco F hnm
  refine x_lv [(0, .ref (ar 100)), (1, .int (nI 0))] [0, 1] rfl ?_
  refine x_iconst F (nI 0) dX5_ofAll_0 (by decide +kernel) ?_
  refine x_istore_n F [(2, .int (nI 0)), (0, .ref (ar 100)), (1, .int (nI 0))] dX5_ofAll_1 (by decide) rfl ?_
  refine x_iconst F (nI 0) dX5_ofAll_2 (by decide +kernel) ?_
  refine x_istore_n F [(3, .int (nI 0)), (2, .int (nI 0)), (0, .ref (ar 100)), (1, .int (nI 0))] dX5_ofAll_3 (by decide) rfl ?_
  refine x_lv [(0, .ref (ar 100)), (1, .int (nI 0)), (2, .int (nI 0)), (3, .int (nI 0))] [2, 3, 1, 0] rfl ?_
  have loop4 : ∀ (nn4 : Nat) (x : Nat) (y : Nat), (x ≤ 16) → (y = thc (slc 4 M) x) → (16 - x < nn4) → Wx xp l xe (rmL 0 0 0) xs xm ([.ref (ar 100), .int (nI 0)] : List Value).toArray xbl xme xco 0 0 (xQ xbl D (wR cA ar M) xs ([.ref (ar 100), .int (nI 0)] : List Value).toArray 0 0 (fun (r : Option Value) (_ : Unit) => r = some (.int (nI (thc (slc 4 M) 16)))) (fun _ : Unit => wR cA ar M)) 4 D (va_A (wR cA ar M) xs.heap.size) 4 [(0, .ref (ar 100)), (1, .int (nI 0)), (2, .int (nI y)), (3, .int (nI x))] [] (wR cA ar M) := by
    intro nn4
    induction nn4 with
    | zero =>
      intro x y hx ey hm4
      exact absurd hm4 (Nat.not_lt_zero _)
    | succ nn4 ih4 =>
      intro x y hx ey hm4
      refine x_iload_n F 3 dX5_ofAll_4 rfl ?_
      refine x_bipush F (nI 16) dX5_ofAll_5 (by decide +kernel) ?_
      refine x_icmp_ge F 36 dX5_ofAll_7 (by decide) (fun h7 => ?_) (fun h7 => ?_)
      · have h7n : 16 ≤ x := (nI_leI (by decide) (by omega)).mp h7
        obtain rfl : 16 = x := by omega
        refine x_iload_n F 1 dX5_ofAll_36 rfl ?_
        refine x_if_ne F 44 dX5_ofAll_37 (by decide) (fun h37 => ?_) (fun h37 => ?_)
        · have h37n : ¬ 0 = 0 := fun z => h37 (((nI_eq (by decide) (by decide)).mpr z).trans nI_0)
          exact absurd h37n (by decide)
        · have h37n : 0 = 0 := (nI_eq (by decide) (by decide)).mp (h37.trans nI_0.symm)
          refine x_iload_n F 2 dX5_ofAll_40 rfl ?_
          refine x_goto F 72 dX5_ofAll_41 (by decide) ?_
          exact x_iret F () (by rw [ey]) (rfl) (by omega) (by omega) dX5_ofAll_72
      · have h7n : ¬ 16 ≤ x := fun z => h7 ((nI_leI (by decide) (by omega)).mpr z)
        refine x_iload_n F 2 dX5_ofAll_10 rfl ?_
        refine x_aload_n F 0 dX5_ofAll_11 rfl ?_
        refine x_get F inUX5 0 6 rfl rfl (by decide) wfX5_25 rfl dX5_ofAll_12 ?_
        refine x_bipush F (nI 64) dX5_ofAll_15 (by decide +kernel) ?_
        refine x_iload_n F 3 dX5_ofAll_17 rfl ?_
        refine x_iadd F (nI (64 + x)) dX5_ofAll_18 (nI_add _ _) ?_
        refine x_zald F 6 (k := 64 + x) rfl (by omega) (by decide) dX5_ofAll_19 ?_
        refine x_if_eq F 27 dX5_ofAll_20 (by decide) (fun h20 => ?_) (fun h20 => ?_)
        · refine x_iconst F (nI 0) dX5_ofAll_27 (by decide +kernel) ?_
          refine x_iadd F (nI (y + 0)) dX5_ofAll_28 (nI_add _ _) ?_
          refine x_istore_n F [(2, .int (nI (y + 0))), (0, .ref (ar 100)), (1, .int (nI 0)), (3, .int (nI x))] dX5_ofAll_29 (by decide) rfl ?_
          refine x_iinc F (nI (x + 1)) 3 [(3, .int (nI (x + 1))), (2, .int (nI (y + 0))), (0, .ref (ar 100)), (1, .int (nI 0))] dX5_ofAll_30 rfl ((nI_add x 1)) (by decide) rfl ?_
          refine x_goto F 4 dX5_ofAll_33 (by decide) ?_
          refine x_lv [(0, .ref (ar 100)), (1, .int (nI 0)), (2, .int (nI (y + 0))), (3, .int (nI (x + 1)))] [2, 3, 1, 0] rfl ?_
          exact ih4 (x + 1) (y + 0) (by omega) (by unfold thc; rw [if_pos (show slc 4 M 2 x = 0 from h20)]; exact ey) (by omega)
        · refine x_iconst F (nI 1) dX5_ofAll_23 (by decide +kernel) ?_
          refine x_goto F 28 dX5_ofAll_24 (by decide) ?_
          refine x_iadd F (nI (y + 1)) dX5_ofAll_28 (nI_add _ _) ?_
          refine x_istore_n F [(2, .int (nI (y + 1))), (0, .ref (ar 100)), (1, .int (nI 0)), (3, .int (nI x))] dX5_ofAll_29 (by decide) rfl ?_
          refine x_iinc F (nI (x + 1)) 3 [(3, .int (nI (x + 1))), (2, .int (nI (y + 1))), (0, .ref (ar 100)), (1, .int (nI 0))] dX5_ofAll_30 rfl ((nI_add x 1)) (by decide) rfl ?_
          refine x_goto F 4 dX5_ofAll_33 (by decide) ?_
          refine x_lv [(0, .ref (ar 100)), (1, .int (nI 0)), (2, .int (nI (y + 1))), (3, .int (nI (x + 1)))] [2, 3, 1, 0] rfl ?_
          exact ih4 (x + 1) (y + 1) (by omega) (by unfold thc; rw [if_neg (show ¬ slc 4 M 2 x = 0 from h20), ey]) (by omega)
  exact loop4 _ 0 0 (Nat.zero_le _) rfl (Nat.lt_succ_self _)

set_option maxHeartbeats 4000000 in
set_option maxRecDepth 100000 in
theorem c_X5_ofAll_1 (l : Launch) (D : va_G) (cA : Nat → ClassId) (ar : Nat → Nat) (M : Nat → Nat → Int32)  : Cr l D cA yX5_ofAll cX5_ofAll 4 (some .int) 0 ([.ref (ar 100), .int (nI 1)] : List Value) (wR cA ar M) (fun r : Option Value => r = some (.int (M 13 0))) := by
  refine x_met (by decide +kernel) rfl (Nat.le_of_ble_eq_true rfl) ?_
  intro xp xe xs xm xbl xme xco F hnm
  refine x_lv [(0, .ref (ar 100)), (1, .int (nI 1))] [0, 1] rfl ?_
  refine x_iconst F (nI 0) dX5_ofAll_0 (by decide +kernel) ?_
  refine x_istore_n F [(2, .int (nI 0)), (0, .ref (ar 100)), (1, .int (nI 1))] dX5_ofAll_1 (by decide) rfl ?_
  refine x_iconst F (nI 0) dX5_ofAll_2 (by decide +kernel) ?_
  refine x_istore_n F [(3, .int (nI 0)), (2, .int (nI 0)), (0, .ref (ar 100)), (1, .int (nI 1))] dX5_ofAll_3 (by decide) rfl ?_
  refine x_lv [(0, .ref (ar 100)), (1, .int (nI 1)), (2, .int (nI 0)), (3, .int (nI 0))] [2, 3, 1, 0] rfl ?_
  have loop4 : ∀ (nn4 : Nat) (x : Nat) (y : Nat), (x ≤ 16) → (y = thc (slc 4 M) x) → (16 - x < nn4) → Wx xp l xe (rmL 0 0 0) xs xm ([.ref (ar 100), .int (nI 1)] : List Value).toArray xbl xme xco 0 0 (xQ xbl D (wR cA ar M) xs ([.ref (ar 100), .int (nI 1)] : List Value).toArray 0 0 (fun (r : Option Value) (_ : Unit) => r = some (.int (M 13 0))) (fun _ : Unit => wR cA ar M)) 4 D (va_A (wR cA ar M) xs.heap.size) 4 [(0, .ref (ar 100)), (1, .int (nI 1)), (2, .int (nI y)), (3, .int (nI x))] [] (wR cA ar M) := by
    intro nn4
    induction nn4 with
    | zero =>
      intro x y hx ey hm4
      exact absurd hm4 (Nat.not_lt_zero _)
    | succ nn4 ih4 =>
      intro x y hx ey hm4
      refine x_iload_n F 3 dX5_ofAll_4 rfl ?_
      refine x_bipush F (nI 16) dX5_ofAll_5 (by decide +kernel) ?_
      refine x_icmp_ge F 36 dX5_ofAll_7 (by decide) (fun h7 => ?_) (fun h7 => ?_)
      · have h7n : 16 ≤ x := (nI_leI (by decide) (by omega)).mp h7
        obtain rfl : 16 = x := by omega
        refine x_iload_n F 1 dX5_ofAll_36 rfl ?_
        refine x_if_ne F 44 dX5_ofAll_37 (by decide) (fun h37 => ?_) (fun h37 => ?_)
        · have h37n : ¬ 1 = 0 := fun z => h37 (((nI_eq (by decide) (by decide)).mpr z).trans nI_0)
          refine x_iload_n F 1 dX5_ofAll_44 rfl ?_
          refine x_iconst F (nI 1) dX5_ofAll_45 (by decide +kernel) ?_
          refine x_icmp_ne F 56 dX5_ofAll_46 (by decide) (fun h46 => ?_) (fun h46 => ?_)
          · have h46n : ¬ 1 = 1 := fun z => h46 ((nI_eq (by decide) (by decide)).mpr z)
            exact absurd h46n (by decide)
          · have h46n : 1 = 1 := (nI_eq (by decide) (by decide)).mp h46
            refine x_aload_n F 0 dX5_ofAll_49 rfl ?_
            refine x_get F inUX5 0 13 rfl rfl (by decide) wfX5_108 rfl dX5_ofAll_50 ?_
            refine x_goto F 72 dX5_ofAll_53 (by decide) ?_
            exact x_iret F () (rfl) (rfl) (by omega) (by omega) dX5_ofAll_72
        · have h37n : 1 = 0 := (nI_eq (by decide) (by decide)).mp (h37.trans nI_0.symm)
          exact absurd h37n (by decide)
      · have h7n : ¬ 16 ≤ x := fun z => h7 ((nI_leI (by decide) (by omega)).mpr z)
        refine x_iload_n F 2 dX5_ofAll_10 rfl ?_
        refine x_aload_n F 0 dX5_ofAll_11 rfl ?_
        refine x_get F inUX5 0 6 rfl rfl (by decide) wfX5_25 rfl dX5_ofAll_12 ?_
        refine x_bipush F (nI 64) dX5_ofAll_15 (by decide +kernel) ?_
        refine x_iload_n F 3 dX5_ofAll_17 rfl ?_
        refine x_iadd F (nI (64 + x)) dX5_ofAll_18 (nI_add _ _) ?_
        refine x_zald F 6 (k := 64 + x) rfl (by omega) (by decide) dX5_ofAll_19 ?_
        refine x_if_eq F 27 dX5_ofAll_20 (by decide) (fun h20 => ?_) (fun h20 => ?_)
        · refine x_iconst F (nI 0) dX5_ofAll_27 (by decide +kernel) ?_
          refine x_iadd F (nI (y + 0)) dX5_ofAll_28 (nI_add _ _) ?_
          refine x_istore_n F [(2, .int (nI (y + 0))), (0, .ref (ar 100)), (1, .int (nI 1)), (3, .int (nI x))] dX5_ofAll_29 (by decide) rfl ?_
          refine x_iinc F (nI (x + 1)) 3 [(3, .int (nI (x + 1))), (2, .int (nI (y + 0))), (0, .ref (ar 100)), (1, .int (nI 1))] dX5_ofAll_30 rfl ((nI_add x 1)) (by decide) rfl ?_
          refine x_goto F 4 dX5_ofAll_33 (by decide) ?_
          refine x_lv [(0, .ref (ar 100)), (1, .int (nI 1)), (2, .int (nI (y + 0))), (3, .int (nI (x + 1)))] [2, 3, 1, 0] rfl ?_
          exact ih4 (x + 1) (y + 0) (by omega) (by unfold thc; rw [if_pos (show slc 4 M 2 x = 0 from h20)]; exact ey) (by omega)
        · refine x_iconst F (nI 1) dX5_ofAll_23 (by decide +kernel) ?_
          refine x_goto F 28 dX5_ofAll_24 (by decide) ?_
          refine x_iadd F (nI (y + 1)) dX5_ofAll_28 (nI_add _ _) ?_
          refine x_istore_n F [(2, .int (nI (y + 1))), (0, .ref (ar 100)), (1, .int (nI 1)), (3, .int (nI x))] dX5_ofAll_29 (by decide) rfl ?_
          refine x_iinc F (nI (x + 1)) 3 [(3, .int (nI (x + 1))), (2, .int (nI (y + 1))), (0, .ref (ar 100)), (1, .int (nI 1))] dX5_ofAll_30 rfl ((nI_add x 1)) (by decide) rfl ?_
          refine x_goto F 4 dX5_ofAll_33 (by decide) ?_
          refine x_lv [(0, .ref (ar 100)), (1, .int (nI 1)), (2, .int (nI (y + 1))), (3, .int (nI (x + 1)))] [2, 3, 1, 0] rfl ?_
          exact ih4 (x + 1) (y + 1) (by omega) (by unfold thc; rw [if_neg (show ¬ slc 4 M 2 x = 0 from h20), ey]) (by omega)
  exact loop4 _ 0 0 (Nat.zero_le _) rfl (Nat.lt_succ_self _)

set_option maxHeartbeats 4000000 in
set_option maxRecDepth 100000 in
theorem c_X5_ofAll_2 (l : Launch) (D : va_G) (cA : Nat → ClassId) (ar : Nat → Nat) (M : Nat → Nat → Int32)  : Cr l D cA yX5_ofAll cX5_ofAll 4 (some .int) 0 ([.ref (ar 100), .int (nI 2)] : List Value) (wR cA ar M) (fun r : Option Value => r = some (.int (M 0 0))) := by
  refine x_met (by decide +kernel) rfl (Nat.le_of_ble_eq_true rfl) ?_
  intro xp xe xs xm xbl xme xco F hnm
  refine x_lv [(0, .ref (ar 100)), (1, .int (nI 2))] [0, 1] rfl ?_
  refine x_iconst F (nI 0) dX5_ofAll_0 (by decide +kernel) ?_
  refine x_istore_n F [(2, .int (nI 0)), (0, .ref (ar 100)), (1, .int (nI 2))] dX5_ofAll_1 (by decide) rfl ?_
  refine x_iconst F (nI 0) dX5_ofAll_2 (by decide +kernel) ?_
  refine x_istore_n F [(3, .int (nI 0)), (2, .int (nI 0)), (0, .ref (ar 100)), (1, .int (nI 2))] dX5_ofAll_3 (by decide) rfl ?_
  refine x_lv [(0, .ref (ar 100)), (1, .int (nI 2)), (2, .int (nI 0)), (3, .int (nI 0))] [2, 3, 1, 0] rfl ?_
  have loop4 : ∀ (nn4 : Nat) (x : Nat) (y : Nat), (x ≤ 16) → (y = thc (slc 4 M) x) → (16 - x < nn4) → Wx xp l xe (rmL 0 0 0) xs xm ([.ref (ar 100), .int (nI 2)] : List Value).toArray xbl xme xco 0 0 (xQ xbl D (wR cA ar M) xs ([.ref (ar 100), .int (nI 2)] : List Value).toArray 0 0 (fun (r : Option Value) (_ : Unit) => r = some (.int (M 0 0))) (fun _ : Unit => wR cA ar M)) 4 D (va_A (wR cA ar M) xs.heap.size) 4 [(0, .ref (ar 100)), (1, .int (nI 2)), (2, .int (nI y)), (3, .int (nI x))] [] (wR cA ar M) := by
    intro nn4
    induction nn4 with
    | zero =>
      intro x y hx ey hm4
      exact absurd hm4 (Nat.not_lt_zero _)
    | succ nn4 ih4 =>
      intro x y hx ey hm4
      refine x_iload_n F 3 dX5_ofAll_4 rfl ?_
      refine x_bipush F (nI 16) dX5_ofAll_5 (by decide +kernel) ?_
      refine x_icmp_ge F 36 dX5_ofAll_7 (by decide) (fun h7 => ?_) (fun h7 => ?_)
      · have h7n : 16 ≤ x := (nI_leI (by decide) (by omega)).mp h7
        obtain rfl : 16 = x := by omega
        refine x_iload_n F 1 dX5_ofAll_36 rfl ?_
        refine x_if_ne F 44 dX5_ofAll_37 (by decide) (fun h37 => ?_) (fun h37 => ?_)
        · have h37n : ¬ 2 = 0 := fun z => h37 (((nI_eq (by decide) (by decide)).mpr z).trans nI_0)
          refine x_iload_n F 1 dX5_ofAll_44 rfl ?_
          refine x_iconst F (nI 1) dX5_ofAll_45 (by decide +kernel) ?_
          refine x_icmp_ne F 56 dX5_ofAll_46 (by decide) (fun h46 => ?_) (fun h46 => ?_)
          · have h46n : ¬ 2 = 1 := fun z => h46 ((nI_eq (by decide) (by decide)).mpr z)
            refine x_iload_n F 1 dX5_ofAll_56 rfl ?_
            refine x_iconst F (nI 2) dX5_ofAll_57 (by decide +kernel) ?_
            refine x_icmp_ne F 68 dX5_ofAll_58 (by decide) (fun h58 => ?_) (fun h58 => ?_)
            · have h58n : ¬ 2 = 2 := fun z => h58 ((nI_eq (by decide) (by decide)).mpr z)
              exact absurd h58n (by decide)
            · have h58n : 2 = 2 := (nI_eq (by decide) (by decide)).mp h58
              refine x_aload_n F 0 dX5_ofAll_61 rfl ?_
              refine x_get F inUX5 0 0 rfl rfl (by decide) wfX5_97 rfl dX5_ofAll_62 ?_
              refine x_goto F 72 dX5_ofAll_65 (by decide) ?_
              exact x_iret F () (rfl) (rfl) (by omega) (by omega) dX5_ofAll_72
          · have h46n : 2 = 1 := (nI_eq (by decide) (by decide)).mp h46
            exact absurd h46n (by decide)
        · have h37n : 2 = 0 := (nI_eq (by decide) (by decide)).mp (h37.trans nI_0.symm)
          exact absurd h37n (by decide)
      · have h7n : ¬ 16 ≤ x := fun z => h7 ((nI_leI (by decide) (by omega)).mpr z)
        refine x_iload_n F 2 dX5_ofAll_10 rfl ?_
        refine x_aload_n F 0 dX5_ofAll_11 rfl ?_
        refine x_get F inUX5 0 6 rfl rfl (by decide) wfX5_25 rfl dX5_ofAll_12 ?_
        refine x_bipush F (nI 64) dX5_ofAll_15 (by decide +kernel) ?_
        refine x_iload_n F 3 dX5_ofAll_17 rfl ?_
        refine x_iadd F (nI (64 + x)) dX5_ofAll_18 (nI_add _ _) ?_
        refine x_zald F 6 (k := 64 + x) rfl (by omega) (by decide) dX5_ofAll_19 ?_
        refine x_if_eq F 27 dX5_ofAll_20 (by decide) (fun h20 => ?_) (fun h20 => ?_)
        · refine x_iconst F (nI 0) dX5_ofAll_27 (by decide +kernel) ?_
          refine x_iadd F (nI (y + 0)) dX5_ofAll_28 (nI_add _ _) ?_
          refine x_istore_n F [(2, .int (nI (y + 0))), (0, .ref (ar 100)), (1, .int (nI 2)), (3, .int (nI x))] dX5_ofAll_29 (by decide) rfl ?_
          refine x_iinc F (nI (x + 1)) 3 [(3, .int (nI (x + 1))), (2, .int (nI (y + 0))), (0, .ref (ar 100)), (1, .int (nI 2))] dX5_ofAll_30 rfl ((nI_add x 1)) (by decide) rfl ?_
          refine x_goto F 4 dX5_ofAll_33 (by decide) ?_
          refine x_lv [(0, .ref (ar 100)), (1, .int (nI 2)), (2, .int (nI (y + 0))), (3, .int (nI (x + 1)))] [2, 3, 1, 0] rfl ?_
          exact ih4 (x + 1) (y + 0) (by omega) (by unfold thc; rw [if_pos (show slc 4 M 2 x = 0 from h20)]; exact ey) (by omega)
        · refine x_iconst F (nI 1) dX5_ofAll_23 (by decide +kernel) ?_
          refine x_goto F 28 dX5_ofAll_24 (by decide) ?_
          refine x_iadd F (nI (y + 1)) dX5_ofAll_28 (nI_add _ _) ?_
          refine x_istore_n F [(2, .int (nI (y + 1))), (0, .ref (ar 100)), (1, .int (nI 2)), (3, .int (nI x))] dX5_ofAll_29 (by decide) rfl ?_
          refine x_iinc F (nI (x + 1)) 3 [(3, .int (nI (x + 1))), (2, .int (nI (y + 1))), (0, .ref (ar 100)), (1, .int (nI 2))] dX5_ofAll_30 rfl ((nI_add x 1)) (by decide) rfl ?_
          refine x_goto F 4 dX5_ofAll_33 (by decide) ?_
          refine x_lv [(0, .ref (ar 100)), (1, .int (nI 2)), (2, .int (nI (y + 1))), (3, .int (nI (x + 1)))] [2, 3, 1, 0] rfl ?_
          exact ih4 (x + 1) (y + 1) (by omega) (by unfold thc; rw [if_neg (show ¬ slc 4 M 2 x = 0 from h20), ey]) (by omega)
  exact loop4 _ 0 0 (Nat.zero_le _) rfl (Nat.lt_succ_self _)

set_option maxHeartbeats 4000000 in
set_option maxRecDepth 100000 in
theorem c_X5_ofAll_3 (l : Launch) (D : va_G) (cA : Nat → ClassId) (ar : Nat → Nat) (M : Nat → Nat → Int32)  : Cr l D cA yX5_ofAll cX5_ofAll 4 (some .int) 0 ([.ref (ar 100), .int (nI 3)] : List Value) (wR cA ar M) (fun r : Option Value => r = some (.int (M 17 0))) := by
  refine x_met (by decide +kernel) rfl (Nat.le_of_ble_eq_true rfl) ?_
  intro xp xe xs xm xbl xme xco F hnm
  refine x_lv [(0, .ref (ar 100)), (1, .int (nI 3))] [0, 1] rfl ?_
  refine x_iconst F (nI 0) dX5_ofAll_0 (by decide +kernel) ?_
  refine x_istore_n F [(2, .int (nI 0)), (0, .ref (ar 100)), (1, .int (nI 3))] dX5_ofAll_1 (by decide) rfl ?_
  refine x_iconst F (nI 0) dX5_ofAll_2 (by decide +kernel) ?_
  refine x_istore_n F [(3, .int (nI 0)), (2, .int (nI 0)), (0, .ref (ar 100)), (1, .int (nI 3))] dX5_ofAll_3 (by decide) rfl ?_
  refine x_lv [(0, .ref (ar 100)), (1, .int (nI 3)), (2, .int (nI 0)), (3, .int (nI 0))] [2, 3, 1, 0] rfl ?_
  have loop4 : ∀ (nn4 : Nat) (x : Nat) (y : Nat), (x ≤ 16) → (y = thc (slc 4 M) x) → (16 - x < nn4) → Wx xp l xe (rmL 0 0 0) xs xm ([.ref (ar 100), .int (nI 3)] : List Value).toArray xbl xme xco 0 0 (xQ xbl D (wR cA ar M) xs ([.ref (ar 100), .int (nI 3)] : List Value).toArray 0 0 (fun (r : Option Value) (_ : Unit) => r = some (.int (M 17 0))) (fun _ : Unit => wR cA ar M)) 4 D (va_A (wR cA ar M) xs.heap.size) 4 [(0, .ref (ar 100)), (1, .int (nI 3)), (2, .int (nI y)), (3, .int (nI x))] [] (wR cA ar M) := by
    intro nn4
    induction nn4 with
    | zero =>
      intro x y hx ey hm4
      exact absurd hm4 (Nat.not_lt_zero _)
    | succ nn4 ih4 =>
      intro x y hx ey hm4
      refine x_iload_n F 3 dX5_ofAll_4 rfl ?_
      refine x_bipush F (nI 16) dX5_ofAll_5 (by decide +kernel) ?_
      refine x_icmp_ge F 36 dX5_ofAll_7 (by decide) (fun h7 => ?_) (fun h7 => ?_)
      · have h7n : 16 ≤ x := (nI_leI (by decide) (by omega)).mp h7
        obtain rfl : 16 = x := by omega
        refine x_iload_n F 1 dX5_ofAll_36 rfl ?_
        refine x_if_ne F 44 dX5_ofAll_37 (by decide) (fun h37 => ?_) (fun h37 => ?_)
        · have h37n : ¬ 3 = 0 := fun z => h37 (((nI_eq (by decide) (by decide)).mpr z).trans nI_0)
          refine x_iload_n F 1 dX5_ofAll_44 rfl ?_
          refine x_iconst F (nI 1) dX5_ofAll_45 (by decide +kernel) ?_
          refine x_icmp_ne F 56 dX5_ofAll_46 (by decide) (fun h46 => ?_) (fun h46 => ?_)
          · have h46n : ¬ 3 = 1 := fun z => h46 ((nI_eq (by decide) (by decide)).mpr z)
            refine x_iload_n F 1 dX5_ofAll_56 rfl ?_
            refine x_iconst F (nI 2) dX5_ofAll_57 (by decide +kernel) ?_
            refine x_icmp_ne F 68 dX5_ofAll_58 (by decide) (fun h58 => ?_) (fun h58 => ?_)
            · have h58n : ¬ 3 = 2 := fun z => h58 ((nI_eq (by decide) (by decide)).mpr z)
              refine x_aload_n F 0 dX5_ofAll_68 rfl ?_
              refine x_get F inUX5 0 17 rfl rfl (by decide) wfX5_129 rfl dX5_ofAll_69 ?_
              exact x_iret F () (rfl) (rfl) (by omega) (by omega) dX5_ofAll_72
            · have h58n : 3 = 2 := (nI_eq (by decide) (by decide)).mp h58
              exact absurd h58n (by decide)
          · have h46n : 3 = 1 := (nI_eq (by decide) (by decide)).mp h46
            exact absurd h46n (by decide)
        · have h37n : 3 = 0 := (nI_eq (by decide) (by decide)).mp (h37.trans nI_0.symm)
          exact absurd h37n (by decide)
      · have h7n : ¬ 16 ≤ x := fun z => h7 ((nI_leI (by decide) (by omega)).mpr z)
        refine x_iload_n F 2 dX5_ofAll_10 rfl ?_
        refine x_aload_n F 0 dX5_ofAll_11 rfl ?_
        refine x_get F inUX5 0 6 rfl rfl (by decide) wfX5_25 rfl dX5_ofAll_12 ?_
        refine x_bipush F (nI 64) dX5_ofAll_15 (by decide +kernel) ?_
        refine x_iload_n F 3 dX5_ofAll_17 rfl ?_
        refine x_iadd F (nI (64 + x)) dX5_ofAll_18 (nI_add _ _) ?_
        refine x_zald F 6 (k := 64 + x) rfl (by omega) (by decide) dX5_ofAll_19 ?_
        refine x_if_eq F 27 dX5_ofAll_20 (by decide) (fun h20 => ?_) (fun h20 => ?_)
        · refine x_iconst F (nI 0) dX5_ofAll_27 (by decide +kernel) ?_
          refine x_iadd F (nI (y + 0)) dX5_ofAll_28 (nI_add _ _) ?_
          refine x_istore_n F [(2, .int (nI (y + 0))), (0, .ref (ar 100)), (1, .int (nI 3)), (3, .int (nI x))] dX5_ofAll_29 (by decide) rfl ?_
          refine x_iinc F (nI (x + 1)) 3 [(3, .int (nI (x + 1))), (2, .int (nI (y + 0))), (0, .ref (ar 100)), (1, .int (nI 3))] dX5_ofAll_30 rfl ((nI_add x 1)) (by decide) rfl ?_
          refine x_goto F 4 dX5_ofAll_33 (by decide) ?_
          refine x_lv [(0, .ref (ar 100)), (1, .int (nI 3)), (2, .int (nI (y + 0))), (3, .int (nI (x + 1)))] [2, 3, 1, 0] rfl ?_
          exact ih4 (x + 1) (y + 0) (by omega) (by unfold thc; rw [if_pos (show slc 4 M 2 x = 0 from h20)]; exact ey) (by omega)
        · refine x_iconst F (nI 1) dX5_ofAll_23 (by decide +kernel) ?_
          refine x_goto F 28 dX5_ofAll_24 (by decide) ?_
          refine x_iadd F (nI (y + 1)) dX5_ofAll_28 (nI_add _ _) ?_
          refine x_istore_n F [(2, .int (nI (y + 1))), (0, .ref (ar 100)), (1, .int (nI 3)), (3, .int (nI x))] dX5_ofAll_29 (by decide) rfl ?_
          refine x_iinc F (nI (x + 1)) 3 [(3, .int (nI (x + 1))), (2, .int (nI (y + 1))), (0, .ref (ar 100)), (1, .int (nI 3))] dX5_ofAll_30 rfl ((nI_add x 1)) (by decide) rfl ?_
          refine x_goto F 4 dX5_ofAll_33 (by decide) ?_
          refine x_lv [(0, .ref (ar 100)), (1, .int (nI 3)), (2, .int (nI (y + 1))), (3, .int (nI (x + 1)))] [2, 3, 1, 0] rfl ?_
          exact ih4 (x + 1) (y + 1) (by omega) (by unfold thc; rw [if_neg (show ¬ slc 4 M 2 x = 0 from h20), ey]) (by omega)
  exact loop4 _ 0 0 (Nat.zero_le _) rfl (Nat.lt_succ_self _)

set_option maxHeartbeats 4000000 in
set_option maxRecDepth 100000 in
theorem c_X5_solve_b (l : Launch) (D : va_G) (cA : Nat → ClassId) (ar : Nat → Nat) (M : Nat → Nat → Int32) (p1 p2 : Int32) (hb : ¬ (nI 1 ≤ p2 ∧ p2 ≤ nI 8)) : Cr l D cA yX5_solve cX5_solve 5 (some .int) 3 ([.ref (ar 100), .int p1, .int p2] : List Value) (wR cA ar M) (fun r : Option Value => r = some (.int (-2))) := by
  refine x_met (by decide +kernel) rfl (Nat.le_of_ble_eq_true rfl) ?_
  intro xp xe xs xm xbl xme xco F hnm
  refine x_lv [(0, .ref (ar 100)), (1, .int p1), (2, .int p2)] [0, 1, 2] rfl ?_
  refine x_iload_n F 2 dX5_solve_0 rfl ?_
  refine x_iconst F (nI 1) dX5_solve_1 (by decide +kernel) ?_
  refine x_bipush F (nI 8) dX5_solve_2 (by decide +kernel) ?_
  refine x_callSr F [] [] (c_X5_in l D cA p2 (nI 1) (nI 8)) mwX5_in wmX5_101 rfl rfl (Nat.le_of_ble_eq_true rfl) ⟨by decide, by decide⟩ ⟨by show _ ≤ 0; omega, by show _ ≤ 0; omega⟩ rfl (by decide) dX5_solve_4 (fun r1 hp2 => ?_)
  subst hp2
  refine x_if_ne F 13 dX5_solve_7 (by decide) (fun h7 => ?_) (fun h7 => ?_)
  · exact absurd (bz_n0.mp h7) hb
  · refine x_bipush F (-2) dX5_solve_10 (by decide +kernel) ?_
    exact x_iret F () (rfl) (rfl) (by omega) (by omega) dX5_solve_12

set_option maxHeartbeats 4000000 in
set_option maxRecDepth 100000 in
theorem c_X5_solve_f (l : Launch) (D : va_G) (cA : Nat → ClassId) (ar : Nat → Nat) (M : Nat → Nat → Int32) (p1 p2 : Int32) (hb : nI 1 ≤ p2 ∧ p2 ≤ nI 8) (hns : M 17 0 = nI 3) : Cr l D cA yX5_solve cX5_solve 5 (some .int) 3 ([.ref (ar 100), .int p1, .int p2] : List Value) (wR cA ar M) (fun r : Option Value => r = some (.int (-4))) := by
  refine x_met (by decide +kernel) rfl (Nat.le_of_ble_eq_true rfl) ?_
  intro xp xe xs xm xbl xme xco F hnm
  refine x_lv [(0, .ref (ar 100)), (1, .int p1), (2, .int p2)] [0, 1, 2] rfl ?_
  refine x_iload_n F 2 dX5_solve_0 rfl ?_
  refine x_iconst F (nI 1) dX5_solve_1 (by decide +kernel) ?_
  refine x_bipush F (nI 8) dX5_solve_2 (by decide +kernel) ?_
  refine x_callSr F [] [] (c_X5_in l D cA p2 (nI 1) (nI 8)) mwX5_in wmX5_101 rfl rfl (Nat.le_of_ble_eq_true rfl) ⟨by decide, by decide⟩ ⟨by show _ ≤ 0; omega, by show _ ≤ 0; omega⟩ rfl (by decide) dX5_solve_4 (fun r1 hp2 => ?_)
  subst hp2
  refine x_if_ne F 13 dX5_solve_7 (by decide) (fun h7 => ?_) (fun h7 => ?_)
  · refine x_aload_n F 0 dX5_solve_13 rfl ?_
    refine x_get F inUX5 0 17 rfl rfl (by decide) wfX5_129 rfl dX5_solve_14 ?_
    refine x_top (nI 3) (hns) ?_
    refine x_iconst F (nI 3) dX5_solve_17 (by decide +kernel) ?_
    refine x_icmp_ne F 24 dX5_solve_18 (by decide) (fun h18 => ?_) (fun h18 => ?_)
    · have h18n : ¬ 3 = 3 := fun z => h18 ((nI_eq (by decide) (by decide)).mpr z)
      exact absurd h18n (by decide)
    · have h18n : 3 = 3 := (nI_eq (by decide) (by decide)).mp h18
      refine x_bipush F (-4) dX5_solve_21 (by decide +kernel) ?_
      exact x_iret F () (rfl) (rfl) (by omega) (by omega) dX5_solve_23
  · exact absurd hb (bz_0.mp h7)

/-- a new solve's rooms, n of them -/
def nrR (M : Nat → Nat → Int32) (s n : Nat) : Nat → Nat → Int32 := fun k j => if k = 14 ∧ (16 * s ≤ j ∧ j < 16 * s + n ∨ 16 * (3 + s) ≤ j ∧ j < 16 * (3 + s) + n) then (-1) else M k j
theorem nrR_0 (M : Nat → Nat → Int32) (s : Nat) : nrR M s 0 = M := by
  funext k j; unfold nrR; rw [if_neg (by omega)]
theorem nrR_s (M : Nat → Nat → Int32) (s n : Nat) : st2 (st2 (nrR M s n) 14 (16 * s + n) (-1)) 14 (16 * (3 + s) + n) (-1) = nrR M s (n + 1) := by
  funext k j; simp only [nrR, st2_at]; repeat' split
  all_goals first | rfl | (exfalso; omega)
def sv0R (M : Nat → Nat → Int32) (s L : Nat) (x : Int32) : Nat → Nat → Int32 := st2 (st2 (st2 (st2 (st2 (st2 (st2 (st2 (fgS (st2 M 17 0 (nI (s + 1))) s 6) 18 s (nI 0)) 19 s (nI 0)) 20 s x) 21 s (nI L)) 24 s (nI 0)) 25 s (nI 0)) 26 (2 * s) (nI 0)) 26 (2 * s + 1) (nI 0)
def newR (M : Nat → Nat → Int32) (s L : Nat) (x : Int32) : Nat → Nat → Int32 := flR (nrR (sv0R M s L x) s 16) s L
set_option maxHeartbeats 4000000 in
set_option maxRecDepth 100000 in
theorem c_X5_solve_ok (l : Launch) (D : va_G) (cA : Nat → ClassId) (ar : Nat → Nat) (M : Nat → Nat → Int32) (ns L : Nat) (p1 : Int32) (hns : M 17 0 = nI ns) (hn3 : ns < 3) (hL1 : 1 ≤ L) (hL : L ≤ 8) : Cg l D cA yX5_solve cX5_solve 5 (some .int) 3 0 0 ([.ref (ar 100), .int p1, .int (nI L)] : List Value) (wR cA ar M) (fun (r : Option Value) (u : Nat → Nat → Int32) => r = some (.int (nI ns)) ∧ u = newR M ns L p1) (fun u : Nat → Nat → Int32 => wR cA ar u) := by
  refine x_met (by decide +kernel) rfl (Nat.le_of_ble_eq_true rfl) ?_
  intro xp xe xs xm xbl xme xco F hnm
  refine x_lv [(0, .ref (ar 100)), (1, .int p1), (2, .int (nI L))] [0, 1, 2] rfl ?_
  refine x_iload_n F 2 dX5_solve_0 rfl ?_
  refine x_iconst F (nI 1) dX5_solve_1 (by decide +kernel) ?_
  refine x_bipush F (nI 8) dX5_solve_2 (by decide +kernel) ?_
  refine x_callSr F [] [] (c_X5_in l D cA (nI L) (nI 1) (nI 8)) mwX5_in wmX5_101 rfl rfl (Nat.le_of_ble_eq_true rfl) ⟨by decide, by decide⟩ ⟨by show _ ≤ 0; omega, by show _ ≤ 0; omega⟩ rfl (by decide) dX5_solve_4 (fun r1 hp2 => ?_)
  subst hp2
  refine x_if_ne F 13 dX5_solve_7 (by decide) (fun h7 => ?_) (fun h7 => ?_)
  · refine x_aload_n F 0 dX5_solve_13 rfl ?_
    refine x_get F inUX5 0 17 rfl rfl (by decide) wfX5_129 rfl dX5_solve_14 ?_
    refine x_top (nI ns) (hns) ?_
    refine x_iconst F (nI 3) dX5_solve_17 (by decide +kernel) ?_
    refine x_icmp_ne F 24 dX5_solve_18 (by decide) (fun h18 => ?_) (fun h18 => ?_)
    · have h18n : ¬ ns = 3 := fun z => h18 ((nI_eq (by omega) (by decide)).mpr z)
      refine x_aload_n F 0 dX5_solve_24 rfl ?_
      refine x_get F inUX5 0 17 rfl rfl (by decide) wfX5_129 rfl dX5_solve_25 ?_
      refine x_top (nI ns) (hns) ?_
      refine x_istore_n F [(3, .int (nI ns)), (0, .ref (ar 100)), (1, .int p1), (2, .int (nI L))] dX5_solve_28 (by decide) rfl ?_
      refine x_aload_n F 1 dX5_solve_29 rfl ?_
      refine x_dup F dX5_solve_30 rfl ?_
      refine x_get F inUX5 0 17 rfl rfl (by decide) wfX5_129 rfl dX5_solve_31 ?_
      refine x_top (nI ns) (hns) ?_
      refine x_iconst F (nI 1) dX5_solve_34 (by decide +kernel) ?_
      refine x_iadd F (nI (ns + 1)) dX5_solve_35 (nI_add _ _) ?_
      refine x_put F inUX5 tyX5_ok nmX5 0 17 (wR cA ar (st2 M 17 0 (nI (ns + 1)))) rfl rfl (by decide) wfX5_129 rfl rfl rfl rfl (Nat.le_of_ble_eq_true rfl) rfl dX5_solve_36 ?_
      refine x_aload_n F 1 dX5_solve_39 rfl ?_
      refine x_iload_n F 0 dX5_solve_40 rfl ?_
      refine x_callV F [] ([]) [0, 1, 2, 3, 4, 5, 6, 7, 8, 9, 10, 11, 12, 13, 14, 15, 16, 17, 18, 19, 20, 21, 22, 23, 24, 25] [] (c_X5_forget l D cA ar (st2 M 17 0 (nI (ns + 1))) ns (by omega)) mwX5_forget wmX5_86 rfl (q0 := 0) rfl rfl rfl (Nat.le_of_ble_eq_true rfl) ⟨by decide, by decide⟩ ⟨by show _ ≤ 0; omega, by show _ ≤ 0; omega⟩ rfl rfl (by decide) (by decide) (by decide) dX5_solve_41 (fun r3 u4 hp5 => ?_)
      obtain ⟨rfl, rfl⟩ := hp5
      refine x_aload_n F 1 dX5_solve_44 rfl ?_
      refine x_get F inUX5 0 18 rfl rfl (by decide) wfX5_50 rfl dX5_solve_45 ?_
      refine x_iload_n F 0 dX5_solve_48 rfl ?_
      refine x_iconst F (nI 0) dX5_solve_49 (by decide +kernel) ?_
      refine x_iast F 14 (k := ns) (wR cA ar (st2 (fgS (st2 M 17 0 (nI (ns + 1))) ns 6) 18 ns (nI 0))) rfl (by omega) (by decide) rfl dX5_solve_50 ?_
      refine x_aload_n F 1 dX5_solve_51 rfl ?_
      refine x_get F inUX5 0 19 rfl rfl (by decide) wfX5_53 rfl dX5_solve_52 ?_
      refine x_iload_n F 0 dX5_solve_55 rfl ?_
      refine x_iconst F (nI 0) dX5_solve_56 (by decide +kernel) ?_
      refine x_iast F 15 (k := ns) (wR cA ar (st2 (st2 (fgS (st2 M 17 0 (nI (ns + 1))) ns 6) 18 ns (nI 0)) 19 ns (nI 0))) rfl (by omega) (by decide) rfl dX5_solve_57 ?_
      refine x_aload_n F 1 dX5_solve_58 rfl ?_
      refine x_get F inUX5 0 20 rfl rfl (by decide) wfX5_56 rfl dX5_solve_59 ?_
      refine x_iload_n F 0 dX5_solve_62 rfl ?_
      refine x_iload_n F 2 dX5_solve_63 rfl ?_
      refine x_iast F 16 (k := ns) (wR cA ar (st2 (st2 (st2 (fgS (st2 M 17 0 (nI (ns + 1))) ns 6) 18 ns (nI 0)) 19 ns (nI 0)) 20 ns p1)) rfl (by omega) (by decide) rfl dX5_solve_64 ?_
      refine x_aload_n F 1 dX5_solve_65 rfl ?_
      refine x_get F inUX5 0 21 rfl rfl (by decide) wfX5_59 rfl dX5_solve_66 ?_
      refine x_iload_n F 0 dX5_solve_69 rfl ?_
      refine x_iload_n F 3 dX5_solve_70 rfl ?_
      refine x_iast F 17 (k := ns) (wR cA ar (st2 (st2 (st2 (st2 (fgS (st2 M 17 0 (nI (ns + 1))) ns 6) 18 ns (nI 0)) 19 ns (nI 0)) 20 ns p1) 21 ns (nI L))) rfl (by omega) (by decide) rfl dX5_solve_71 ?_
      refine x_aload_n F 1 dX5_solve_72 rfl ?_
      refine x_get F inUX5 0 24 rfl rfl (by decide) wfX5_68 rfl dX5_solve_73 ?_
      refine x_iload_n F 0 dX5_solve_76 rfl ?_
      refine x_iconst F (nI 0) dX5_solve_77 (by decide +kernel) ?_
      refine x_iast F 20 (k := ns) (wR cA ar (st2 (st2 (st2 (st2 (st2 (fgS (st2 M 17 0 (nI (ns + 1))) ns 6) 18 ns (nI 0)) 19 ns (nI 0)) 20 ns p1) 21 ns (nI L)) 24 ns (nI 0))) rfl (by omega) (by decide) rfl dX5_solve_78 ?_
      refine x_aload_n F 1 dX5_solve_79 rfl ?_
      refine x_get F inUX5 0 25 rfl rfl (by decide) wfX5_71 rfl dX5_solve_80 ?_
      refine x_iload_n F 0 dX5_solve_83 rfl ?_
      refine x_iconst F (nI 0) dX5_solve_84 (by decide +kernel) ?_
      refine x_iast F 21 (k := ns) (wR cA ar (st2 (st2 (st2 (st2 (st2 (st2 (fgS (st2 M 17 0 (nI (ns + 1))) ns 6) 18 ns (nI 0)) 19 ns (nI 0)) 20 ns p1) 21 ns (nI L)) 24 ns (nI 0)) 25 ns (nI 0))) rfl (by omega) (by decide) rfl dX5_solve_85 ?_
      refine x_aload_n F 1 dX5_solve_86 rfl ?_
      refine x_get F inUX5 0 26 rfl rfl (by decide) wfX5_74 rfl dX5_solve_87 ?_
      refine x_iconst F (nI 2) dX5_solve_90 (by decide +kernel) ?_
      refine x_iload_n F 0 dX5_solve_91 rfl ?_
      refine x_imul F (nI (2 * ns)) dX5_solve_92 (pk_mul _ _) ?_
      refine x_iconst F (nI 0) dX5_solve_93 (by decide +kernel) ?_
      refine x_zast F 22 (k := 2 * ns) (wR cA ar (st2 (st2 (st2 (st2 (st2 (st2 (st2 (fgS (st2 M 17 0 (nI (ns + 1))) ns 6) 18 ns (nI 0)) 19 ns (nI 0)) 20 ns p1) 21 ns (nI L)) 24 ns (nI 0)) 25 ns (nI 0)) 26 (2 * ns) (nI 0))) rfl (by omega) (by decide) (by decide +kernel) rfl dX5_solve_94 ?_
      refine x_aload_n F 1 dX5_solve_95 rfl ?_
      refine x_get F inUX5 0 26 rfl rfl (by decide) wfX5_74 rfl dX5_solve_96 ?_
      refine x_iconst F (nI 2) dX5_solve_99 (by decide +kernel) ?_
      refine x_iload_n F 0 dX5_solve_100 rfl ?_
      refine x_imul F (nI (2 * ns)) dX5_solve_101 (pk_mul _ _) ?_
      refine x_iconst F (nI 1) dX5_solve_102 (by decide +kernel) ?_
      refine x_iadd F (nI ((2 * ns) + 1)) dX5_solve_103 (nI_add _ _) ?_
      refine x_iconst F (nI 0) dX5_solve_104 (by decide +kernel) ?_
      refine x_zast F 22 (k := (2 * ns) + 1) (wR cA ar (st2 (st2 (st2 (st2 (st2 (st2 (st2 (st2 (fgS (st2 M 17 0 (nI (ns + 1))) ns 6) 18 ns (nI 0)) 19 ns (nI 0)) 20 ns p1) 21 ns (nI L)) 24 ns (nI 0)) 25 ns (nI 0)) 26 (2 * ns) (nI 0)) 26 ((2 * ns) + 1) (nI 0))) rfl (by omega) (by decide) (by decide +kernel) rfl dX5_solve_105 ?_
      refine x_iconst F (nI 0) dX5_solve_106 (by decide +kernel) ?_
      refine x_istore F [(4, .int (nI 0)), (3, .int (nI ns)), (0, .ref (ar 100)), (1, .int p1), (2, .int (nI L))] dX5_solve_107 (by decide) rfl ?_
      refine x_ws (wR cA ar (sv0R M ns L p1)) rfl ?_
      refine x_ws (wR cA ar (nrR (sv0R M ns L p1) ns 0)) (by rw [nrR_0]) ?_
      refine x_lv [(0, .ref (ar 100)), (1, .int p1), (2, .int (nI L)), (3, .int (nI ns)), (4, .int (nI 0))] [2, 3, 4, 1, 0] rfl ?_
      have loop109 : ∀ (nn109 : Nat) (x : Nat), (x ≤ 16) → (16 - x < nn109) → Wx xp l xe (rmL 3 0 0) xs xm ([.ref (ar 100), .int p1, .int (nI L)] : List Value).toArray xbl xme xco 0 0 (xQ xbl D (wR cA ar M) xs ([.ref (ar 100), .int p1, .int (nI L)] : List Value).toArray 0 0 (fun (r : Option Value) (u : Nat → Nat → Int32) => r = some (.int (nI ns)) ∧ u = newR M ns L p1) (fun u : Nat → Nat → Int32 => wR cA ar u)) 5 D (va_A (wR cA ar M) xs.heap.size) 109 [(0, .ref (ar 100)), (1, .int p1), (2, .int (nI L)), (3, .int (nI ns)), (4, .int (nI x))] [] (wR cA ar (nrR (sv0R M ns L p1) ns x)) := by
        intro nn109
        induction nn109 with
        | zero =>
          intro x hx hm109
          exact absurd hm109 (Nat.not_lt_zero _)
        | succ nn109 ih109 =>
          intro x hx hm109
          refine x_iload F 4 dX5_solve_109 rfl ?_
          refine x_bipush F (nI 16) dX5_solve_111 (by decide +kernel) ?_
          refine x_icmp_ge F 150 dX5_solve_113 (by decide) (fun h113 => ?_) (fun h113 => ?_)
          · have h113n : 16 ≤ x := (nI_leI (by decide) (by omega)).mp h113
            obtain rfl : 16 = x := by omega
            refine x_aload_n F 0 dX5_solve_150 rfl ?_
            refine x_iload_n F 3 dX5_solve_151 rfl ?_
            refine x_callV F [] ([]) [0, 1, 2, 3, 4, 5, 6, 7, 8, 9, 10, 11, 12, 13, 14, 15, 16, 17, 18, 19, 20, 21, 22, 23, 24, 25] [] (c_X5_fillLate l D cA ar (nrR (sv0R M ns L p1) ns 16) ns L hn3 (by simp [nrR, sv0R, st2, va_up, upd]) hL) mwX5_fillLate wmX5_132 rfl (q0 := 0) rfl rfl rfl (Nat.le_of_ble_eq_true rfl) ⟨by decide, by decide⟩ ⟨by show _ ≤ 0; omega, by show _ ≤ 0; omega⟩ rfl rfl (by decide) (by decide) (by decide) dX5_solve_152 (fun r6 u7 hp8 => ?_)
            obtain ⟨rfl, rfl⟩ := hp8
            refine x_iload_n F 3 dX5_solve_155 rfl ?_
            exact x_iret F (flR (nrR (sv0R M ns L p1) ns 16) ns L) (⟨rfl, rfl⟩) (rfl) (by omega) (by omega) dX5_solve_156
          · have h113n : ¬ 16 ≤ x := fun z => h113 ((nI_leI (by decide) (by omega)).mpr z)
            refine x_aload_n F 0 dX5_solve_116 rfl ?_
            refine x_get F inUX5 0 14 rfl rfl (by decide) wfX5_47 rfl dX5_solve_117 ?_
            refine x_bipush F (nI 16) dX5_solve_120 (by decide +kernel) ?_
            refine x_iload_n F 3 dX5_solve_122 rfl ?_
            refine x_imul F (nI (16 * ns)) dX5_solve_123 (pk_mul _ _) ?_
            refine x_iload F 4 dX5_solve_124 rfl ?_
            refine x_iadd F (nI ((16 * ns) + x)) dX5_solve_126 (nI_add _ _) ?_
            refine x_iconst F (-1) dX5_solve_127 (by decide +kernel) ?_
            refine x_iast F 13 (k := (16 * ns) + x) (wR cA ar (st2 (nrR (sv0R M ns L p1) ns x) 14 ((16 * ns) + x) (-1))) rfl (by omega) (by decide) rfl dX5_solve_128 ?_
            refine x_aload_n F 0 dX5_solve_129 rfl ?_
            refine x_get F inUX5 0 14 rfl rfl (by decide) wfX5_47 rfl dX5_solve_130 ?_
            refine x_bipush F (nI 16) dX5_solve_133 (by decide +kernel) ?_
            refine x_iconst F (nI 3) dX5_solve_135 (by decide +kernel) ?_
            refine x_iload_n F 3 dX5_solve_136 rfl ?_
            refine x_iadd F (nI (3 + ns)) dX5_solve_137 (nI_add _ _) ?_
            refine x_imul F (nI (16 * (3 + ns))) dX5_solve_138 (pk_mul _ _) ?_
            refine x_iload F 4 dX5_solve_139 rfl ?_
            refine x_iadd F (nI ((16 * (3 + ns)) + x)) dX5_solve_141 (nI_add _ _) ?_
            refine x_iconst F (-1) dX5_solve_142 (by decide +kernel) ?_
            refine x_iast F 13 (k := (16 * (3 + ns)) + x) (wR cA ar (st2 (st2 (nrR (sv0R M ns L p1) ns x) 14 ((16 * ns) + x) (-1)) 14 ((16 * (3 + ns)) + x) (-1))) rfl (by omega) (by decide) rfl dX5_solve_143 ?_
            refine x_iinc F (nI (x + 1)) 4 [(4, .int (nI (x + 1))), (0, .ref (ar 100)), (1, .int p1), (2, .int (nI L)), (3, .int (nI ns))] dX5_solve_144 rfl ((nI_add x 1)) (by decide) rfl ?_
            refine x_goto F 109 dX5_solve_147 (by decide) ?_
            rw [nrR_s]
            refine x_lv [(0, .ref (ar 100)), (1, .int p1), (2, .int (nI L)), (3, .int (nI ns)), (4, .int (nI (x + 1)))] [1, 2, 3, 4, 0] rfl ?_
            exact ih109 (x + 1) (by omega) (by omega)
      exact loop109 _ 0 (Nat.zero_le _) (Nat.lt_succ_self _)
    · have h18n : ns = 3 := (nI_eq (by omega) (by decide)).mp h18
      exact absurd h18n (by omega)
  · exact absurd ⟨nI_le hL1 (by omega), nI_le hL (by decide)⟩ (bz_0.mp h7)

